section
/-! ===== BUDGETS: a call's own account of what it made, whatever it was allowed ===== -/
def sx_ss (n : Nat) (H : Heap) : Nat := ((H.toList.drop n).map (·.slots.size)).sum
def sx_same (H H1 : Heap) : Prop := ∀ (a : Nat) (q : Cell), H[a]? = some q → ∃ q' : Cell, H1[a]? = some q' ∧ q'.slots.size = q.slots.size
theorem sx_same.rf (H : Heap) : sx_same H H := fun _ q h => ⟨q, h, rfl⟩
theorem sx_same.tr {H H1 H2 : Heap} (h : sx_same H H1) (h2 : sx_same H1 H2) : sx_same H H2 := fun a q hq => by
  obtain ⟨q1, a1, b1⟩ := h a q hq
  obtain ⟨q2, a2, b2⟩ := h2 a q1 a1
  exact ⟨q2, a2, b2.trans b1⟩
theorem sx_same.le {H H1 : Heap} (h : sx_same H H1) : H.size ≤ H1.size := by
  rcases Nat.eq_zero_or_pos H.size with h0 | h0
  · omega
  · have hlt : H.size - 1 < H.size := by omega
    obtain ⟨q', h1, -⟩ := h (H.size - 1) (H[H.size - 1]) (Array.getElem?_eq_getElem hlt)
    have := (Array.getElem?_eq_some_iff.mp h1).1
    omega
theorem sx_split {H H1 : Heap} (h : sx_same H H1) : H1.toList.map (·.slots.size) = H.toList.map (·.slots.size) ++ (H1.toList.map (·.slots.size)).drop H.size := by
  have hle := h.le
  apply List.ext_getElem?
  intro i
  by_cases hi : i < H.size
  · rw [List.getElem?_append_left (by simpa using hi)]
    obtain ⟨q', h1, h2⟩ := h i (H[i]) (Array.getElem?_eq_getElem hi)
    rw [List.getElem?_map, List.getElem?_map, Array.getElem?_toList, Array.getElem?_toList, h1, Array.getElem?_eq_getElem hi]
    simp [h2]
  · rw [List.getElem?_append_right (by simpa using hi), List.getElem?_drop]
    congr 1
    simp
    omega
theorem sx_ss_add {H H1 : Heap} {n : Nat} (hn : n ≤ H.size) (h : sx_same H H1) : sx_ss n H1 = sx_ss n H + sx_ss H.size H1 := by
  unfold sx_ss
  rw [List.map_drop, List.map_drop, List.map_drop, sx_split h, List.drop_append_of_le_length (by simpa using hn), List.sum_append]
  congr 2
  rw [List.drop_append_of_le_length (by simp)]
  simp
section SXT
variable {p : Program} {l : Launch} {e : Env} {R : Room} {s : State} {m : MethodId} {args : Array Value} {below : List Frame} {meth : Method} {c : Code}
theorem sx_of_same {s t : State} {L : List Loc} {k n : Nat} (h : s.sameButNew t L k n) : sx_same s.heap t.heap ∧ t.heap.size ≤ s.heap.size + k ∧ sx_ss s.heap.size t.heap ≤ n := by
  obtain ⟨-, -, h2, -, h4, h5⟩ := h
  refine ⟨fun a q hq => ?_, h2, h4⟩
  obtain ⟨c', a1, -, a3, -⟩ := h5 a q hq
  exact ⟨c', a1, a3⟩
theorem sx_tight {T : State} {locs : List Loc} {cells slots k n : Nat} (X : Stand p l e R s m args below meth c T locs cells slots) (h1 : T.heap.size ≤ s.heap.size + k) (h2 : sx_ss s.heap.size T.heap ≤ n) : Stand p l e R s m args below meth c T locs k n :=
  { X with same := ⟨X.same.1, X.same.2.1, h1, X.same.2.2.2.1, h2, X.same.2.2.2.2.2⟩ }
/-- how much a method made: k cells of n slots at the most -/
def sx_N (k n : Nat) (st t : State) : Prop := sx_same st.heap t.heap ∧ t.heap.size ≤ st.heap.size + k ∧ sx_ss st.heap.size t.heap ≤ n
/-- a method's end: its answer, its world, what it left alone, what it made -/
def sx_Q (r : Option Value) (B : State → Prop) (A : Nat → Prop) (k n : Nat) : Array Value → State → Outcome → State → Prop := fun _ st oc t => oc = .returned r ∧ B t ∧ va_F A st t ∧ sx_N k n st t
theorem sx_call {H : Heap} {locs : List Loc} {cells slots mc ms k n pc : Nat} {ls : Array Slot} {st0 rest : List Value} {Q : State → Prop} {A0 A1 : Nat → Prop} {H0 : Heap} {free : Addr → Prop} {r : Option Value} {B : State → Prop} {a : Array Value}
    (hr : va_Run p l e R s m args below meth c H locs cells slots mc ms (F0 m pc ls st0) rest (sx_Q r B A1 k n a) free) (hS : va_S A0 H0 H locs) (hA : ∀ q, q < H.size → A1 q → A0 q) (hf : ∀ q, free q → A0 q)
    (kk : ∀ (t : State) (H1 : Heap) (locs1 : List Loc), t.heap = H1 → s.vm.Alike t.vm → B t → H.size ≤ H1.size → (∀ q : Nat, q < H.size → ¬ A1 q → H1[q]? = H[q]?) → va_S A0 H0 H1 locs1 → W p l e R s m args below meth c H1 locs1 (cells + k) (slots + n) Q (F0 m (pc + 3) ls (r.toList ++ rest))) : W p l e R s m args below meth c H locs cells slots Q (F0 m pc ls st0) := by
  intro T hT X
  obtain ⟨v, st₀, t, T', L, h0, X', hL, e1, e2, ⟨hv, hb, ⟨hz, hk⟩, hN1, hN2, hN3⟩, st⟩ := hr T hT X
  cases hv
  rw [h0] at hz hk hN1 hN2 hN3
  obtain ⟨b1, b2, b3⟩ := sx_of_same X.same
  have hT' : (T.setVm s.vm).heap = H := hT
  rw [hT'] at b1 b2 b3
  have X2 : Stand p l e R s m args below meth c T' (locs ++ L) (cells + k) (slots + n) := by
    refine sx_tight X' ?_ ?_
    · rw [e1]; omega
    · rw [e1, sx_ss_add b1.le hN1]; omega
  obtain ⟨t2, a1, c1⟩ := kk t T'.heap (locs ++ L) e1.symm (by rw [← e2]; exact X'.warmed.alike) hb (by rw [e1]; exact hz) (fun q h1 h2 => by rw [e1]; exact hk q h1 h2)
    ⟨Nat.le_trans hS.1 (by rw [e1]; exact hz), fun q h1 h2 => by rw [e1, hk q (Nat.lt_of_lt_of_le h1 hS.1) (fun z => h2 (hA q (Nat.lt_of_lt_of_le h1 hS.1) z))]; exact hS.2.1 q h1 h2, fun q hq => by
      rcases List.mem_append.mp hq with h | h
      · exact hS.2.2 q h
      · exact hf _ (hL q h)⟩ T' rfl X2
  exact ⟨t2, st t2 a1, c1⟩
/-- a method's end within its budget -/
theorem sx_end {H : Heap} {locs : List Loc} {k n mc ms : Nat} {g : JFrame} {r : Option Value} {B : State → Prop} {A : Nat → Prop} {free : Addr → Prop} (hk : k ≤ mc) (hn : n ≤ ms)
    (h : W p l e R s m args below meth c H locs k n (MQ below (fun _ st oc t => oc = .returned r ∧ B t ∧ va_F A st t) args s k n free) g) : W p l e R s m args below meth c H locs k n (MQ below (sx_Q r B A k n) args s mc ms free) g := by
  intro T hT X
  obtain ⟨t, a1, o, b1, b2, ⟨b3, b4, b5⟩, L, ⟨f1, f2, f3⟩, f4⟩ := h T hT X
  have hs := sx_of_same f3
  exact ⟨t, a1, o, b1, b2, ⟨b3, b4, b5, hs⟩, L, ⟨f1, f2, f3.mono hk hn⟩, f4⟩
end SXT
end
section
-- ===== PART A: goes FIRST, ahead of the names: the tables' words, and 'selects' of the private methods out of them =====
/-- a private method of a class that the tables say can be made, by its rows of tables_1 -/
def lw_okq (q : MethodName × Nat) : Prop := (q.1.cls ≠ "java/lang/invoke/MethodHandle" ∧ q.1.cls ≠ "java/lang/invoke/VarHandle") ∧ Cond.instantiable q.1.cls q.2 ∈ tables_1 ∧ Cond.privateMethod q.1 ∈ tables_1 ∧ Cond.instanceMethod q.1 ∈ tables_1
theorem lw_p0 : lw_okq (⟨"StepHeap$Mover", "useHalf", "(I)V"⟩, 13) := ⟨⟨by decide +kernel, by decide +kernel⟩, List.mem_of_getElem? (i := 24) (by decide +kernel), List.mem_of_getElem? (i := 56) (by decide +kernel), List.mem_of_getElem? (i := 57) (by decide +kernel)⟩
theorem lw_p1 : lw_okq (⟨"StepHeap", "fillRegister", "(II)I"⟩, 2) := ⟨⟨by decide +kernel, by decide +kernel⟩, List.mem_of_getElem? (i := 9) (by decide +kernel), List.mem_of_getElem? (i := 127) (by decide +kernel), List.mem_of_getElem? (i := 128) (by decide +kernel)⟩
theorem lw_p2 : lw_okq (⟨"StepHeap$Mover", "beginCycle", "()V"⟩, 13) := ⟨⟨by decide +kernel, by decide +kernel⟩, List.mem_of_getElem? (i := 24) (by decide +kernel), List.mem_of_getElem? (i := 156) (by decide +kernel), List.mem_of_getElem? (i := 157) (by decide +kernel)⟩
theorem lw_p3 : lw_okq (⟨"StepHeap$Mover", "placeInUse", "(I)I"⟩, 13) := ⟨⟨by decide +kernel, by decide +kernel⟩, List.mem_of_getElem? (i := 24) (by decide +kernel), List.mem_of_getElem? (i := 160) (by decide +kernel), List.mem_of_getElem? (i := 161) (by decide +kernel)⟩
theorem lw_p4 : lw_okq (⟨"StepHeap$Mover", "isOld", "(I)Z"⟩, 13) := ⟨⟨by decide +kernel, by decide +kernel⟩, List.mem_of_getElem? (i := 24) (by decide +kernel), List.mem_of_getElem? (i := 164) (by decide +kernel), List.mem_of_getElem? (i := 165) (by decide +kernel)⟩
theorem lw_p5 : lw_okq (⟨"StepHeap$Cells", "touch", "()V"⟩, 5) := ⟨⟨by decide +kernel, by decide +kernel⟩, List.mem_of_getElem? (i := 30) (by decide +kernel), List.mem_of_getElem? (i := 172) (by decide +kernel), List.mem_of_getElem? (i := 173) (by decide +kernel)⟩
theorem lw_p6 : lw_okq (⟨"StepHeap$Mover", "work", "()V"⟩, 13) := ⟨⟨by decide +kernel, by decide +kernel⟩, List.mem_of_getElem? (i := 24) (by decide +kernel), List.mem_of_getElem? (i := 195) (by decide +kernel), List.mem_of_getElem? (i := 196) (by decide +kernel)⟩
theorem lw_p7 : lw_okq (⟨"StepHeap", "headOf", "(I)I"⟩, 2) := ⟨⟨by decide +kernel, by decide +kernel⟩, List.mem_of_getElem? (i := 9) (by decide +kernel), List.mem_of_getElem? (i := 220) (by decide +kernel), List.mem_of_getElem? (i := 221) (by decide +kernel)⟩
theorem lw_p8 : lw_okq (⟨"StepHeap", "referenceCell", "(II)I"⟩, 2) := ⟨⟨by decide +kernel, by decide +kernel⟩, List.mem_of_getElem? (i := 9) (by decide +kernel), List.mem_of_getElem? (i := 235) (by decide +kernel), List.mem_of_getElem? (i := 236) (by decide +kernel)⟩
theorem lw_p9 : lw_okq (⟨"StepHeap", "intCell", "(III)I"⟩, 2) := ⟨⟨by decide +kernel, by decide +kernel⟩, List.mem_of_getElem? (i := 9) (by decide +kernel), List.mem_of_getElem? (i := 260) (by decide +kernel), List.mem_of_getElem? (i := 261) (by decide +kernel)⟩
theorem lw_p10 : lw_okq (⟨"StepHeap", "levelOfGap", "(III)I"⟩, 2) := ⟨⟨by decide +kernel, by decide +kernel⟩, List.mem_of_getElem? (i := 9) (by decide +kernel), List.mem_of_getElem? (i := 282) (by decide +kernel), List.mem_of_getElem? (i := 283) (by decide +kernel)⟩
theorem lw_p11 : lw_okq (⟨"StepHeap", "cellOnWay", "(IIII)I"⟩, 2) := ⟨⟨by decide +kernel, by decide +kernel⟩, List.mem_of_getElem? (i := 9) (by decide +kernel), List.mem_of_getElem? (i := 292) (by decide +kernel), List.mem_of_getElem? (i := 293) (by decide +kernel)⟩
theorem lw_p12 : lw_okq (⟨"StepHeap", "openWay", "(III)I"⟩, 2) := ⟨⟨by decide +kernel, by decide +kernel⟩, List.mem_of_getElem? (i := 9) (by decide +kernel), List.mem_of_getElem? (i := 300) (by decide +kernel), List.mem_of_getElem? (i := 301) (by decide +kernel)⟩
theorem lw_p13 : lw_okq (⟨"StepHeapModel", "hasRoom", "(I)Z"⟩, 20) := ⟨⟨by decide +kernel, by decide +kernel⟩, List.mem_of_getElem? (i := 345) (by decide +kernel), List.mem_of_getElem? (i := 425) (by decide +kernel), List.mem_of_getElem? (i := 426) (by decide +kernel)⟩
theorem lw_p14 : lw_okq (⟨"StepHeapModel", "isDone", "()Z"⟩, 20) := ⟨⟨by decide +kernel, by decide +kernel⟩, List.mem_of_getElem? (i := 345) (by decide +kernel), List.mem_of_getElem? (i := 429) (by decide +kernel), List.mem_of_getElem? (i := 430) (by decide +kernel)⟩
theorem lw_p15 : lw_okq (⟨"StepHeapModel", "goOver", "()I"⟩, 20) := ⟨⟨by decide +kernel, by decide +kernel⟩, List.mem_of_getElem? (i := 345) (by decide +kernel), List.mem_of_getElem? (i := 433) (by decide +kernel), List.mem_of_getElem? (i := 434) (by decide +kernel)⟩
def lw_privs_1 : List (MethodName × Nat) := [(⟨"StepHeap$Mover", "useHalf", "(I)V"⟩, 13), (⟨"StepHeap", "fillRegister", "(II)I"⟩, 2), (⟨"StepHeap$Mover", "beginCycle", "()V"⟩, 13), (⟨"StepHeap$Mover", "placeInUse", "(I)I"⟩, 13), (⟨"StepHeap$Mover", "isOld", "(I)Z"⟩, 13), (⟨"StepHeap$Cells", "touch", "()V"⟩, 5), (⟨"StepHeap$Mover", "work", "()V"⟩, 13), (⟨"StepHeap", "headOf", "(I)I"⟩, 2), (⟨"StepHeap", "referenceCell", "(II)I"⟩, 2), (⟨"StepHeap", "intCell", "(III)I"⟩, 2), (⟨"StepHeap", "levelOfGap", "(III)I"⟩, 2), (⟨"StepHeap", "cellOnWay", "(IIII)I"⟩, 2), (⟨"StepHeap", "openWay", "(III)I"⟩, 2), (⟨"StepHeapModel", "hasRoom", "(I)Z"⟩, 20), (⟨"StepHeapModel", "isDone", "()Z"⟩, 20), (⟨"StepHeapModel", "goOver", "()I"⟩, 20)]
theorem lw_r1 : ∀ q ∈ lw_privs_1, lw_okq q := List.forall_mem_cons.mpr ⟨lw_p0, List.forall_mem_cons.mpr ⟨lw_p1, List.forall_mem_cons.mpr ⟨lw_p2, List.forall_mem_cons.mpr ⟨lw_p3, List.forall_mem_cons.mpr ⟨lw_p4, List.forall_mem_cons.mpr ⟨lw_p5, List.forall_mem_cons.mpr ⟨lw_p6, List.forall_mem_cons.mpr ⟨lw_p7, List.forall_mem_cons.mpr ⟨lw_p8, List.forall_mem_cons.mpr ⟨lw_p9, List.forall_mem_cons.mpr ⟨lw_p10, List.forall_mem_cons.mpr ⟨lw_p11, List.forall_mem_cons.mpr ⟨lw_p12, List.forall_mem_cons.mpr ⟨lw_p13, List.forall_mem_cons.mpr ⟨lw_p14, List.forall_mem_cons.mpr ⟨lw_p15, fun _ h => absurd h List.not_mem_nil⟩⟩⟩⟩⟩⟩⟩⟩⟩⟩⟩⟩⟩⟩⟩⟩
theorem lw_p16 : lw_okq (⟨"StepHeapModel", "reach", "(I)V"⟩, 20) := ⟨⟨by decide +kernel, by decide +kernel⟩, List.mem_of_getElem? (i := 345) (by decide +kernel), List.mem_of_getElem? (i := 437) (by decide +kernel), List.mem_of_getElem? (i := 438) (by decide +kernel)⟩
theorem lw_p17 : lw_okq (⟨"StepHeapModel", "cells", "(I)I"⟩, 20) := ⟨⟨by decide +kernel, by decide +kernel⟩, List.mem_of_getElem? (i := 345) (by decide +kernel), List.mem_of_getElem? (i := 441) (by decide +kernel), List.mem_of_getElem? (i := 442) (by decide +kernel)⟩
theorem lw_p18 : lw_okq (⟨"StepHeapModel", "add", "(III)I"⟩, 20) := ⟨⟨by decide +kernel, by decide +kernel⟩, List.mem_of_getElem? (i := 345) (by decide +kernel), List.mem_of_getElem? (i := 445) (by decide +kernel), List.mem_of_getElem? (i := 446) (by decide +kernel)⟩
theorem lw_p19 : lw_okq (⟨"StepHeapModel", "field", "(IIZ)I"⟩, 20) := ⟨⟨by decide +kernel, by decide +kernel⟩, List.mem_of_getElem? (i := 345) (by decide +kernel), List.mem_of_getElem? (i := 460) (by decide +kernel), List.mem_of_getElem? (i := 461) (by decide +kernel)⟩
theorem lw_p20 : lw_okq (⟨"StepHeapModel", "hasItem", "(IIZ)Z"⟩, 20) := ⟨⟨by decide +kernel, by decide +kernel⟩, List.mem_of_getElem? (i := 345) (by decide +kernel), List.mem_of_getElem? (i := 481) (by decide +kernel), List.mem_of_getElem? (i := 482) (by decide +kernel)⟩
theorem lw_p21 : lw_okq (⟨"StepHeapModel", "item", "(II)I"⟩, 20) := ⟨⟨by decide +kernel, by decide +kernel⟩, List.mem_of_getElem? (i := 345) (by decide +kernel), List.mem_of_getElem? (i := 485) (by decide +kernel), List.mem_of_getElem? (i := 486) (by decide +kernel)⟩
theorem lw_p22 : lw_okq (⟨"StepHeapModel", "fill", "(Z)I"⟩, 20) := ⟨⟨by decide +kernel, by decide +kernel⟩, List.mem_of_getElem? (i := 345) (by decide +kernel), List.mem_of_getElem? (i := 493) (by decide +kernel), List.mem_of_getElem? (i := 494) (by decide +kernel)⟩
def lw_privs_2 : List (MethodName × Nat) := [(⟨"StepHeapModel", "reach", "(I)V"⟩, 20), (⟨"StepHeapModel", "cells", "(I)I"⟩, 20), (⟨"StepHeapModel", "add", "(III)I"⟩, 20), (⟨"StepHeapModel", "field", "(IIZ)I"⟩, 20), (⟨"StepHeapModel", "hasItem", "(IIZ)Z"⟩, 20), (⟨"StepHeapModel", "item", "(II)I"⟩, 20), (⟨"StepHeapModel", "fill", "(Z)I"⟩, 20)]
theorem lw_r2 : ∀ q ∈ lw_privs_2, lw_okq q := List.forall_mem_cons.mpr ⟨lw_p16, List.forall_mem_cons.mpr ⟨lw_p17, List.forall_mem_cons.mpr ⟨lw_p18, List.forall_mem_cons.mpr ⟨lw_p19, List.forall_mem_cons.mpr ⟨lw_p20, List.forall_mem_cons.mpr ⟨lw_p21, List.forall_mem_cons.mpr ⟨lw_p22, fun _ h => absurd h List.not_mem_nil⟩⟩⟩⟩⟩⟩⟩
def lw_privs : List (MethodName × Nat) := lw_privs_1 ++ (lw_privs_2)
def lw_tbl : List Cond := k2_sels lw_privs ++ tables_1
theorem lw_privs_ok : ∀ q ∈ lw_privs, lw_okq q := by
  show ∀ q ∈ lw_privs_1 ++ (lw_privs_2), lw_okq q
  exact List.forall_mem_append.mpr ⟨lw_r1, lw_r2⟩
/-! the words of the tables, one by one; bt: those that a call keeps -/
def bt : List Cond := lw_tbl.filter goodWord
theorem tb_0 : (Jvm.Cond.initialized "StepHeapLaw") ∈ bt := List.mem_filter.mpr ⟨List.mem_append_right _ (List.mem_append_left _ (List.mem_of_getElem? (i := 0) rfl)), rfl⟩
theorem tb_1 : (Jvm.Cond.initialized "StepHeap") ∈ bt := List.mem_filter.mpr ⟨List.mem_append_right _ (List.mem_append_left _ (List.mem_of_getElem? (i := 1) rfl)), rfl⟩
theorem tb_2 : (Jvm.Cond.initialized "java/lang/Math") ∈ bt := List.mem_filter.mpr ⟨List.mem_append_right _ (List.mem_append_left _ (List.mem_of_getElem? (i := 2) rfl)), rfl⟩
theorem tb_3 : (Jvm.Cond.initialized "StepHeap$Mover") ∈ bt := List.mem_filter.mpr ⟨List.mem_append_right _ (List.mem_append_left _ (List.mem_of_getElem? (i := 3) rfl)), rfl⟩
theorem tb_4 : (Jvm.Cond.initialized "StepHeap$Cells") ∈ bt := List.mem_filter.mpr ⟨List.mem_append_right _ (List.mem_append_left _ (List.mem_of_getElem? (i := 4) rfl)), rfl⟩
theorem tb_5 : (Jvm.Cond.initialized "StepHeapModel") ∈ bt := List.mem_filter.mpr ⟨List.mem_append_right _ (List.mem_append_left _ (List.mem_of_getElem? (i := 5) rfl)), rfl⟩
theorem tb_6 : (Jvm.Cond.initialized "StepHeap$Head") ∈ bt := List.mem_filter.mpr ⟨List.mem_append_right _ (List.mem_append_left _ (List.mem_of_getElem? (i := 6) rfl)), rfl⟩
theorem tb_7 : (Jvm.Cond.initialized "StepHeap$Page") ∈ bt := List.mem_filter.mpr ⟨List.mem_append_right _ (List.mem_append_left _ (List.mem_of_getElem? (i := 7) rfl)), rfl⟩
theorem tb_8 : (Jvm.Cond.classLink "StepHeapLaw" (7 : Nat) "StepHeap") ∈ bt := List.mem_filter.mpr ⟨List.mem_append_right _ (List.mem_append_left _ (List.mem_of_getElem? (i := 8) rfl)), rfl⟩
theorem tb_9 : (Jvm.Cond.instantiable "StepHeap" (2 : Nat)) ∈ bt := List.mem_filter.mpr ⟨List.mem_append_right _ (List.mem_append_left _ (List.mem_of_getElem? (i := 9) rfl)), rfl⟩
theorem tb_10 : (Jvm.Cond.methodLink "StepHeapLaw" (15 : Nat) ({ cls := "StepHeap", name := "<init>", desc := "(II)V" } : Jvm.MethodName)) ∈ bt := List.mem_filter.mpr ⟨List.mem_append_right _ (List.mem_append_left _ (List.mem_of_getElem? (i := 10) rfl)), rfl⟩
theorem tb_11 : (Jvm.Cond.instanceMethod ({ cls := "StepHeap", name := "<init>", desc := "(II)V" } : Jvm.MethodName)) ∈ bt := List.mem_filter.mpr ⟨List.mem_append_right _ (List.mem_append_left _ (List.mem_of_getElem? (i := 11) rfl)), rfl⟩
theorem tb_12 : (Jvm.Cond.code ({ cls := "StepHeap", name := "<init>", desc := "(II)V" } : Jvm.MethodName) prog_1_method_1_code (6 : Nat) (Option.none : Option Jvm.ClassFile.FieldType)) ∈ bt := List.mem_filter.mpr ⟨List.mem_append_right _ (List.mem_append_left _ (List.mem_of_getElem? (i := 12) rfl)), rfl⟩
theorem tb_13 : (Jvm.Cond.methodLink "StepHeap" (5 : Nat) ({ cls := "java/lang/Object", name := "<init>", desc := "()V" } : Jvm.MethodName)) ∈ bt := List.mem_filter.mpr ⟨List.mem_append_right _ (List.mem_append_left _ (List.mem_of_getElem? (i := 13) rfl)), rfl⟩
theorem tb_14 : (Jvm.Cond.instanceMethod ({ cls := "java/lang/Object", name := "<init>", desc := "()V" } : Jvm.MethodName)) ∈ bt := List.mem_filter.mpr ⟨List.mem_append_right _ (List.mem_append_left _ (List.mem_of_getElem? (i := 14) rfl)), rfl⟩
theorem tb_15 : (Jvm.Cond.code ({ cls := "java/lang/Object", name := "<init>", desc := "()V" } : Jvm.MethodName) object_method_1_code (1 : Nat) (Option.none : Option Jvm.ClassFile.FieldType)) ∈ bt := List.mem_filter.mpr ⟨List.mem_append_right _ (List.mem_append_left _ (List.mem_of_getElem? (i := 15) rfl)), rfl⟩
theorem tb_16 : (Jvm.Cond.constant "StepHeap" (11 : Nat) (60000 : Int32)) ∈ bt := List.mem_filter.mpr ⟨List.mem_append_right _ (List.mem_append_left _ (List.mem_of_getElem? (i := 16) rfl)), rfl⟩
theorem tb_17 : (Jvm.Cond.methodLink "StepHeap" (12 : Nat) ({ cls := "java/lang/Math", name := "min", desc := "(II)I" } : Jvm.MethodName)) ∈ bt := List.mem_filter.mpr ⟨List.mem_append_right _ (List.mem_append_left _ (List.mem_of_getElem? (i := 17) rfl)), rfl⟩
theorem tb_18 : (Jvm.Cond.static ({ cls := "java/lang/Math", name := "min", desc := "(II)I" } : Jvm.MethodName)) ∈ bt := List.mem_filter.mpr ⟨List.mem_append_right _ (List.mem_append_left _ (List.mem_of_getElem? (i := 18) rfl)), rfl⟩
theorem tb_19 : (Jvm.Cond.code ({ cls := "java/lang/Math", name := "min", desc := "(II)I" } : Jvm.MethodName) prog_8_method_69_code (2 : Nat) (Option.some Jvm.ClassFile.FieldType.int)) ∈ bt := List.mem_filter.mpr ⟨List.mem_append_right _ (List.mem_append_left _ (List.mem_of_getElem? (i := 19) rfl)), rfl⟩
theorem tb_20 : (Jvm.Cond.methodLink "StepHeap" (18 : Nat) ({ cls := "java/lang/Math", name := "max", desc := "(II)I" } : Jvm.MethodName)) ∈ bt := List.mem_filter.mpr ⟨List.mem_append_right _ (List.mem_append_left _ (List.mem_of_getElem? (i := 20) rfl)), rfl⟩
theorem tb_21 : (Jvm.Cond.static ({ cls := "java/lang/Math", name := "max", desc := "(II)I" } : Jvm.MethodName)) ∈ bt := List.mem_filter.mpr ⟨List.mem_append_right _ (List.mem_append_left _ (List.mem_of_getElem? (i := 21) rfl)), rfl⟩
theorem tb_22 : (Jvm.Cond.code ({ cls := "java/lang/Math", name := "max", desc := "(II)I" } : Jvm.MethodName) prog_8_method_65_code (2 : Nat) (Option.some Jvm.ClassFile.FieldType.int)) ∈ bt := List.mem_filter.mpr ⟨List.mem_append_right _ (List.mem_append_left _ (List.mem_of_getElem? (i := 22) rfl)), rfl⟩
theorem tb_23 : (Jvm.Cond.classLink "StepHeap" (21 : Nat) "StepHeap$Mover") ∈ bt := List.mem_filter.mpr ⟨List.mem_append_right _ (List.mem_append_left _ (List.mem_of_getElem? (i := 23) rfl)), rfl⟩
theorem tb_24 : (Jvm.Cond.instantiable "StepHeap$Mover" (13 : Nat)) ∈ bt := List.mem_filter.mpr ⟨List.mem_append_right _ (List.mem_append_left _ (List.mem_of_getElem? (i := 24) rfl)), rfl⟩
theorem tb_25 : (Jvm.Cond.methodLink "StepHeap" (23 : Nat) ({ cls := "StepHeap$Mover", name := "<init>", desc := "(III)V" } : Jvm.MethodName)) ∈ bt := List.mem_filter.mpr ⟨List.mem_append_right _ (List.mem_append_left _ (List.mem_of_getElem? (i := 25) rfl)), rfl⟩
theorem tb_26 : (Jvm.Cond.instanceMethod ({ cls := "StepHeap$Mover", name := "<init>", desc := "(III)V" } : Jvm.MethodName)) ∈ bt := List.mem_filter.mpr ⟨List.mem_append_right _ (List.mem_append_left _ (List.mem_of_getElem? (i := 26) rfl)), rfl⟩
theorem tb_27 : (Jvm.Cond.code ({ cls := "StepHeap$Mover", name := "<init>", desc := "(III)V" } : Jvm.MethodName) prog_4_method_1_code (4 : Nat) (Option.none : Option Jvm.ClassFile.FieldType)) ∈ bt := List.mem_filter.mpr ⟨List.mem_append_right _ (List.mem_append_left _ (List.mem_of_getElem? (i := 27) rfl)), rfl⟩
theorem tb_28 : (Jvm.Cond.methodLink "StepHeap$Mover" (3 : Nat) ({ cls := "java/lang/Object", name := "<init>", desc := "()V" } : Jvm.MethodName)) ∈ bt := List.mem_filter.mpr ⟨List.mem_append_right _ (List.mem_append_left _ (List.mem_of_getElem? (i := 28) rfl)), rfl⟩
theorem tb_29 : (Jvm.Cond.classLink "StepHeap$Mover" (22 : Nat) "StepHeap$Cells") ∈ bt := List.mem_filter.mpr ⟨List.mem_append_right _ (List.mem_append_left _ (List.mem_of_getElem? (i := 29) rfl)), rfl⟩
theorem tb_30 : (Jvm.Cond.instantiable "StepHeap$Cells" (5 : Nat)) ∈ bt := List.mem_filter.mpr ⟨List.mem_append_right _ (List.mem_append_left _ (List.mem_of_getElem? (i := 30) rfl)), rfl⟩
theorem tb_31 : (Jvm.Cond.methodLink "StepHeap$Mover" (24 : Nat) ({ cls := "StepHeap$Cells", name := "<init>", desc := "(II)V" } : Jvm.MethodName)) ∈ bt := List.mem_filter.mpr ⟨List.mem_append_right _ (List.mem_append_left _ (List.mem_of_getElem? (i := 31) rfl)), rfl⟩
theorem tb_32 : (Jvm.Cond.instanceMethod ({ cls := "StepHeap$Cells", name := "<init>", desc := "(II)V" } : Jvm.MethodName)) ∈ bt := List.mem_filter.mpr ⟨List.mem_append_right _ (List.mem_append_left _ (List.mem_of_getElem? (i := 32) rfl)), rfl⟩
theorem tb_33 : (Jvm.Cond.code ({ cls := "StepHeap$Cells", name := "<init>", desc := "(II)V" } : Jvm.MethodName) prog_2_method_1_code (3 : Nat) (Option.none : Option Jvm.ClassFile.FieldType)) ∈ bt := List.mem_filter.mpr ⟨List.mem_append_right _ (List.mem_append_left _ (List.mem_of_getElem? (i := 33) rfl)), rfl⟩
theorem tb_34 : (Jvm.Cond.methodLink "StepHeap$Cells" (1 : Nat) ({ cls := "java/lang/Object", name := "<init>", desc := "()V" } : Jvm.MethodName)) ∈ bt := List.mem_filter.mpr ⟨List.mem_append_right _ (List.mem_append_left _ (List.mem_of_getElem? (i := 34) rfl)), rfl⟩
theorem tb_35 : (Jvm.Cond.classLink "StepHeap$Cells" (23 : Nat) "StepHeap$Page") ∈ bt := List.mem_filter.mpr ⟨List.mem_append_right _ (List.mem_append_left _ (List.mem_of_getElem? (i := 35) rfl)), rfl⟩
theorem tn_36 : (Jvm.Cond.arrayOver (Jvm.ClassFile.FieldType.object "StepHeap$Page")) ∈ lw_tbl := List.mem_append_right _ (List.mem_append_left _ (List.mem_of_getElem? (i := 36) rfl))
theorem tb_37 : (Jvm.Cond.fieldLink "StepHeap$Cells" (25 : Nat) "StepHeap$Cells" "pages" "[LStepHeap$Page;") ∈ bt := List.mem_filter.mpr ⟨List.mem_append_right _ (List.mem_append_left _ (List.mem_of_getElem? (i := 37) rfl)), rfl⟩
theorem tb_38 : (Jvm.Cond.fieldLink "StepHeap$Cells" (17 : Nat) "StepHeap$Cells" "last" "I") ∈ bt := List.mem_filter.mpr ⟨List.mem_append_right _ (List.mem_append_left _ (List.mem_of_getElem? (i := 38) rfl)), rfl⟩
theorem tb_39 : (Jvm.Cond.fieldLink "StepHeap$Cells" (20 : Nat) "StepHeap$Cells" "allowed" "I") ∈ bt := List.mem_filter.mpr ⟨List.mem_append_right _ (List.mem_append_left _ (List.mem_of_getElem? (i := 39) rfl)), rfl⟩
theorem tb_40 : (Jvm.Cond.fieldLink "StepHeap$Cells" (7 : Nat) "StepHeap$Cells" "touched" "I") ∈ bt := List.mem_filter.mpr ⟨List.mem_append_right _ (List.mem_append_left _ (List.mem_of_getElem? (i := 40) rfl)), rfl⟩
theorem tb_41 : (Jvm.Cond.fieldLink "StepHeap$Cells" (13 : Nat) "StepHeap$Cells" "steady" "Z") ∈ bt := List.mem_filter.mpr ⟨List.mem_append_right _ (List.mem_append_left _ (List.mem_of_getElem? (i := 41) rfl)), rfl⟩
theorem tn_42 : (Jvm.Cond.fieldLinkNest "StepHeap" (137 : Nat) "StepHeap$Cells" "steady" "Z" "StepHeap") ∈ lw_tbl := List.mem_append_right _ (List.mem_append_left _ (List.mem_of_getElem? (i := 42) rfl))
theorem tb_43 : (Jvm.Cond.laysFinal "StepHeap$Cells" "StepHeap$Cells" "pages" "[LStepHeap$Page;") ∈ bt := List.mem_filter.mpr ⟨List.mem_append_right _ (List.mem_append_left _ (List.mem_of_getElem? (i := 43) rfl)), rfl⟩
theorem tb_44 : (Jvm.Cond.soleField "StepHeap$Cells" "pages") ∈ bt := List.mem_filter.mpr ⟨List.mem_append_right _ (List.mem_append_left _ (List.mem_of_getElem? (i := 44) rfl)), rfl⟩
theorem tb_45 : (Jvm.Cond.laysFinal "StepHeap$Cells" "StepHeap$Cells" "last" "I") ∈ bt := List.mem_filter.mpr ⟨List.mem_append_right _ (List.mem_append_left _ (List.mem_of_getElem? (i := 45) rfl)), rfl⟩
theorem tb_46 : (Jvm.Cond.soleField "StepHeap$Cells" "last") ∈ bt := List.mem_filter.mpr ⟨List.mem_append_right _ (List.mem_append_left _ (List.mem_of_getElem? (i := 46) rfl)), rfl⟩
theorem tb_47 : (Jvm.Cond.laysFinal "StepHeap$Cells" "StepHeap$Cells" "allowed" "I") ∈ bt := List.mem_filter.mpr ⟨List.mem_append_right _ (List.mem_append_left _ (List.mem_of_getElem? (i := 47) rfl)), rfl⟩
theorem tb_48 : (Jvm.Cond.soleField "StepHeap$Cells" "allowed") ∈ bt := List.mem_filter.mpr ⟨List.mem_append_right _ (List.mem_append_left _ (List.mem_of_getElem? (i := 48) rfl)), rfl⟩
theorem tb_49 : (Jvm.Cond.lays "StepHeap$Cells" "StepHeap$Cells" "touched" "I") ∈ bt := List.mem_filter.mpr ⟨List.mem_append_right _ (List.mem_append_left _ (List.mem_of_getElem? (i := 49) rfl)), rfl⟩
theorem tb_50 : (Jvm.Cond.soleField "StepHeap$Cells" "touched") ∈ bt := List.mem_filter.mpr ⟨List.mem_append_right _ (List.mem_append_left _ (List.mem_of_getElem? (i := 50) rfl)), rfl⟩
theorem tb_51 : (Jvm.Cond.lays "StepHeap$Cells" "StepHeap$Cells" "steady" "Z") ∈ bt := List.mem_filter.mpr ⟨List.mem_append_right _ (List.mem_append_left _ (List.mem_of_getElem? (i := 51) rfl)), rfl⟩
theorem tb_52 : (Jvm.Cond.soleField "StepHeap$Cells" "steady") ∈ bt := List.mem_filter.mpr ⟨List.mem_append_right _ (List.mem_append_left _ (List.mem_of_getElem? (i := 52) rfl)), rfl⟩
theorem tb_53 : (Jvm.Cond.superclass "StepHeap$Cells" "java/lang/Object") ∈ bt := List.mem_filter.mpr ⟨List.mem_append_right _ (List.mem_append_left _ (List.mem_of_getElem? (i := 53) rfl)), rfl⟩
theorem tb_54 : (Jvm.Cond.arrayClass Jvm.ClassFile.FieldType.int) ∈ bt := List.mem_filter.mpr ⟨List.mem_append_right _ (List.mem_append_left _ (List.mem_of_getElem? (i := 54) rfl)), rfl⟩
theorem tb_55 : (Jvm.Cond.methodLink "StepHeap$Mover" (40 : Nat) ({ cls := "StepHeap$Mover", name := "useHalf", desc := "(I)V" } : Jvm.MethodName)) ∈ bt := List.mem_filter.mpr ⟨List.mem_append_right _ (List.mem_append_left _ (List.mem_of_getElem? (i := 55) rfl)), rfl⟩
theorem tb_57 : (Jvm.Cond.instanceMethod ({ cls := "StepHeap$Mover", name := "useHalf", desc := "(I)V" } : Jvm.MethodName)) ∈ bt := List.mem_filter.mpr ⟨List.mem_append_right _ (List.mem_append_left _ (List.mem_of_getElem? (i := 57) rfl)), rfl⟩
theorem tb_58 : (Jvm.Cond.code ({ cls := "StepHeap$Mover", name := "useHalf", desc := "(I)V" } : Jvm.MethodName) prog_4_method_10_code (2 : Nat) (Option.none : Option Jvm.ClassFile.FieldType)) ∈ bt := List.mem_filter.mpr ⟨List.mem_append_right _ (List.mem_append_left _ (List.mem_of_getElem? (i := 58) rfl)), rfl⟩
theorem tb_59 : (Jvm.Cond.fieldLink "StepHeap$Mover" (27 : Nat) "StepHeap$Mover" "cells" "LStepHeap$Cells;") ∈ bt := List.mem_filter.mpr ⟨List.mem_append_right _ (List.mem_append_left _ (List.mem_of_getElem? (i := 59) rfl)), rfl⟩
theorem tn_60 : (Jvm.Cond.fieldLinkNest "StepHeap" (30 : Nat) "StepHeap$Mover" "cells" "LStepHeap$Cells;" "StepHeap") ∈ lw_tbl := List.mem_append_right _ (List.mem_append_left _ (List.mem_of_getElem? (i := 60) rfl))
theorem tb_61 : (Jvm.Cond.fieldLink "StepHeap$Mover" (31 : Nat) "StepHeap$Mover" "half" "I") ∈ bt := List.mem_filter.mpr ⟨List.mem_append_right _ (List.mem_append_left _ (List.mem_of_getElem? (i := 61) rfl)), rfl⟩
theorem tb_62 : (Jvm.Cond.fieldLink "StepHeap$Mover" (34 : Nat) "StepHeap$Mover" "k" "I") ∈ bt := List.mem_filter.mpr ⟨List.mem_append_right _ (List.mem_append_left _ (List.mem_of_getElem? (i := 62) rfl)), rfl⟩
theorem tb_63 : (Jvm.Cond.fieldLink "StepHeap$Mover" (37 : Nat) "StepHeap$Mover" "limit" "I") ∈ bt := List.mem_filter.mpr ⟨List.mem_append_right _ (List.mem_append_left _ (List.mem_of_getElem? (i := 63) rfl)), rfl⟩
theorem tn_64 : (Jvm.Cond.fieldLinkNest "StepHeap" (134 : Nat) "StepHeap$Mover" "limit" "I" "StepHeap") ∈ lw_tbl := List.mem_append_right _ (List.mem_append_left _ (List.mem_of_getElem? (i := 64) rfl))
theorem tb_65 : (Jvm.Cond.fieldLink "StepHeap$Mover" (9 : Nat) "StepHeap$Mover" "registers" "[I") ∈ bt := List.mem_filter.mpr ⟨List.mem_append_right _ (List.mem_append_left _ (List.mem_of_getElem? (i := 65) rfl)), rfl⟩
theorem tb_66 : (Jvm.Cond.fieldLink "StepHeap$Mover" (15 : Nat) "StepHeap$Mover" "made" "I") ∈ bt := List.mem_filter.mpr ⟨List.mem_append_right _ (List.mem_append_left _ (List.mem_of_getElem? (i := 66) rfl)), rfl⟩
theorem tn_67 : (Jvm.Cond.fieldLinkNest "StepHeap" (131 : Nat) "StepHeap$Mover" "made" "I" "StepHeap") ∈ lw_tbl := List.mem_append_right _ (List.mem_append_left _ (List.mem_of_getElem? (i := 67) rfl))
theorem tb_68 : (Jvm.Cond.fieldLink "StepHeap$Mover" (19 : Nat) "StepHeap$Mover" "begun" "I") ∈ bt := List.mem_filter.mpr ⟨List.mem_append_right _ (List.mem_append_left _ (List.mem_of_getElem? (i := 68) rfl)), rfl⟩
theorem tn_69 : (Jvm.Cond.fieldLinkNest "StepHeap" (119 : Nat) "StepHeap$Mover" "begun" "I" "StepHeap") ∈ lw_tbl := List.mem_append_right _ (List.mem_append_left _ (List.mem_of_getElem? (i := 69) rfl))
theorem tb_70 : (Jvm.Cond.fieldLink "StepHeap$Mover" (51 : Nat) "StepHeap$Mover" "base" "I") ∈ bt := List.mem_filter.mpr ⟨List.mem_append_right _ (List.mem_append_left _ (List.mem_of_getElem? (i := 70) rfl)), rfl⟩
theorem tb_71 : (Jvm.Cond.fieldLink "StepHeap$Mover" (48 : Nat) "StepHeap$Mover" "free" "I") ∈ bt := List.mem_filter.mpr ⟨List.mem_append_right _ (List.mem_append_left _ (List.mem_of_getElem? (i := 71) rfl)), rfl⟩
theorem tb_72 : (Jvm.Cond.fieldLink "StepHeap$Mover" (73 : Nat) "StepHeap$Mover" "lowestMade" "I") ∈ bt := List.mem_filter.mpr ⟨List.mem_append_right _ (List.mem_append_left _ (List.mem_of_getElem? (i := 72) rfl)), rfl⟩
theorem tb_73 : (Jvm.Cond.fieldLink "StepHeap$Mover" (54 : Nat) "StepHeap$Mover" "scan" "I") ∈ bt := List.mem_filter.mpr ⟨List.mem_append_right _ (List.mem_append_left _ (List.mem_of_getElem? (i := 73) rfl)), rfl⟩
theorem tb_74 : (Jvm.Cond.fieldLink "StepHeap$Mover" (91 : Nat) "StepHeap$Mover" "tracedEnd" "I") ∈ bt := List.mem_filter.mpr ⟨List.mem_append_right _ (List.mem_append_left _ (List.mem_of_getElem? (i := 74) rfl)), rfl⟩
theorem tb_75 : (Jvm.Cond.fieldLink "StepHeap$Mover" (94 : Nat) "StepHeap$Mover" "nextHead" "I") ∈ bt := List.mem_filter.mpr ⟨List.mem_append_right _ (List.mem_append_left _ (List.mem_of_getElem? (i := 75) rfl)), rfl⟩
theorem tb_76 : (Jvm.Cond.laysFinal "StepHeap$Mover" "StepHeap$Mover" "cells" "LStepHeap$Cells;") ∈ bt := List.mem_filter.mpr ⟨List.mem_append_right _ (List.mem_append_left _ (List.mem_of_getElem? (i := 76) rfl)), rfl⟩
theorem tb_77 : (Jvm.Cond.soleField "StepHeap$Mover" "cells") ∈ bt := List.mem_filter.mpr ⟨List.mem_append_right _ (List.mem_append_left _ (List.mem_of_getElem? (i := 77) rfl)), rfl⟩
theorem tb_78 : (Jvm.Cond.laysFinal "StepHeap$Mover" "StepHeap$Mover" "half" "I") ∈ bt := List.mem_filter.mpr ⟨List.mem_append_right _ (List.mem_append_left _ (List.mem_of_getElem? (i := 78) rfl)), rfl⟩
theorem tb_79 : (Jvm.Cond.soleField "StepHeap$Mover" "half") ∈ bt := List.mem_filter.mpr ⟨List.mem_append_right _ (List.mem_append_left _ (List.mem_of_getElem? (i := 79) rfl)), rfl⟩
theorem tb_80 : (Jvm.Cond.laysFinal "StepHeap$Mover" "StepHeap$Mover" "k" "I") ∈ bt := List.mem_filter.mpr ⟨List.mem_append_right _ (List.mem_append_left _ (List.mem_of_getElem? (i := 80) rfl)), rfl⟩
theorem tb_81 : (Jvm.Cond.soleField "StepHeap$Mover" "k") ∈ bt := List.mem_filter.mpr ⟨List.mem_append_right _ (List.mem_append_left _ (List.mem_of_getElem? (i := 81) rfl)), rfl⟩
theorem tb_82 : (Jvm.Cond.laysFinal "StepHeap$Mover" "StepHeap$Mover" "limit" "I") ∈ bt := List.mem_filter.mpr ⟨List.mem_append_right _ (List.mem_append_left _ (List.mem_of_getElem? (i := 82) rfl)), rfl⟩
theorem tb_83 : (Jvm.Cond.soleField "StepHeap$Mover" "limit") ∈ bt := List.mem_filter.mpr ⟨List.mem_append_right _ (List.mem_append_left _ (List.mem_of_getElem? (i := 83) rfl)), rfl⟩
theorem tb_84 : (Jvm.Cond.laysFinal "StepHeap$Mover" "StepHeap$Mover" "registers" "[I") ∈ bt := List.mem_filter.mpr ⟨List.mem_append_right _ (List.mem_append_left _ (List.mem_of_getElem? (i := 84) rfl)), rfl⟩
theorem tb_85 : (Jvm.Cond.soleField "StepHeap$Mover" "registers") ∈ bt := List.mem_filter.mpr ⟨List.mem_append_right _ (List.mem_append_left _ (List.mem_of_getElem? (i := 85) rfl)), rfl⟩
theorem tb_86 : (Jvm.Cond.lays "StepHeap$Mover" "StepHeap$Mover" "made" "I") ∈ bt := List.mem_filter.mpr ⟨List.mem_append_right _ (List.mem_append_left _ (List.mem_of_getElem? (i := 86) rfl)), rfl⟩
theorem tb_87 : (Jvm.Cond.soleField "StepHeap$Mover" "made") ∈ bt := List.mem_filter.mpr ⟨List.mem_append_right _ (List.mem_append_left _ (List.mem_of_getElem? (i := 87) rfl)), rfl⟩
theorem tb_88 : (Jvm.Cond.lays "StepHeap$Mover" "StepHeap$Mover" "begun" "I") ∈ bt := List.mem_filter.mpr ⟨List.mem_append_right _ (List.mem_append_left _ (List.mem_of_getElem? (i := 88) rfl)), rfl⟩
theorem tb_89 : (Jvm.Cond.soleField "StepHeap$Mover" "begun") ∈ bt := List.mem_filter.mpr ⟨List.mem_append_right _ (List.mem_append_left _ (List.mem_of_getElem? (i := 89) rfl)), rfl⟩
theorem tb_90 : (Jvm.Cond.lays "StepHeap$Mover" "StepHeap$Mover" "base" "I") ∈ bt := List.mem_filter.mpr ⟨List.mem_append_right _ (List.mem_append_left _ (List.mem_of_getElem? (i := 90) rfl)), rfl⟩
theorem tb_91 : (Jvm.Cond.soleField "StepHeap$Mover" "base") ∈ bt := List.mem_filter.mpr ⟨List.mem_append_right _ (List.mem_append_left _ (List.mem_of_getElem? (i := 91) rfl)), rfl⟩
theorem tb_92 : (Jvm.Cond.lays "StepHeap$Mover" "StepHeap$Mover" "free" "I") ∈ bt := List.mem_filter.mpr ⟨List.mem_append_right _ (List.mem_append_left _ (List.mem_of_getElem? (i := 92) rfl)), rfl⟩
theorem tb_93 : (Jvm.Cond.soleField "StepHeap$Mover" "free") ∈ bt := List.mem_filter.mpr ⟨List.mem_append_right _ (List.mem_append_left _ (List.mem_of_getElem? (i := 93) rfl)), rfl⟩
theorem tb_94 : (Jvm.Cond.lays "StepHeap$Mover" "StepHeap$Mover" "lowestMade" "I") ∈ bt := List.mem_filter.mpr ⟨List.mem_append_right _ (List.mem_append_left _ (List.mem_of_getElem? (i := 94) rfl)), rfl⟩
theorem tb_95 : (Jvm.Cond.soleField "StepHeap$Mover" "lowestMade") ∈ bt := List.mem_filter.mpr ⟨List.mem_append_right _ (List.mem_append_left _ (List.mem_of_getElem? (i := 95) rfl)), rfl⟩
theorem tb_96 : (Jvm.Cond.lays "StepHeap$Mover" "StepHeap$Mover" "scan" "I") ∈ bt := List.mem_filter.mpr ⟨List.mem_append_right _ (List.mem_append_left _ (List.mem_of_getElem? (i := 96) rfl)), rfl⟩
theorem tb_97 : (Jvm.Cond.soleField "StepHeap$Mover" "scan") ∈ bt := List.mem_filter.mpr ⟨List.mem_append_right _ (List.mem_append_left _ (List.mem_of_getElem? (i := 97) rfl)), rfl⟩
theorem tb_98 : (Jvm.Cond.lays "StepHeap$Mover" "StepHeap$Mover" "tracedEnd" "I") ∈ bt := List.mem_filter.mpr ⟨List.mem_append_right _ (List.mem_append_left _ (List.mem_of_getElem? (i := 98) rfl)), rfl⟩
theorem tb_99 : (Jvm.Cond.soleField "StepHeap$Mover" "tracedEnd") ∈ bt := List.mem_filter.mpr ⟨List.mem_append_right _ (List.mem_append_left _ (List.mem_of_getElem? (i := 99) rfl)), rfl⟩
theorem tb_100 : (Jvm.Cond.lays "StepHeap$Mover" "StepHeap$Mover" "nextHead" "I") ∈ bt := List.mem_filter.mpr ⟨List.mem_append_right _ (List.mem_append_left _ (List.mem_of_getElem? (i := 100) rfl)), rfl⟩
theorem tb_101 : (Jvm.Cond.soleField "StepHeap$Mover" "nextHead") ∈ bt := List.mem_filter.mpr ⟨List.mem_append_right _ (List.mem_append_left _ (List.mem_of_getElem? (i := 101) rfl)), rfl⟩
theorem tb_102 : (Jvm.Cond.superclass "StepHeap$Mover" "java/lang/Object") ∈ bt := List.mem_filter.mpr ⟨List.mem_append_right _ (List.mem_append_left _ (List.mem_of_getElem? (i := 102) rfl)), rfl⟩
theorem tb_103 : (Jvm.Cond.fieldLink "StepHeap" (34 : Nat) "StepHeap" "cells" "LStepHeap$Cells;") ∈ bt := List.mem_filter.mpr ⟨List.mem_append_right _ (List.mem_append_left _ (List.mem_of_getElem? (i := 103) rfl)), rfl⟩
theorem tb_104 : (Jvm.Cond.fieldLink "StepHeap" (26 : Nat) "StepHeap" "mover" "LStepHeap$Mover;") ∈ bt := List.mem_filter.mpr ⟨List.mem_append_right _ (List.mem_append_left _ (List.mem_of_getElem? (i := 104) rfl)), rfl⟩
theorem tb_105 : (Jvm.Cond.laysFinal "StepHeap" "StepHeap" "cells" "LStepHeap$Cells;") ∈ bt := List.mem_filter.mpr ⟨List.mem_append_right _ (List.mem_append_left _ (List.mem_of_getElem? (i := 105) rfl)), rfl⟩
theorem tb_106 : (Jvm.Cond.soleField "StepHeap" "cells") ∈ bt := List.mem_filter.mpr ⟨List.mem_append_right _ (List.mem_append_left _ (List.mem_of_getElem? (i := 106) rfl)), rfl⟩
theorem tb_107 : (Jvm.Cond.laysFinal "StepHeap" "StepHeap" "mover" "LStepHeap$Mover;") ∈ bt := List.mem_filter.mpr ⟨List.mem_append_right _ (List.mem_append_left _ (List.mem_of_getElem? (i := 107) rfl)), rfl⟩
theorem tb_108 : (Jvm.Cond.soleField "StepHeap" "mover") ∈ bt := List.mem_filter.mpr ⟨List.mem_append_right _ (List.mem_append_left _ (List.mem_of_getElem? (i := 108) rfl)), rfl⟩
theorem tb_109 : (Jvm.Cond.superclass "StepHeap" "java/lang/Object") ∈ bt := List.mem_filter.mpr ⟨List.mem_append_right _ (List.mem_append_left _ (List.mem_of_getElem? (i := 109) rfl)), rfl⟩
theorem tb_110 : (Jvm.Cond.methodLink "StepHeapLaw" (21 : Nat) ({ cls := "StepHeap", name := "make", desc := "(III)I" } : Jvm.MethodName)) ∈ bt := List.mem_filter.mpr ⟨List.mem_append_right _ (List.mem_append_left _ (List.mem_of_getElem? (i := 110) rfl)), rfl⟩
theorem tb_111 : (Jvm.Cond.instanceMethod ({ cls := "StepHeap", name := "make", desc := "(III)I" } : Jvm.MethodName)) ∈ bt := List.mem_filter.mpr ⟨List.mem_append_right _ (List.mem_append_left _ (List.mem_of_getElem? (i := 111) rfl)), rfl⟩
theorem tb_112 : (Jvm.Cond.selects "StepHeap" ({ cls := "StepHeap", name := "make", desc := "(III)I" } : Jvm.MethodName) ({ cls := "StepHeap", name := "make", desc := "(III)I" } : Jvm.MethodName)) ∈ bt := List.mem_filter.mpr ⟨List.mem_append_right _ (List.mem_append_left _ (List.mem_of_getElem? (i := 112) rfl)), rfl⟩
theorem tb_113 : (Jvm.Cond.code ({ cls := "StepHeap", name := "make", desc := "(III)I" } : Jvm.MethodName) prog_1_method_2_code (4 : Nat) (Option.some Jvm.ClassFile.FieldType.int)) ∈ bt := List.mem_filter.mpr ⟨List.mem_append_right _ (List.mem_append_left _ (List.mem_of_getElem? (i := 113) rfl)), rfl⟩
theorem tb_114 : (Jvm.Cond.methodLink "StepHeap" (35 : Nat) ({ cls := "StepHeap", name := "isRegister", desc := "(I)Z" } : Jvm.MethodName)) ∈ bt := List.mem_filter.mpr ⟨List.mem_append_right _ (List.mem_append_left _ (List.mem_of_getElem? (i := 114) rfl)), rfl⟩
theorem tb_115 : (Jvm.Cond.static ({ cls := "StepHeap", name := "isRegister", desc := "(I)Z" } : Jvm.MethodName)) ∈ bt := List.mem_filter.mpr ⟨List.mem_append_right _ (List.mem_append_left _ (List.mem_of_getElem? (i := 115) rfl)), rfl⟩
theorem tb_116 : (Jvm.Cond.code ({ cls := "StepHeap", name := "isRegister", desc := "(I)Z" } : Jvm.MethodName) prog_1_method_18_code (1 : Nat) (Option.some Jvm.ClassFile.FieldType.boolean)) ∈ bt := List.mem_filter.mpr ⟨List.mem_append_right _ (List.mem_append_left _ (List.mem_of_getElem? (i := 116) rfl)), rfl⟩
theorem tb_117 : (Jvm.Cond.methodLink "StepHeap" (62 : Nat) ({ cls := "StepHeap", name := "isBelow", desc := "(II)Z" } : Jvm.MethodName)) ∈ bt := List.mem_filter.mpr ⟨List.mem_append_right _ (List.mem_append_left _ (List.mem_of_getElem? (i := 117) rfl)), rfl⟩
theorem tb_118 : (Jvm.Cond.static ({ cls := "StepHeap", name := "isBelow", desc := "(II)Z" } : Jvm.MethodName)) ∈ bt := List.mem_filter.mpr ⟨List.mem_append_right _ (List.mem_append_left _ (List.mem_of_getElem? (i := 118) rfl)), rfl⟩
theorem tb_119 : (Jvm.Cond.code ({ cls := "StepHeap", name := "isBelow", desc := "(II)Z" } : Jvm.MethodName) prog_1_method_19_code (2 : Nat) (Option.some Jvm.ClassFile.FieldType.boolean)) ∈ bt := List.mem_filter.mpr ⟨List.mem_append_right _ (List.mem_append_left _ (List.mem_of_getElem? (i := 119) rfl)), rfl⟩
theorem tb_120 : (Jvm.Cond.methodLink "StepHeap" (39 : Nat) ({ cls := "StepHeap", name := "isShape", desc := "(II)Z" } : Jvm.MethodName)) ∈ bt := List.mem_filter.mpr ⟨List.mem_append_right _ (List.mem_append_left _ (List.mem_of_getElem? (i := 120) rfl)), rfl⟩
theorem tb_121 : (Jvm.Cond.static ({ cls := "StepHeap", name := "isShape", desc := "(II)Z" } : Jvm.MethodName)) ∈ bt := List.mem_filter.mpr ⟨List.mem_append_right _ (List.mem_append_left _ (List.mem_of_getElem? (i := 121) rfl)), rfl⟩
theorem tb_122 : (Jvm.Cond.code ({ cls := "StepHeap", name := "isShape", desc := "(II)Z" } : Jvm.MethodName) prog_1_method_20_code (2 : Nat) (Option.some Jvm.ClassFile.FieldType.boolean)) ∈ bt := List.mem_filter.mpr ⟨List.mem_append_right _ (List.mem_append_left _ (List.mem_of_getElem? (i := 122) rfl)), rfl⟩
theorem tb_123 : (Jvm.Cond.methodLink "StepHeap" (43 : Nat) ({ cls := "StepHeap$Head", name := "ofObject", desc := "(II)I" } : Jvm.MethodName)) ∈ bt := List.mem_filter.mpr ⟨List.mem_append_right _ (List.mem_append_left _ (List.mem_of_getElem? (i := 123) rfl)), rfl⟩
theorem tb_124 : (Jvm.Cond.static ({ cls := "StepHeap$Head", name := "ofObject", desc := "(II)I" } : Jvm.MethodName)) ∈ bt := List.mem_filter.mpr ⟨List.mem_append_right _ (List.mem_append_left _ (List.mem_of_getElem? (i := 124) rfl)), rfl⟩
theorem tb_125 : (Jvm.Cond.code ({ cls := "StepHeap$Head", name := "ofObject", desc := "(II)I" } : Jvm.MethodName) prog_3_method_2_code (2 : Nat) (Option.some Jvm.ClassFile.FieldType.int)) ∈ bt := List.mem_filter.mpr ⟨List.mem_append_right _ (List.mem_append_left _ (List.mem_of_getElem? (i := 125) rfl)), rfl⟩
theorem tb_126 : (Jvm.Cond.methodLink "StepHeap" (48 : Nat) ({ cls := "StepHeap", name := "fillRegister", desc := "(II)I" } : Jvm.MethodName)) ∈ bt := List.mem_filter.mpr ⟨List.mem_append_right _ (List.mem_append_left _ (List.mem_of_getElem? (i := 126) rfl)), rfl⟩
theorem tb_128 : (Jvm.Cond.instanceMethod ({ cls := "StepHeap", name := "fillRegister", desc := "(II)I" } : Jvm.MethodName)) ∈ bt := List.mem_filter.mpr ⟨List.mem_append_right _ (List.mem_append_left _ (List.mem_of_getElem? (i := 128) rfl)), rfl⟩
theorem tb_129 : (Jvm.Cond.code ({ cls := "StepHeap", name := "fillRegister", desc := "(II)I" } : Jvm.MethodName) prog_1_method_21_code (3 : Nat) (Option.some Jvm.ClassFile.FieldType.int)) ∈ bt := List.mem_filter.mpr ⟨List.mem_append_right _ (List.mem_append_left _ (List.mem_of_getElem? (i := 129) rfl)), rfl⟩
theorem tb_130 : (Jvm.Cond.methodLink "StepHeap" (141 : Nat) ({ cls := "StepHeap$Cells", name := "startCall", desc := "()V" } : Jvm.MethodName)) ∈ bt := List.mem_filter.mpr ⟨List.mem_append_right _ (List.mem_append_left _ (List.mem_of_getElem? (i := 130) rfl)), rfl⟩
theorem tb_131 : (Jvm.Cond.instanceMethod ({ cls := "StepHeap$Cells", name := "startCall", desc := "()V" } : Jvm.MethodName)) ∈ bt := List.mem_filter.mpr ⟨List.mem_append_right _ (List.mem_append_left _ (List.mem_of_getElem? (i := 131) rfl)), rfl⟩
theorem tb_132 : (Jvm.Cond.selects "StepHeap$Cells" ({ cls := "StepHeap$Cells", name := "startCall", desc := "()V" } : Jvm.MethodName) ({ cls := "StepHeap$Cells", name := "startCall", desc := "()V" } : Jvm.MethodName)) ∈ bt := List.mem_filter.mpr ⟨List.mem_append_right _ (List.mem_append_left _ (List.mem_of_getElem? (i := 132) rfl)), rfl⟩
theorem tb_133 : (Jvm.Cond.code ({ cls := "StepHeap$Cells", name := "startCall", desc := "()V" } : Jvm.MethodName) prog_2_method_2_code (1 : Nat) (Option.none : Option Jvm.ClassFile.FieldType)) ∈ bt := List.mem_filter.mpr ⟨List.mem_append_right _ (List.mem_append_left _ (List.mem_of_getElem? (i := 133) rfl)), rfl⟩
theorem tb_134 : (Jvm.Cond.methodLink "StepHeap" (117 : Nat) ({ cls := "StepHeap$Head", name := "cells", desc := "(I)I" } : Jvm.MethodName)) ∈ bt := List.mem_filter.mpr ⟨List.mem_append_right _ (List.mem_append_left _ (List.mem_of_getElem? (i := 134) rfl)), rfl⟩
theorem tb_135 : (Jvm.Cond.static ({ cls := "StepHeap$Head", name := "cells", desc := "(I)I" } : Jvm.MethodName)) ∈ bt := List.mem_filter.mpr ⟨List.mem_append_right _ (List.mem_append_left _ (List.mem_of_getElem? (i := 135) rfl)), rfl⟩
theorem tb_136 : (Jvm.Cond.code ({ cls := "StepHeap$Head", name := "cells", desc := "(I)I" } : Jvm.MethodName) prog_3_method_7_code (1 : Nat) (Option.some Jvm.ClassFile.FieldType.int)) ∈ bt := List.mem_filter.mpr ⟨List.mem_append_right _ (List.mem_append_left _ (List.mem_of_getElem? (i := 136) rfl)), rfl⟩
theorem tb_137 : (Jvm.Cond.methodLink "StepHeap$Head" (19 : Nat) ({ cls := "StepHeap$Head", name := "traced", desc := "(I)I" } : Jvm.MethodName)) ∈ bt := List.mem_filter.mpr ⟨List.mem_append_right _ (List.mem_append_left _ (List.mem_of_getElem? (i := 137) rfl)), rfl⟩
theorem tb_138 : (Jvm.Cond.static ({ cls := "StepHeap$Head", name := "traced", desc := "(I)I" } : Jvm.MethodName)) ∈ bt := List.mem_filter.mpr ⟨List.mem_append_right _ (List.mem_append_left _ (List.mem_of_getElem? (i := 138) rfl)), rfl⟩
theorem tb_139 : (Jvm.Cond.code ({ cls := "StepHeap$Head", name := "traced", desc := "(I)I" } : Jvm.MethodName) prog_3_method_5_code (1 : Nat) (Option.some Jvm.ClassFile.FieldType.int)) ∈ bt := List.mem_filter.mpr ⟨List.mem_append_right _ (List.mem_append_left _ (List.mem_of_getElem? (i := 139) rfl)), rfl⟩
theorem tb_140 : (Jvm.Cond.methodLink "StepHeap$Head" (23 : Nat) ({ cls := "StepHeap$Head", name := "plain", desc := "(I)I" } : Jvm.MethodName)) ∈ bt := List.mem_filter.mpr ⟨List.mem_append_right _ (List.mem_append_left _ (List.mem_of_getElem? (i := 140) rfl)), rfl⟩
theorem tb_141 : (Jvm.Cond.static ({ cls := "StepHeap$Head", name := "plain", desc := "(I)I" } : Jvm.MethodName)) ∈ bt := List.mem_filter.mpr ⟨List.mem_append_right _ (List.mem_append_left _ (List.mem_of_getElem? (i := 141) rfl)), rfl⟩
theorem tb_142 : (Jvm.Cond.code ({ cls := "StepHeap$Head", name := "plain", desc := "(I)I" } : Jvm.MethodName) prog_3_method_6_code (1 : Nat) (Option.some Jvm.ClassFile.FieldType.int)) ∈ bt := List.mem_filter.mpr ⟨List.mem_append_right _ (List.mem_append_left _ (List.mem_of_getElem? (i := 142) rfl)), rfl⟩
theorem tb_143 : (Jvm.Cond.methodLink "StepHeap" (144 : Nat) ({ cls := "StepHeap$Mover", name := "hasRoom", desc := "(I)Z" } : Jvm.MethodName)) ∈ bt := List.mem_filter.mpr ⟨List.mem_append_right _ (List.mem_append_left _ (List.mem_of_getElem? (i := 143) rfl)), rfl⟩
theorem tb_144 : (Jvm.Cond.instanceMethod ({ cls := "StepHeap$Mover", name := "hasRoom", desc := "(I)Z" } : Jvm.MethodName)) ∈ bt := List.mem_filter.mpr ⟨List.mem_append_right _ (List.mem_append_left _ (List.mem_of_getElem? (i := 144) rfl)), rfl⟩
theorem tb_145 : (Jvm.Cond.selects "StepHeap$Mover" ({ cls := "StepHeap$Mover", name := "hasRoom", desc := "(I)Z" } : Jvm.MethodName) ({ cls := "StepHeap$Mover", name := "hasRoom", desc := "(I)Z" } : Jvm.MethodName)) ∈ bt := List.mem_filter.mpr ⟨List.mem_append_right _ (List.mem_append_left _ (List.mem_of_getElem? (i := 145) rfl)), rfl⟩
theorem tb_146 : (Jvm.Cond.code ({ cls := "StepHeap$Mover", name := "hasRoom", desc := "(I)Z" } : Jvm.MethodName) prog_4_method_6_code (2 : Nat) (Option.some Jvm.ClassFile.FieldType.boolean)) ∈ bt := List.mem_filter.mpr ⟨List.mem_append_right _ (List.mem_append_left _ (List.mem_of_getElem? (i := 146) rfl)), rfl⟩
theorem tb_147 : (Jvm.Cond.methodLink "StepHeap$Mover" (61 : Nat) ({ cls := "StepHeap$Mover", name := "isDone", desc := "()Z" } : Jvm.MethodName)) ∈ bt := List.mem_filter.mpr ⟨List.mem_append_right _ (List.mem_append_left _ (List.mem_of_getElem? (i := 147) rfl)), rfl⟩
theorem tb_148 : (Jvm.Cond.instanceMethod ({ cls := "StepHeap$Mover", name := "isDone", desc := "()Z" } : Jvm.MethodName)) ∈ bt := List.mem_filter.mpr ⟨List.mem_append_right _ (List.mem_append_left _ (List.mem_of_getElem? (i := 148) rfl)), rfl⟩
theorem tb_149 : (Jvm.Cond.selects "StepHeap$Mover" ({ cls := "StepHeap$Mover", name := "isDone", desc := "()Z" } : Jvm.MethodName) ({ cls := "StepHeap$Mover", name := "isDone", desc := "()Z" } : Jvm.MethodName)) ∈ bt := List.mem_filter.mpr ⟨List.mem_append_right _ (List.mem_append_left _ (List.mem_of_getElem? (i := 149) rfl)), rfl⟩
theorem tb_150 : (Jvm.Cond.code ({ cls := "StepHeap$Mover", name := "isDone", desc := "()Z" } : Jvm.MethodName) prog_4_method_5_code (1 : Nat) (Option.some Jvm.ClassFile.FieldType.boolean)) ∈ bt := List.mem_filter.mpr ⟨List.mem_append_right _ (List.mem_append_left _ (List.mem_of_getElem? (i := 150) rfl)), rfl⟩
theorem tb_151 : (Jvm.Cond.methodLink "StepHeap$Mover" (57 : Nat) ({ cls := "StepHeap$Mover", name := "moved", desc := "()I" } : Jvm.MethodName)) ∈ bt := List.mem_filter.mpr ⟨List.mem_append_right _ (List.mem_append_left _ (List.mem_of_getElem? (i := 151) rfl)), rfl⟩
theorem tb_152 : (Jvm.Cond.instanceMethod ({ cls := "StepHeap$Mover", name := "moved", desc := "()I" } : Jvm.MethodName)) ∈ bt := List.mem_filter.mpr ⟨List.mem_append_right _ (List.mem_append_left _ (List.mem_of_getElem? (i := 152) rfl)), rfl⟩
theorem tb_153 : (Jvm.Cond.selects "StepHeap$Mover" ({ cls := "StepHeap$Mover", name := "moved", desc := "()I" } : Jvm.MethodName) ({ cls := "StepHeap$Mover", name := "moved", desc := "()I" } : Jvm.MethodName)) ∈ bt := List.mem_filter.mpr ⟨List.mem_append_right _ (List.mem_append_left _ (List.mem_of_getElem? (i := 153) rfl)), rfl⟩
theorem tb_154 : (Jvm.Cond.code ({ cls := "StepHeap$Mover", name := "moved", desc := "()I" } : Jvm.MethodName) prog_4_method_4_code (1 : Nat) (Option.some Jvm.ClassFile.FieldType.int)) ∈ bt := List.mem_filter.mpr ⟨List.mem_append_right _ (List.mem_append_left _ (List.mem_of_getElem? (i := 154) rfl)), rfl⟩
theorem tb_155 : (Jvm.Cond.methodLink "StepHeap$Mover" (65 : Nat) ({ cls := "StepHeap$Mover", name := "beginCycle", desc := "()V" } : Jvm.MethodName)) ∈ bt := List.mem_filter.mpr ⟨List.mem_append_right _ (List.mem_append_left _ (List.mem_of_getElem? (i := 155) rfl)), rfl⟩
theorem tb_157 : (Jvm.Cond.instanceMethod ({ cls := "StepHeap$Mover", name := "beginCycle", desc := "()V" } : Jvm.MethodName)) ∈ bt := List.mem_filter.mpr ⟨List.mem_append_right _ (List.mem_append_left _ (List.mem_of_getElem? (i := 157) rfl)), rfl⟩
theorem tb_158 : (Jvm.Cond.code ({ cls := "StepHeap$Mover", name := "beginCycle", desc := "()V" } : Jvm.MethodName) prog_4_method_11_code (2 : Nat) (Option.none : Option Jvm.ClassFile.FieldType)) ∈ bt := List.mem_filter.mpr ⟨List.mem_append_right _ (List.mem_append_left _ (List.mem_of_getElem? (i := 158) rfl)), rfl⟩
theorem tb_159 : (Jvm.Cond.methodLink "StepHeap$Mover" (85 : Nat) ({ cls := "StepHeap$Mover", name := "placeInUse", desc := "(I)I" } : Jvm.MethodName)) ∈ bt := List.mem_filter.mpr ⟨List.mem_append_right _ (List.mem_append_left _ (List.mem_of_getElem? (i := 159) rfl)), rfl⟩
theorem tb_161 : (Jvm.Cond.instanceMethod ({ cls := "StepHeap$Mover", name := "placeInUse", desc := "(I)I" } : Jvm.MethodName)) ∈ bt := List.mem_filter.mpr ⟨List.mem_append_right _ (List.mem_append_left _ (List.mem_of_getElem? (i := 161) rfl)), rfl⟩
theorem tb_162 : (Jvm.Cond.code ({ cls := "StepHeap$Mover", name := "placeInUse", desc := "(I)I" } : Jvm.MethodName) prog_4_method_13_code (6 : Nat) (Option.some Jvm.ClassFile.FieldType.int)) ∈ bt := List.mem_filter.mpr ⟨List.mem_append_right _ (List.mem_append_left _ (List.mem_of_getElem? (i := 162) rfl)), rfl⟩
theorem tb_163 : (Jvm.Cond.methodLink "StepHeap$Mover" (97 : Nat) ({ cls := "StepHeap$Mover", name := "isOld", desc := "(I)Z" } : Jvm.MethodName)) ∈ bt := List.mem_filter.mpr ⟨List.mem_append_right _ (List.mem_append_left _ (List.mem_of_getElem? (i := 163) rfl)), rfl⟩
theorem tb_165 : (Jvm.Cond.instanceMethod ({ cls := "StepHeap$Mover", name := "isOld", desc := "(I)Z" } : Jvm.MethodName)) ∈ bt := List.mem_filter.mpr ⟨List.mem_append_right _ (List.mem_append_left _ (List.mem_of_getElem? (i := 165) rfl)), rfl⟩
theorem tb_166 : (Jvm.Cond.code ({ cls := "StepHeap$Mover", name := "isOld", desc := "(I)Z" } : Jvm.MethodName) prog_4_method_12_code (2 : Nat) (Option.some Jvm.ClassFile.FieldType.boolean)) ∈ bt := List.mem_filter.mpr ⟨List.mem_append_right _ (List.mem_append_left _ (List.mem_of_getElem? (i := 166) rfl)), rfl⟩
theorem tb_167 : (Jvm.Cond.methodLink "StepHeap$Mover" (82 : Nat) ({ cls := "StepHeap$Cells", name := "read", desc := "(I)I" } : Jvm.MethodName)) ∈ bt := List.mem_filter.mpr ⟨List.mem_append_right _ (List.mem_append_left _ (List.mem_of_getElem? (i := 167) rfl)), rfl⟩
theorem tb_168 : (Jvm.Cond.instanceMethod ({ cls := "StepHeap$Cells", name := "read", desc := "(I)I" } : Jvm.MethodName)) ∈ bt := List.mem_filter.mpr ⟨List.mem_append_right _ (List.mem_append_left _ (List.mem_of_getElem? (i := 168) rfl)), rfl⟩
theorem tb_169 : (Jvm.Cond.selects "StepHeap$Cells" ({ cls := "StepHeap$Cells", name := "read", desc := "(I)I" } : Jvm.MethodName) ({ cls := "StepHeap$Cells", name := "read", desc := "(I)I" } : Jvm.MethodName)) ∈ bt := List.mem_filter.mpr ⟨List.mem_append_right _ (List.mem_append_left _ (List.mem_of_getElem? (i := 169) rfl)), rfl⟩
theorem tb_170 : (Jvm.Cond.code ({ cls := "StepHeap$Cells", name := "read", desc := "(I)I" } : Jvm.MethodName) prog_2_method_3_code (3 : Nat) (Option.some Jvm.ClassFile.FieldType.int)) ∈ bt := List.mem_filter.mpr ⟨List.mem_append_right _ (List.mem_append_left _ (List.mem_of_getElem? (i := 170) rfl)), rfl⟩
theorem tb_171 : (Jvm.Cond.methodLink "StepHeap$Cells" (29 : Nat) ({ cls := "StepHeap$Cells", name := "touch", desc := "()V" } : Jvm.MethodName)) ∈ bt := List.mem_filter.mpr ⟨List.mem_append_right _ (List.mem_append_left _ (List.mem_of_getElem? (i := 171) rfl)), rfl⟩
theorem tb_173 : (Jvm.Cond.instanceMethod ({ cls := "StepHeap$Cells", name := "touch", desc := "()V" } : Jvm.MethodName)) ∈ bt := List.mem_filter.mpr ⟨List.mem_append_right _ (List.mem_append_left _ (List.mem_of_getElem? (i := 173) rfl)), rfl⟩
theorem tb_174 : (Jvm.Cond.code ({ cls := "StepHeap$Cells", name := "touch", desc := "()V" } : Jvm.MethodName) prog_2_method_5_code (1 : Nat) (Option.none : Option Jvm.ClassFile.FieldType)) ∈ bt := List.mem_filter.mpr ⟨List.mem_append_right _ (List.mem_append_left _ (List.mem_of_getElem? (i := 174) rfl)), rfl⟩
theorem tb_175 : (Jvm.Cond.methodLink "StepHeap$Mover" (68 : Nat) ({ cls := "StepHeap$Head", name := "cells", desc := "(I)I" } : Jvm.MethodName)) ∈ bt := List.mem_filter.mpr ⟨List.mem_append_right _ (List.mem_append_left _ (List.mem_of_getElem? (i := 175) rfl)), rfl⟩
theorem tb_176 : (Jvm.Cond.methodLink "StepHeap$Mover" (76 : Nat) ({ cls := "StepHeap$Cells", name := "write", desc := "(II)V" } : Jvm.MethodName)) ∈ bt := List.mem_filter.mpr ⟨List.mem_append_right _ (List.mem_append_left _ (List.mem_of_getElem? (i := 176) rfl)), rfl⟩
theorem tb_177 : (Jvm.Cond.instanceMethod ({ cls := "StepHeap$Cells", name := "write", desc := "(II)V" } : Jvm.MethodName)) ∈ bt := List.mem_filter.mpr ⟨List.mem_append_right _ (List.mem_append_left _ (List.mem_of_getElem? (i := 177) rfl)), rfl⟩
theorem tb_178 : (Jvm.Cond.selects "StepHeap$Cells" ({ cls := "StepHeap$Cells", name := "write", desc := "(II)V" } : Jvm.MethodName) ({ cls := "StepHeap$Cells", name := "write", desc := "(II)V" } : Jvm.MethodName)) ∈ bt := List.mem_filter.mpr ⟨List.mem_append_right _ (List.mem_append_left _ (List.mem_of_getElem? (i := 178) rfl)), rfl⟩
theorem tb_179 : (Jvm.Cond.code ({ cls := "StepHeap$Cells", name := "write", desc := "(II)V" } : Jvm.MethodName) prog_2_method_4_code (4 : Nat) (Option.none : Option Jvm.ClassFile.FieldType)) ∈ bt := List.mem_filter.mpr ⟨List.mem_append_right _ (List.mem_append_left _ (List.mem_of_getElem? (i := 179) rfl)), rfl⟩
theorem tb_180 : (Jvm.Cond.instantiable "StepHeap$Page" (1 : Nat)) ∈ bt := List.mem_filter.mpr ⟨List.mem_append_right _ (List.mem_append_left _ (List.mem_of_getElem? (i := 180) rfl)), rfl⟩
theorem tn_181 : (Jvm.Cond.methodLinkNest "StepHeap$Cells" (36 : Nat) ({ cls := "StepHeap$Page", name := "<init>", desc := "()V" } : Jvm.MethodName) "StepHeap") ∈ lw_tbl := List.mem_append_right _ (List.mem_append_left _ (List.mem_of_getElem? (i := 181) rfl))
theorem tb_182 : (Jvm.Cond.instanceMethod ({ cls := "StepHeap$Page", name := "<init>", desc := "()V" } : Jvm.MethodName)) ∈ bt := List.mem_filter.mpr ⟨List.mem_append_right _ (List.mem_append_left _ (List.mem_of_getElem? (i := 182) rfl)), rfl⟩
theorem tb_183 : (Jvm.Cond.code ({ cls := "StepHeap$Page", name := "<init>", desc := "()V" } : Jvm.MethodName) prog_5_method_1_code (1 : Nat) (Option.none : Option Jvm.ClassFile.FieldType)) ∈ bt := List.mem_filter.mpr ⟨List.mem_append_right _ (List.mem_append_left _ (List.mem_of_getElem? (i := 183) rfl)), rfl⟩
theorem tb_184 : (Jvm.Cond.methodLink "StepHeap$Page" (3 : Nat) ({ cls := "java/lang/Object", name := "<init>", desc := "()V" } : Jvm.MethodName)) ∈ bt := List.mem_filter.mpr ⟨List.mem_append_right _ (List.mem_append_left _ (List.mem_of_getElem? (i := 184) rfl)), rfl⟩
theorem tb_185 : (Jvm.Cond.fieldLink "StepHeap$Page" (9 : Nat) "StepHeap$Page" "row" "[I") ∈ bt := List.mem_filter.mpr ⟨List.mem_append_right _ (List.mem_append_left _ (List.mem_of_getElem? (i := 185) rfl)), rfl⟩
theorem tn_186 : (Jvm.Cond.fieldLinkNest "StepHeap$Cells" (32 : Nat) "StepHeap$Page" "row" "[I" "StepHeap") ∈ lw_tbl := List.mem_append_right _ (List.mem_append_left _ (List.mem_of_getElem? (i := 186) rfl))
theorem tb_187 : (Jvm.Cond.laysFinal "StepHeap$Page" "StepHeap$Page" "row" "[I") ∈ bt := List.mem_filter.mpr ⟨List.mem_append_right _ (List.mem_append_left _ (List.mem_of_getElem? (i := 187) rfl)), rfl⟩
theorem tb_188 : (Jvm.Cond.soleField "StepHeap$Page" "row") ∈ bt := List.mem_filter.mpr ⟨List.mem_append_right _ (List.mem_append_left _ (List.mem_of_getElem? (i := 188) rfl)), rfl⟩
theorem tb_189 : (Jvm.Cond.superclass "StepHeap$Page" "java/lang/Object") ∈ bt := List.mem_filter.mpr ⟨List.mem_append_right _ (List.mem_append_left _ (List.mem_of_getElem? (i := 189) rfl)), rfl⟩
theorem tb_190 : (Jvm.Cond.methodLink "StepHeap" (147 : Nat) ({ cls := "StepHeap$Mover", name := "place", desc := "(I)I" } : Jvm.MethodName)) ∈ bt := List.mem_filter.mpr ⟨List.mem_append_right _ (List.mem_append_left _ (List.mem_of_getElem? (i := 190) rfl)), rfl⟩
theorem tb_191 : (Jvm.Cond.instanceMethod ({ cls := "StepHeap$Mover", name := "place", desc := "(I)I" } : Jvm.MethodName)) ∈ bt := List.mem_filter.mpr ⟨List.mem_append_right _ (List.mem_append_left _ (List.mem_of_getElem? (i := 191) rfl)), rfl⟩
theorem tb_192 : (Jvm.Cond.selects "StepHeap$Mover" ({ cls := "StepHeap$Mover", name := "place", desc := "(I)I" } : Jvm.MethodName) ({ cls := "StepHeap$Mover", name := "place", desc := "(I)I" } : Jvm.MethodName)) ∈ bt := List.mem_filter.mpr ⟨List.mem_append_right _ (List.mem_append_left _ (List.mem_of_getElem? (i := 192) rfl)), rfl⟩
theorem tb_193 : (Jvm.Cond.code ({ cls := "StepHeap$Mover", name := "place", desc := "(I)I" } : Jvm.MethodName) prog_4_method_7_code (4 : Nat) (Option.some Jvm.ClassFile.FieldType.int)) ∈ bt := List.mem_filter.mpr ⟨List.mem_append_right _ (List.mem_append_left _ (List.mem_of_getElem? (i := 193) rfl)), rfl⟩
theorem tb_194 : (Jvm.Cond.methodLink "StepHeap$Mover" (79 : Nat) ({ cls := "StepHeap$Mover", name := "work", desc := "()V" } : Jvm.MethodName)) ∈ bt := List.mem_filter.mpr ⟨List.mem_append_right _ (List.mem_append_left _ (List.mem_of_getElem? (i := 194) rfl)), rfl⟩
theorem tb_196 : (Jvm.Cond.instanceMethod ({ cls := "StepHeap$Mover", name := "work", desc := "()V" } : Jvm.MethodName)) ∈ bt := List.mem_filter.mpr ⟨List.mem_append_right _ (List.mem_append_left _ (List.mem_of_getElem? (i := 196) rfl)), rfl⟩
theorem tb_197 : (Jvm.Cond.code ({ cls := "StepHeap$Mover", name := "work", desc := "()V" } : Jvm.MethodName) prog_4_method_14_code (5 : Nat) (Option.none : Option Jvm.ClassFile.FieldType)) ∈ bt := List.mem_filter.mpr ⟨List.mem_append_right _ (List.mem_append_left _ (List.mem_of_getElem? (i := 197) rfl)), rfl⟩
theorem tb_198 : (Jvm.Cond.methodLink "StepHeap$Mover" (100 : Nat) ({ cls := "StepHeap$Head", name := "traced", desc := "(I)I" } : Jvm.MethodName)) ∈ bt := List.mem_filter.mpr ⟨List.mem_append_right _ (List.mem_append_left _ (List.mem_of_getElem? (i := 198) rfl)), rfl⟩
theorem tb_199 : (Jvm.Cond.methodLink "StepHeap" (71 : Nat) ({ cls := "StepHeap$Mover", name := "setRegister", desc := "(II)V" } : Jvm.MethodName)) ∈ bt := List.mem_filter.mpr ⟨List.mem_append_right _ (List.mem_append_left _ (List.mem_of_getElem? (i := 199) rfl)), rfl⟩
theorem tb_200 : (Jvm.Cond.instanceMethod ({ cls := "StepHeap$Mover", name := "setRegister", desc := "(II)V" } : Jvm.MethodName)) ∈ bt := List.mem_filter.mpr ⟨List.mem_append_right _ (List.mem_append_left _ (List.mem_of_getElem? (i := 200) rfl)), rfl⟩
theorem tb_201 : (Jvm.Cond.selects "StepHeap$Mover" ({ cls := "StepHeap$Mover", name := "setRegister", desc := "(II)V" } : Jvm.MethodName) ({ cls := "StepHeap$Mover", name := "setRegister", desc := "(II)V" } : Jvm.MethodName)) ∈ bt := List.mem_filter.mpr ⟨List.mem_append_right _ (List.mem_append_left _ (List.mem_of_getElem? (i := 201) rfl)), rfl⟩
theorem tb_202 : (Jvm.Cond.code ({ cls := "StepHeap$Mover", name := "setRegister", desc := "(II)V" } : Jvm.MethodName) prog_4_method_3_code (3 : Nat) (Option.none : Option Jvm.ClassFile.FieldType)) ∈ bt := List.mem_filter.mpr ⟨List.mem_append_right _ (List.mem_append_left _ (List.mem_of_getElem? (i := 202) rfl)), rfl⟩
theorem tn_203 : (Jvm.Cond.methodLinkNest "StepHeap$Mover" (44 : Nat) ({ cls := "StepHeap", name := "isRegister", desc := "(I)Z" } : Jvm.MethodName) "StepHeap") ∈ lw_tbl := List.mem_append_right _ (List.mem_append_left _ (List.mem_of_getElem? (i := 203) rfl))
theorem tb_204 : (Jvm.Cond.methodLink "StepHeapLaw" (26 : Nat) ({ cls := "StepHeap", name := "array", desc := "(IIZ)I" } : Jvm.MethodName)) ∈ bt := List.mem_filter.mpr ⟨List.mem_append_right _ (List.mem_append_left _ (List.mem_of_getElem? (i := 204) rfl)), rfl⟩
theorem tb_205 : (Jvm.Cond.instanceMethod ({ cls := "StepHeap", name := "array", desc := "(IIZ)I" } : Jvm.MethodName)) ∈ bt := List.mem_filter.mpr ⟨List.mem_append_right _ (List.mem_append_left _ (List.mem_of_getElem? (i := 205) rfl)), rfl⟩
theorem tb_206 : (Jvm.Cond.selects "StepHeap" ({ cls := "StepHeap", name := "array", desc := "(IIZ)I" } : Jvm.MethodName) ({ cls := "StepHeap", name := "array", desc := "(IIZ)I" } : Jvm.MethodName)) ∈ bt := List.mem_filter.mpr ⟨List.mem_append_right _ (List.mem_append_left _ (List.mem_of_getElem? (i := 206) rfl)), rfl⟩
theorem tb_207 : (Jvm.Cond.code ({ cls := "StepHeap", name := "array", desc := "(IIZ)I" } : Jvm.MethodName) prog_1_method_3_code (4 : Nat) (Option.some Jvm.ClassFile.FieldType.int)) ∈ bt := List.mem_filter.mpr ⟨List.mem_append_right _ (List.mem_append_left _ (List.mem_of_getElem? (i := 207) rfl)), rfl⟩
theorem tb_208 : (Jvm.Cond.methodLink "StepHeap" (51 : Nat) ({ cls := "StepHeap$Head", name := "ofArray", desc := "(IZ)I" } : Jvm.MethodName)) ∈ bt := List.mem_filter.mpr ⟨List.mem_append_right _ (List.mem_append_left _ (List.mem_of_getElem? (i := 208) rfl)), rfl⟩
theorem tb_209 : (Jvm.Cond.static ({ cls := "StepHeap$Head", name := "ofArray", desc := "(IZ)I" } : Jvm.MethodName)) ∈ bt := List.mem_filter.mpr ⟨List.mem_append_right _ (List.mem_append_left _ (List.mem_of_getElem? (i := 209) rfl)), rfl⟩
theorem tb_210 : (Jvm.Cond.code ({ cls := "StepHeap$Head", name := "ofArray", desc := "(IZ)I" } : Jvm.MethodName) prog_3_method_4_code (3 : Nat) (Option.some Jvm.ClassFile.FieldType.int)) ∈ bt := List.mem_filter.mpr ⟨List.mem_append_right _ (List.mem_append_left _ (List.mem_of_getElem? (i := 210) rfl)), rfl⟩
theorem tb_211 : (Jvm.Cond.methodLink "StepHeap$Head" (15 : Nat) ({ cls := "StepHeap$Head", name := "ofNode", desc := "(Z)I" } : Jvm.MethodName)) ∈ bt := List.mem_filter.mpr ⟨List.mem_append_right _ (List.mem_append_left _ (List.mem_of_getElem? (i := 211) rfl)), rfl⟩
theorem tb_212 : (Jvm.Cond.static ({ cls := "StepHeap$Head", name := "ofNode", desc := "(Z)I" } : Jvm.MethodName)) ∈ bt := List.mem_filter.mpr ⟨List.mem_append_right _ (List.mem_append_left _ (List.mem_of_getElem? (i := 212) rfl)), rfl⟩
theorem tb_213 : (Jvm.Cond.code ({ cls := "StepHeap$Head", name := "ofNode", desc := "(Z)I" } : Jvm.MethodName) prog_3_method_3_code (1 : Nat) (Option.some Jvm.ClassFile.FieldType.int)) ∈ bt := List.mem_filter.mpr ⟨List.mem_append_right _ (List.mem_append_left _ (List.mem_of_getElem? (i := 213) rfl)), rfl⟩
theorem tb_214 : (Jvm.Cond.methodLink "StepHeap$Head" (11 : Nat) ({ cls := "StepHeap$Head", name := "ofObject", desc := "(II)I" } : Jvm.MethodName)) ∈ bt := List.mem_filter.mpr ⟨List.mem_append_right _ (List.mem_append_left _ (List.mem_of_getElem? (i := 214) rfl)), rfl⟩
theorem tb_215 : (Jvm.Cond.methodLink "StepHeapLaw" (31 : Nat) ({ cls := "StepHeap", name := "get", desc := "(III)Z" } : Jvm.MethodName)) ∈ bt := List.mem_filter.mpr ⟨List.mem_append_right _ (List.mem_append_left _ (List.mem_of_getElem? (i := 215) rfl)), rfl⟩
theorem tb_216 : (Jvm.Cond.instanceMethod ({ cls := "StepHeap", name := "get", desc := "(III)Z" } : Jvm.MethodName)) ∈ bt := List.mem_filter.mpr ⟨List.mem_append_right _ (List.mem_append_left _ (List.mem_of_getElem? (i := 216) rfl)), rfl⟩
theorem tb_217 : (Jvm.Cond.selects "StepHeap" ({ cls := "StepHeap", name := "get", desc := "(III)Z" } : Jvm.MethodName) ({ cls := "StepHeap", name := "get", desc := "(III)Z" } : Jvm.MethodName)) ∈ bt := List.mem_filter.mpr ⟨List.mem_append_right _ (List.mem_append_left _ (List.mem_of_getElem? (i := 217) rfl)), rfl⟩
theorem tb_218 : (Jvm.Cond.code ({ cls := "StepHeap", name := "get", desc := "(III)Z" } : Jvm.MethodName) prog_1_method_4_code (5 : Nat) (Option.some Jvm.ClassFile.FieldType.boolean)) ∈ bt := List.mem_filter.mpr ⟨List.mem_append_right _ (List.mem_append_left _ (List.mem_of_getElem? (i := 218) rfl)), rfl⟩
theorem tb_219 : (Jvm.Cond.methodLink "StepHeap" (55 : Nat) ({ cls := "StepHeap", name := "headOf", desc := "(I)I" } : Jvm.MethodName)) ∈ bt := List.mem_filter.mpr ⟨List.mem_append_right _ (List.mem_append_left _ (List.mem_of_getElem? (i := 219) rfl)), rfl⟩
theorem tb_221 : (Jvm.Cond.instanceMethod ({ cls := "StepHeap", name := "headOf", desc := "(I)I" } : Jvm.MethodName)) ∈ bt := List.mem_filter.mpr ⟨List.mem_append_right _ (List.mem_append_left _ (List.mem_of_getElem? (i := 221) rfl)), rfl⟩
theorem tb_222 : (Jvm.Cond.code ({ cls := "StepHeap", name := "headOf", desc := "(I)I" } : Jvm.MethodName) prog_1_method_22_code (3 : Nat) (Option.some Jvm.ClassFile.FieldType.int)) ∈ bt := List.mem_filter.mpr ⟨List.mem_append_right _ (List.mem_append_left _ (List.mem_of_getElem? (i := 222) rfl)), rfl⟩
theorem tb_223 : (Jvm.Cond.methodLink "StepHeap" (75 : Nat) ({ cls := "StepHeap$Mover", name := "register", desc := "(I)I" } : Jvm.MethodName)) ∈ bt := List.mem_filter.mpr ⟨List.mem_append_right _ (List.mem_append_left _ (List.mem_of_getElem? (i := 223) rfl)), rfl⟩
theorem tb_224 : (Jvm.Cond.instanceMethod ({ cls := "StepHeap$Mover", name := "register", desc := "(I)I" } : Jvm.MethodName)) ∈ bt := List.mem_filter.mpr ⟨List.mem_append_right _ (List.mem_append_left _ (List.mem_of_getElem? (i := 224) rfl)), rfl⟩
theorem tb_225 : (Jvm.Cond.selects "StepHeap$Mover" ({ cls := "StepHeap$Mover", name := "register", desc := "(I)I" } : Jvm.MethodName) ({ cls := "StepHeap$Mover", name := "register", desc := "(I)I" } : Jvm.MethodName)) ∈ bt := List.mem_filter.mpr ⟨List.mem_append_right _ (List.mem_append_left _ (List.mem_of_getElem? (i := 225) rfl)), rfl⟩
theorem tb_226 : (Jvm.Cond.code ({ cls := "StepHeap$Mover", name := "register", desc := "(I)I" } : Jvm.MethodName) prog_4_method_2_code (2 : Nat) (Option.some Jvm.ClassFile.FieldType.int)) ∈ bt := List.mem_filter.mpr ⟨List.mem_append_right _ (List.mem_append_left _ (List.mem_of_getElem? (i := 226) rfl)), rfl⟩
theorem tb_227 : (Jvm.Cond.methodLink "StepHeap" (90 : Nat) ({ cls := "StepHeap$Cells", name := "read", desc := "(I)I" } : Jvm.MethodName)) ∈ bt := List.mem_filter.mpr ⟨List.mem_append_right _ (List.mem_append_left _ (List.mem_of_getElem? (i := 227) rfl)), rfl⟩
theorem tb_228 : (Jvm.Cond.methodLink "StepHeap" (59 : Nat) ({ cls := "StepHeap$Head", name := "references", desc := "(I)I" } : Jvm.MethodName)) ∈ bt := List.mem_filter.mpr ⟨List.mem_append_right _ (List.mem_append_left _ (List.mem_of_getElem? (i := 228) rfl)), rfl⟩
theorem tb_229 : (Jvm.Cond.static ({ cls := "StepHeap$Head", name := "references", desc := "(I)I" } : Jvm.MethodName)) ∈ bt := List.mem_filter.mpr ⟨List.mem_append_right _ (List.mem_append_left _ (List.mem_of_getElem? (i := 229) rfl)), rfl⟩
theorem tb_230 : (Jvm.Cond.code ({ cls := "StepHeap$Head", name := "references", desc := "(I)I" } : Jvm.MethodName) prog_3_method_10_code (1 : Nat) (Option.some Jvm.ClassFile.FieldType.int)) ∈ bt := List.mem_filter.mpr ⟨List.mem_append_right _ (List.mem_append_left _ (List.mem_of_getElem? (i := 230) rfl)), rfl⟩
theorem tb_231 : (Jvm.Cond.methodLink "StepHeap$Head" (26 : Nat) ({ cls := "StepHeap$Head", name := "isArray", desc := "(I)Z" } : Jvm.MethodName)) ∈ bt := List.mem_filter.mpr ⟨List.mem_append_right _ (List.mem_append_left _ (List.mem_of_getElem? (i := 231) rfl)), rfl⟩
theorem tb_232 : (Jvm.Cond.static ({ cls := "StepHeap$Head", name := "isArray", desc := "(I)Z" } : Jvm.MethodName)) ∈ bt := List.mem_filter.mpr ⟨List.mem_append_right _ (List.mem_append_left _ (List.mem_of_getElem? (i := 232) rfl)), rfl⟩
theorem tb_233 : (Jvm.Cond.code ({ cls := "StepHeap$Head", name := "isArray", desc := "(I)Z" } : Jvm.MethodName) prog_3_method_8_code (1 : Nat) (Option.some Jvm.ClassFile.FieldType.boolean)) ∈ bt := List.mem_filter.mpr ⟨List.mem_append_right _ (List.mem_append_left _ (List.mem_of_getElem? (i := 233) rfl)), rfl⟩
theorem tb_234 : (Jvm.Cond.methodLink "StepHeap" (65 : Nat) ({ cls := "StepHeap", name := "referenceCell", desc := "(II)I" } : Jvm.MethodName)) ∈ bt := List.mem_filter.mpr ⟨List.mem_append_right _ (List.mem_append_left _ (List.mem_of_getElem? (i := 234) rfl)), rfl⟩
theorem tb_236 : (Jvm.Cond.instanceMethod ({ cls := "StepHeap", name := "referenceCell", desc := "(II)I" } : Jvm.MethodName)) ∈ bt := List.mem_filter.mpr ⟨List.mem_append_right _ (List.mem_append_left _ (List.mem_of_getElem? (i := 236) rfl)), rfl⟩
theorem tb_237 : (Jvm.Cond.code ({ cls := "StepHeap", name := "referenceCell", desc := "(II)I" } : Jvm.MethodName) prog_1_method_23_code (3 : Nat) (Option.some Jvm.ClassFile.FieldType.int)) ∈ bt := List.mem_filter.mpr ⟨List.mem_append_right _ (List.mem_append_left _ (List.mem_of_getElem? (i := 237) rfl)), rfl⟩
theorem tb_238 : (Jvm.Cond.methodLink "StepHeap" (68 : Nat) ({ cls := "StepHeap$Mover", name := "follow", desc := "(I)I" } : Jvm.MethodName)) ∈ bt := List.mem_filter.mpr ⟨List.mem_append_right _ (List.mem_append_left _ (List.mem_of_getElem? (i := 238) rfl)), rfl⟩
theorem tb_239 : (Jvm.Cond.instanceMethod ({ cls := "StepHeap$Mover", name := "follow", desc := "(I)I" } : Jvm.MethodName)) ∈ bt := List.mem_filter.mpr ⟨List.mem_append_right _ (List.mem_append_left _ (List.mem_of_getElem? (i := 239) rfl)), rfl⟩
theorem tb_240 : (Jvm.Cond.selects "StepHeap$Mover" ({ cls := "StepHeap$Mover", name := "follow", desc := "(I)I" } : Jvm.MethodName) ({ cls := "StepHeap$Mover", name := "follow", desc := "(I)I" } : Jvm.MethodName)) ∈ bt := List.mem_filter.mpr ⟨List.mem_append_right _ (List.mem_append_right _ (List.mem_append_left _ (List.mem_of_getElem? (i := 0) rfl))), rfl⟩
theorem tb_241 : (Jvm.Cond.code ({ cls := "StepHeap$Mover", name := "follow", desc := "(I)I" } : Jvm.MethodName) prog_4_method_8_code (2 : Nat) (Option.some Jvm.ClassFile.FieldType.int)) ∈ bt := List.mem_filter.mpr ⟨List.mem_append_right _ (List.mem_append_right _ (List.mem_append_left _ (List.mem_of_getElem? (i := 1) rfl))), rfl⟩
theorem tb_242 : (Jvm.Cond.methodLink "StepHeapLaw" (36 : Nat) ({ cls := "StepHeap", name := "put", desc := "(III)Z" } : Jvm.MethodName)) ∈ bt := List.mem_filter.mpr ⟨List.mem_append_right _ (List.mem_append_right _ (List.mem_append_left _ (List.mem_of_getElem? (i := 2) rfl))), rfl⟩
theorem tb_243 : (Jvm.Cond.instanceMethod ({ cls := "StepHeap", name := "put", desc := "(III)Z" } : Jvm.MethodName)) ∈ bt := List.mem_filter.mpr ⟨List.mem_append_right _ (List.mem_append_right _ (List.mem_append_left _ (List.mem_of_getElem? (i := 3) rfl))), rfl⟩
theorem tb_244 : (Jvm.Cond.selects "StepHeap" ({ cls := "StepHeap", name := "put", desc := "(III)Z" } : Jvm.MethodName) ({ cls := "StepHeap", name := "put", desc := "(III)Z" } : Jvm.MethodName)) ∈ bt := List.mem_filter.mpr ⟨List.mem_append_right _ (List.mem_append_right _ (List.mem_append_left _ (List.mem_of_getElem? (i := 4) rfl))), rfl⟩
theorem tb_245 : (Jvm.Cond.code ({ cls := "StepHeap", name := "put", desc := "(III)Z" } : Jvm.MethodName) prog_1_method_5_code (5 : Nat) (Option.some Jvm.ClassFile.FieldType.boolean)) ∈ bt := List.mem_filter.mpr ⟨List.mem_append_right _ (List.mem_append_right _ (List.mem_append_left _ (List.mem_of_getElem? (i := 5) rfl))), rfl⟩
theorem tb_246 : (Jvm.Cond.methodLink "StepHeap" (78 : Nat) ({ cls := "StepHeap$Mover", name := "link", desc := "(II)V" } : Jvm.MethodName)) ∈ bt := List.mem_filter.mpr ⟨List.mem_append_right _ (List.mem_append_right _ (List.mem_append_left _ (List.mem_of_getElem? (i := 6) rfl))), rfl⟩
theorem tb_247 : (Jvm.Cond.instanceMethod ({ cls := "StepHeap$Mover", name := "link", desc := "(II)V" } : Jvm.MethodName)) ∈ bt := List.mem_filter.mpr ⟨List.mem_append_right _ (List.mem_append_right _ (List.mem_append_left _ (List.mem_of_getElem? (i := 7) rfl))), rfl⟩
theorem tb_248 : (Jvm.Cond.selects "StepHeap$Mover" ({ cls := "StepHeap$Mover", name := "link", desc := "(II)V" } : Jvm.MethodName) ({ cls := "StepHeap$Mover", name := "link", desc := "(II)V" } : Jvm.MethodName)) ∈ bt := List.mem_filter.mpr ⟨List.mem_append_right _ (List.mem_append_right _ (List.mem_append_left _ (List.mem_of_getElem? (i := 8) rfl))), rfl⟩
theorem tb_249 : (Jvm.Cond.code ({ cls := "StepHeap$Mover", name := "link", desc := "(II)V" } : Jvm.MethodName) prog_4_method_9_code (3 : Nat) (Option.none : Option Jvm.ClassFile.FieldType)) ∈ bt := List.mem_filter.mpr ⟨List.mem_append_right _ (List.mem_append_right _ (List.mem_append_left _ (List.mem_of_getElem? (i := 9) rfl))), rfl⟩
theorem tb_250 : (Jvm.Cond.methodLink "StepHeap$Mover" (88 : Nat) ({ cls := "StepHeap$Mover", name := "follow", desc := "(I)I" } : Jvm.MethodName)) ∈ bt := List.mem_filter.mpr ⟨List.mem_append_right _ (List.mem_append_right _ (List.mem_append_left _ (List.mem_of_getElem? (i := 10) rfl))), rfl⟩
theorem tb_251 : (Jvm.Cond.methodLink "StepHeapLaw" (40 : Nat) ({ cls := "StepHeap", name := "look", desc := "(II)J" } : Jvm.MethodName)) ∈ bt := List.mem_filter.mpr ⟨List.mem_append_right _ (List.mem_append_right _ (List.mem_append_left _ (List.mem_of_getElem? (i := 11) rfl))), rfl⟩
theorem tb_252 : (Jvm.Cond.instanceMethod ({ cls := "StepHeap", name := "look", desc := "(II)J" } : Jvm.MethodName)) ∈ bt := List.mem_filter.mpr ⟨List.mem_append_right _ (List.mem_append_right _ (List.mem_append_left _ (List.mem_of_getElem? (i := 12) rfl))), rfl⟩
theorem tb_253 : (Jvm.Cond.selects "StepHeap" ({ cls := "StepHeap", name := "look", desc := "(II)J" } : Jvm.MethodName) ({ cls := "StepHeap", name := "look", desc := "(II)J" } : Jvm.MethodName)) ∈ bt := List.mem_filter.mpr ⟨List.mem_append_right _ (List.mem_append_right _ (List.mem_append_left _ (List.mem_of_getElem? (i := 13) rfl))), rfl⟩
theorem tb_254 : (Jvm.Cond.code ({ cls := "StepHeap", name := "look", desc := "(II)J" } : Jvm.MethodName) prog_1_method_6_code (4 : Nat) (Option.some Jvm.ClassFile.FieldType.long)) ∈ bt := List.mem_filter.mpr ⟨List.mem_append_right _ (List.mem_append_right _ (List.mem_append_left _ (List.mem_of_getElem? (i := 14) rfl))), rfl⟩
theorem tb_255 : (Jvm.Cond.methodLink "StepHeap" (81 : Nat) ({ cls := "StepHeap$Head", name := "ints", desc := "(I)I" } : Jvm.MethodName)) ∈ bt := List.mem_filter.mpr ⟨List.mem_append_right _ (List.mem_append_right _ (List.mem_append_left _ (List.mem_of_getElem? (i := 15) rfl))), rfl⟩
theorem tb_256 : (Jvm.Cond.static ({ cls := "StepHeap$Head", name := "ints", desc := "(I)I" } : Jvm.MethodName)) ∈ bt := List.mem_filter.mpr ⟨List.mem_append_right _ (List.mem_append_right _ (List.mem_append_left _ (List.mem_of_getElem? (i := 16) rfl))), rfl⟩
theorem tb_257 : (Jvm.Cond.code ({ cls := "StepHeap$Head", name := "ints", desc := "(I)I" } : Jvm.MethodName) prog_3_method_11_code (1 : Nat) (Option.some Jvm.ClassFile.FieldType.int)) ∈ bt := List.mem_filter.mpr ⟨List.mem_append_right _ (List.mem_append_right _ (List.mem_append_left _ (List.mem_of_getElem? (i := 17) rfl))), rfl⟩
theorem tb_258 : (Jvm.Cond.constantLong "StepHeap" (84 : Nat) (-9223372036854775808 : Int64)) ∈ bt := List.mem_filter.mpr ⟨List.mem_append_right _ (List.mem_append_right _ (List.mem_append_left _ (List.mem_of_getElem? (i := 18) rfl))), rfl⟩
theorem tb_259 : (Jvm.Cond.methodLink "StepHeap" (86 : Nat) ({ cls := "StepHeap", name := "intCell", desc := "(III)I" } : Jvm.MethodName)) ∈ bt := List.mem_filter.mpr ⟨List.mem_append_right _ (List.mem_append_right _ (List.mem_append_left _ (List.mem_of_getElem? (i := 19) rfl))), rfl⟩
theorem tb_261 : (Jvm.Cond.instanceMethod ({ cls := "StepHeap", name := "intCell", desc := "(III)I" } : Jvm.MethodName)) ∈ bt := List.mem_filter.mpr ⟨List.mem_append_right _ (List.mem_append_right _ (List.mem_append_left _ (List.mem_of_getElem? (i := 21) rfl))), rfl⟩
theorem tb_262 : (Jvm.Cond.code ({ cls := "StepHeap", name := "intCell", desc := "(III)I" } : Jvm.MethodName) prog_1_method_24_code (4 : Nat) (Option.some Jvm.ClassFile.FieldType.int)) ∈ bt := List.mem_filter.mpr ⟨List.mem_append_right _ (List.mem_append_right _ (List.mem_append_left _ (List.mem_of_getElem? (i := 22) rfl))), rfl⟩
theorem tb_263 : (Jvm.Cond.methodLink "StepHeapLaw" (45 : Nat) ({ cls := "StepHeap", name := "set", desc := "(III)Z" } : Jvm.MethodName)) ∈ bt := List.mem_filter.mpr ⟨List.mem_append_right _ (List.mem_append_right _ (List.mem_append_left _ (List.mem_of_getElem? (i := 23) rfl))), rfl⟩
theorem tb_264 : (Jvm.Cond.instanceMethod ({ cls := "StepHeap", name := "set", desc := "(III)Z" } : Jvm.MethodName)) ∈ bt := List.mem_filter.mpr ⟨List.mem_append_right _ (List.mem_append_right _ (List.mem_append_left _ (List.mem_of_getElem? (i := 24) rfl))), rfl⟩
theorem tb_265 : (Jvm.Cond.selects "StepHeap" ({ cls := "StepHeap", name := "set", desc := "(III)Z" } : Jvm.MethodName) ({ cls := "StepHeap", name := "set", desc := "(III)Z" } : Jvm.MethodName)) ∈ bt := List.mem_filter.mpr ⟨List.mem_append_right _ (List.mem_append_right _ (List.mem_append_left _ (List.mem_of_getElem? (i := 25) rfl))), rfl⟩
theorem tb_266 : (Jvm.Cond.code ({ cls := "StepHeap", name := "set", desc := "(III)Z" } : Jvm.MethodName) prog_1_method_7_code (5 : Nat) (Option.some Jvm.ClassFile.FieldType.boolean)) ∈ bt := List.mem_filter.mpr ⟨List.mem_append_right _ (List.mem_append_right _ (List.mem_append_left _ (List.mem_of_getElem? (i := 26) rfl))), rfl⟩
theorem tb_267 : (Jvm.Cond.methodLink "StepHeap" (95 : Nat) ({ cls := "StepHeap$Cells", name := "write", desc := "(II)V" } : Jvm.MethodName)) ∈ bt := List.mem_filter.mpr ⟨List.mem_append_right _ (List.mem_append_right _ (List.mem_append_left _ (List.mem_of_getElem? (i := 27) rfl))), rfl⟩
theorem tb_268 : (Jvm.Cond.methodLink "StepHeapLaw" (49 : Nat) ({ cls := "StepHeap", name := "getItem", desc := "(III)Z" } : Jvm.MethodName)) ∈ bt := List.mem_filter.mpr ⟨List.mem_append_right _ (List.mem_append_right _ (List.mem_append_left _ (List.mem_of_getElem? (i := 28) rfl))), rfl⟩
theorem tb_269 : (Jvm.Cond.instanceMethod ({ cls := "StepHeap", name := "getItem", desc := "(III)Z" } : Jvm.MethodName)) ∈ bt := List.mem_filter.mpr ⟨List.mem_append_right _ (List.mem_append_right _ (List.mem_append_left _ (List.mem_of_getElem? (i := 29) rfl))), rfl⟩
theorem tb_270 : (Jvm.Cond.selects "StepHeap" ({ cls := "StepHeap", name := "getItem", desc := "(III)Z" } : Jvm.MethodName) ({ cls := "StepHeap", name := "getItem", desc := "(III)Z" } : Jvm.MethodName)) ∈ bt := List.mem_filter.mpr ⟨List.mem_append_right _ (List.mem_append_right _ (List.mem_append_left _ (List.mem_of_getElem? (i := 30) rfl))), rfl⟩
theorem tb_271 : (Jvm.Cond.code ({ cls := "StepHeap", name := "getItem", desc := "(III)Z" } : Jvm.MethodName) prog_1_method_8_code (6 : Nat) (Option.some Jvm.ClassFile.FieldType.boolean)) ∈ bt := List.mem_filter.mpr ⟨List.mem_append_right _ (List.mem_append_right _ (List.mem_append_left _ (List.mem_of_getElem? (i := 31) rfl))), rfl⟩
theorem tb_272 : (Jvm.Cond.methodLink "StepHeap" (98 : Nat) ({ cls := "StepHeap$Head", name := "items", desc := "(IZ)I" } : Jvm.MethodName)) ∈ bt := List.mem_filter.mpr ⟨List.mem_append_right _ (List.mem_append_right _ (List.mem_append_left _ (List.mem_of_getElem? (i := 32) rfl))), rfl⟩
theorem tb_273 : (Jvm.Cond.static ({ cls := "StepHeap$Head", name := "items", desc := "(IZ)I" } : Jvm.MethodName)) ∈ bt := List.mem_filter.mpr ⟨List.mem_append_right _ (List.mem_append_right _ (List.mem_append_left _ (List.mem_of_getElem? (i := 33) rfl))), rfl⟩
theorem tb_274 : (Jvm.Cond.code ({ cls := "StepHeap$Head", name := "items", desc := "(IZ)I" } : Jvm.MethodName) prog_3_method_13_code (2 : Nat) (Option.some Jvm.ClassFile.FieldType.int)) ∈ bt := List.mem_filter.mpr ⟨List.mem_append_right _ (List.mem_append_right _ (List.mem_append_left _ (List.mem_of_getElem? (i := 34) rfl))), rfl⟩
theorem tb_275 : (Jvm.Cond.methodLink "StepHeap$Head" (30 : Nat) ({ cls := "StepHeap$Head", name := "hasReferenceItems", desc := "(I)Z" } : Jvm.MethodName)) ∈ bt := List.mem_filter.mpr ⟨List.mem_append_right _ (List.mem_append_right _ (List.mem_append_left _ (List.mem_of_getElem? (i := 35) rfl))), rfl⟩
theorem tb_276 : (Jvm.Cond.static ({ cls := "StepHeap$Head", name := "hasReferenceItems", desc := "(I)Z" } : Jvm.MethodName)) ∈ bt := List.mem_filter.mpr ⟨List.mem_append_right _ (List.mem_append_right _ (List.mem_append_left _ (List.mem_of_getElem? (i := 36) rfl))), rfl⟩
theorem tb_277 : (Jvm.Cond.code ({ cls := "StepHeap$Head", name := "hasReferenceItems", desc := "(I)Z" } : Jvm.MethodName) prog_3_method_9_code (1 : Nat) (Option.some Jvm.ClassFile.FieldType.boolean)) ∈ bt := List.mem_filter.mpr ⟨List.mem_append_right _ (List.mem_append_right _ (List.mem_append_left _ (List.mem_of_getElem? (i := 37) rfl))), rfl⟩
theorem tb_278 : (Jvm.Cond.methodLink "StepHeap$Head" (33 : Nat) ({ cls := "StepHeap$Head", name := "length", desc := "(I)I" } : Jvm.MethodName)) ∈ bt := List.mem_filter.mpr ⟨List.mem_append_right _ (List.mem_append_right _ (List.mem_append_left _ (List.mem_of_getElem? (i := 38) rfl))), rfl⟩
theorem tb_279 : (Jvm.Cond.static ({ cls := "StepHeap$Head", name := "length", desc := "(I)I" } : Jvm.MethodName)) ∈ bt := List.mem_filter.mpr ⟨List.mem_append_right _ (List.mem_append_right _ (List.mem_append_left _ (List.mem_of_getElem? (i := 39) rfl))), rfl⟩
theorem tb_280 : (Jvm.Cond.code ({ cls := "StepHeap$Head", name := "length", desc := "(I)I" } : Jvm.MethodName) prog_3_method_12_code (1 : Nat) (Option.some Jvm.ClassFile.FieldType.int)) ∈ bt := List.mem_filter.mpr ⟨List.mem_append_right _ (List.mem_append_right _ (List.mem_append_left _ (List.mem_of_getElem? (i := 40) rfl))), rfl⟩
theorem tb_281 : (Jvm.Cond.methodLink "StepHeap" (101 : Nat) ({ cls := "StepHeap", name := "levelOfGap", desc := "(III)I" } : Jvm.MethodName)) ∈ bt := List.mem_filter.mpr ⟨List.mem_append_right _ (List.mem_append_right _ (List.mem_append_left _ (List.mem_of_getElem? (i := 41) rfl))), rfl⟩
theorem tb_283 : (Jvm.Cond.instanceMethod ({ cls := "StepHeap", name := "levelOfGap", desc := "(III)I" } : Jvm.MethodName)) ∈ bt := List.mem_filter.mpr ⟨List.mem_append_right _ (List.mem_append_right _ (List.mem_append_left _ (List.mem_of_getElem? (i := 43) rfl))), rfl⟩
theorem tb_284 : (Jvm.Cond.code ({ cls := "StepHeap", name := "levelOfGap", desc := "(III)I" } : Jvm.MethodName) prog_1_method_26_code (6 : Nat) (Option.some Jvm.ClassFile.FieldType.int)) ∈ bt := List.mem_filter.mpr ⟨List.mem_append_right _ (List.mem_append_right _ (List.mem_append_left _ (List.mem_of_getElem? (i := 44) rfl))), rfl⟩
theorem tb_285 : (Jvm.Cond.methodLink "StepHeap" (157 : Nat) ({ cls := "StepHeap$Head", name := "height", desc := "(I)I" } : Jvm.MethodName)) ∈ bt := List.mem_filter.mpr ⟨List.mem_append_right _ (List.mem_append_right _ (List.mem_append_left _ (List.mem_of_getElem? (i := 45) rfl))), rfl⟩
theorem tb_286 : (Jvm.Cond.static ({ cls := "StepHeap$Head", name := "height", desc := "(I)I" } : Jvm.MethodName)) ∈ bt := List.mem_filter.mpr ⟨List.mem_append_right _ (List.mem_append_right _ (List.mem_append_left _ (List.mem_of_getElem? (i := 46) rfl))), rfl⟩
theorem tb_287 : (Jvm.Cond.code ({ cls := "StepHeap$Head", name := "height", desc := "(I)I" } : Jvm.MethodName) prog_3_method_14_code (2 : Nat) (Option.some Jvm.ClassFile.FieldType.int)) ∈ bt := List.mem_filter.mpr ⟨List.mem_append_right _ (List.mem_append_right _ (List.mem_append_left _ (List.mem_of_getElem? (i := 47) rfl))), rfl⟩
theorem tb_288 : (Jvm.Cond.methodLink "StepHeap" (160 : Nat) ({ cls := "StepHeap", name := "slot", desc := "(II)I" } : Jvm.MethodName)) ∈ bt := List.mem_filter.mpr ⟨List.mem_append_right _ (List.mem_append_right _ (List.mem_append_left _ (List.mem_of_getElem? (i := 48) rfl))), rfl⟩
theorem tb_289 : (Jvm.Cond.static ({ cls := "StepHeap", name := "slot", desc := "(II)I" } : Jvm.MethodName)) ∈ bt := List.mem_filter.mpr ⟨List.mem_append_right _ (List.mem_append_right _ (List.mem_append_left _ (List.mem_of_getElem? (i := 49) rfl))), rfl⟩
theorem tb_290 : (Jvm.Cond.code ({ cls := "StepHeap", name := "slot", desc := "(II)I" } : Jvm.MethodName) prog_1_method_28_code (3 : Nat) (Option.some Jvm.ClassFile.FieldType.int)) ∈ bt := List.mem_filter.mpr ⟨List.mem_append_right _ (List.mem_append_right _ (List.mem_append_left _ (List.mem_of_getElem? (i := 50) rfl))), rfl⟩
theorem tb_291 : (Jvm.Cond.methodLink "StepHeap" (104 : Nat) ({ cls := "StepHeap", name := "cellOnWay", desc := "(IIII)I" } : Jvm.MethodName)) ∈ bt := List.mem_filter.mpr ⟨List.mem_append_right _ (List.mem_append_right _ (List.mem_append_left _ (List.mem_of_getElem? (i := 51) rfl))), rfl⟩
theorem tb_293 : (Jvm.Cond.instanceMethod ({ cls := "StepHeap", name := "cellOnWay", desc := "(IIII)I" } : Jvm.MethodName)) ∈ bt := List.mem_filter.mpr ⟨List.mem_append_right _ (List.mem_append_right _ (List.mem_append_left _ (List.mem_of_getElem? (i := 53) rfl))), rfl⟩
theorem tb_294 : (Jvm.Cond.code ({ cls := "StepHeap", name := "cellOnWay", desc := "(IIII)I" } : Jvm.MethodName) prog_1_method_27_code (7 : Nat) (Option.some Jvm.ClassFile.FieldType.int)) ∈ bt := List.mem_filter.mpr ⟨List.mem_append_right _ (List.mem_append_right _ (List.mem_append_left _ (List.mem_of_getElem? (i := 54) rfl))), rfl⟩
theorem tb_295 : (Jvm.Cond.methodLink "StepHeapLaw" (53 : Nat) ({ cls := "StepHeap", name := "putItem", desc := "(III)I" } : Jvm.MethodName)) ∈ bt := List.mem_filter.mpr ⟨List.mem_append_right _ (List.mem_append_right _ (List.mem_append_left _ (List.mem_of_getElem? (i := 55) rfl))), rfl⟩
theorem tb_296 : (Jvm.Cond.instanceMethod ({ cls := "StepHeap", name := "putItem", desc := "(III)I" } : Jvm.MethodName)) ∈ bt := List.mem_filter.mpr ⟨List.mem_append_right _ (List.mem_append_right _ (List.mem_append_left _ (List.mem_of_getElem? (i := 56) rfl))), rfl⟩
theorem tb_297 : (Jvm.Cond.selects "StepHeap" ({ cls := "StepHeap", name := "putItem", desc := "(III)I" } : Jvm.MethodName) ({ cls := "StepHeap", name := "putItem", desc := "(III)I" } : Jvm.MethodName)) ∈ bt := List.mem_filter.mpr ⟨List.mem_append_right _ (List.mem_append_right _ (List.mem_append_left _ (List.mem_of_getElem? (i := 57) rfl))), rfl⟩
theorem tb_298 : (Jvm.Cond.code ({ cls := "StepHeap", name := "putItem", desc := "(III)I" } : Jvm.MethodName) prog_1_method_9_code (6 : Nat) (Option.some Jvm.ClassFile.FieldType.int)) ∈ bt := List.mem_filter.mpr ⟨List.mem_append_right _ (List.mem_append_right _ (List.mem_append_left _ (List.mem_of_getElem? (i := 58) rfl))), rfl⟩
theorem tb_299 : (Jvm.Cond.methodLink "StepHeap" (108 : Nat) ({ cls := "StepHeap", name := "openWay", desc := "(III)I" } : Jvm.MethodName)) ∈ bt := List.mem_filter.mpr ⟨List.mem_append_right _ (List.mem_append_right _ (List.mem_append_left _ (List.mem_of_getElem? (i := 59) rfl))), rfl⟩
theorem tb_301 : (Jvm.Cond.instanceMethod ({ cls := "StepHeap", name := "openWay", desc := "(III)I" } : Jvm.MethodName)) ∈ bt := List.mem_filter.mpr ⟨List.mem_append_right _ (List.mem_append_right _ (List.mem_append_left _ (List.mem_of_getElem? (i := 61) rfl))), rfl⟩
theorem tb_302 : (Jvm.Cond.code ({ cls := "StepHeap", name := "openWay", desc := "(III)I" } : Jvm.MethodName) prog_1_method_25_code (6 : Nat) (Option.some Jvm.ClassFile.FieldType.int)) ∈ bt := List.mem_filter.mpr ⟨List.mem_append_right _ (List.mem_append_right _ (List.mem_append_left _ (List.mem_of_getElem? (i := 62) rfl))), rfl⟩
theorem tb_303 : (Jvm.Cond.methodLink "StepHeap" (150 : Nat) ({ cls := "StepHeap$Head", name := "hasReferenceItems", desc := "(I)Z" } : Jvm.MethodName)) ∈ bt := List.mem_filter.mpr ⟨List.mem_append_right _ (List.mem_append_right _ (List.mem_append_left _ (List.mem_of_getElem? (i := 63) rfl))), rfl⟩
theorem tb_304 : (Jvm.Cond.methodLink "StepHeap" (153 : Nat) ({ cls := "StepHeap$Head", name := "ofNode", desc := "(Z)I" } : Jvm.MethodName)) ∈ bt := List.mem_filter.mpr ⟨List.mem_append_right _ (List.mem_append_right _ (List.mem_append_left _ (List.mem_of_getElem? (i := 64) rfl))), rfl⟩
theorem tb_305 : (Jvm.Cond.methodLink "StepHeapLaw" (57 : Nat) ({ cls := "StepHeap", name := "lookItem", desc := "(II)J" } : Jvm.MethodName)) ∈ bt := List.mem_filter.mpr ⟨List.mem_append_right _ (List.mem_append_right _ (List.mem_append_left _ (List.mem_of_getElem? (i := 65) rfl))), rfl⟩
theorem tb_306 : (Jvm.Cond.instanceMethod ({ cls := "StepHeap", name := "lookItem", desc := "(II)J" } : Jvm.MethodName)) ∈ bt := List.mem_filter.mpr ⟨List.mem_append_right _ (List.mem_append_right _ (List.mem_append_left _ (List.mem_of_getElem? (i := 66) rfl))), rfl⟩
theorem tb_307 : (Jvm.Cond.selects "StepHeap" ({ cls := "StepHeap", name := "lookItem", desc := "(II)J" } : Jvm.MethodName) ({ cls := "StepHeap", name := "lookItem", desc := "(II)J" } : Jvm.MethodName)) ∈ bt := List.mem_filter.mpr ⟨List.mem_append_right _ (List.mem_append_right _ (List.mem_append_left _ (List.mem_of_getElem? (i := 67) rfl))), rfl⟩
theorem tb_308 : (Jvm.Cond.code ({ cls := "StepHeap", name := "lookItem", desc := "(II)J" } : Jvm.MethodName) prog_1_method_10_code (5 : Nat) (Option.some Jvm.ClassFile.FieldType.long)) ∈ bt := List.mem_filter.mpr ⟨List.mem_append_right _ (List.mem_append_right _ (List.mem_append_left _ (List.mem_of_getElem? (i := 68) rfl))), rfl⟩
theorem tb_309 : (Jvm.Cond.methodLink "StepHeapLaw" (61 : Nat) ({ cls := "StepHeap", name := "setItem", desc := "(III)I" } : Jvm.MethodName)) ∈ bt := List.mem_filter.mpr ⟨List.mem_append_right _ (List.mem_append_right _ (List.mem_append_left _ (List.mem_of_getElem? (i := 69) rfl))), rfl⟩
theorem tb_310 : (Jvm.Cond.instanceMethod ({ cls := "StepHeap", name := "setItem", desc := "(III)I" } : Jvm.MethodName)) ∈ bt := List.mem_filter.mpr ⟨List.mem_append_right _ (List.mem_append_right _ (List.mem_append_left _ (List.mem_of_getElem? (i := 70) rfl))), rfl⟩
theorem tb_311 : (Jvm.Cond.selects "StepHeap" ({ cls := "StepHeap", name := "setItem", desc := "(III)I" } : Jvm.MethodName) ({ cls := "StepHeap", name := "setItem", desc := "(III)I" } : Jvm.MethodName)) ∈ bt := List.mem_filter.mpr ⟨List.mem_append_right _ (List.mem_append_right _ (List.mem_append_left _ (List.mem_of_getElem? (i := 71) rfl))), rfl⟩
theorem tb_312 : (Jvm.Cond.code ({ cls := "StepHeap", name := "setItem", desc := "(III)I" } : Jvm.MethodName) prog_1_method_11_code (6 : Nat) (Option.some Jvm.ClassFile.FieldType.int)) ∈ bt := List.mem_filter.mpr ⟨List.mem_append_right _ (List.mem_append_right _ (List.mem_append_left _ (List.mem_of_getElem? (i := 72) rfl))), rfl⟩
theorem tb_313 : (Jvm.Cond.methodLink "StepHeapLaw" (65 : Nat) ({ cls := "StepHeap", name := "copy", desc := "(II)Z" } : Jvm.MethodName)) ∈ bt := List.mem_filter.mpr ⟨List.mem_append_right _ (List.mem_append_right _ (List.mem_append_left _ (List.mem_of_getElem? (i := 73) rfl))), rfl⟩
theorem tb_314 : (Jvm.Cond.instanceMethod ({ cls := "StepHeap", name := "copy", desc := "(II)Z" } : Jvm.MethodName)) ∈ bt := List.mem_filter.mpr ⟨List.mem_append_right _ (List.mem_append_right _ (List.mem_append_left _ (List.mem_of_getElem? (i := 74) rfl))), rfl⟩
theorem tb_315 : (Jvm.Cond.selects "StepHeap" ({ cls := "StepHeap", name := "copy", desc := "(II)Z" } : Jvm.MethodName) ({ cls := "StepHeap", name := "copy", desc := "(II)Z" } : Jvm.MethodName)) ∈ bt := List.mem_filter.mpr ⟨List.mem_append_right _ (List.mem_append_right _ (List.mem_append_left _ (List.mem_of_getElem? (i := 75) rfl))), rfl⟩
theorem tb_316 : (Jvm.Cond.code ({ cls := "StepHeap", name := "copy", desc := "(II)Z" } : Jvm.MethodName) prog_1_method_12_code (3 : Nat) (Option.some Jvm.ClassFile.FieldType.boolean)) ∈ bt := List.mem_filter.mpr ⟨List.mem_append_right _ (List.mem_append_right _ (List.mem_append_left _ (List.mem_of_getElem? (i := 76) rfl))), rfl⟩
theorem tb_317 : (Jvm.Cond.methodLink "StepHeapLaw" (70 : Nat) ({ cls := "StepHeap", name := "drop", desc := "(I)Z" } : Jvm.MethodName)) ∈ bt := List.mem_filter.mpr ⟨List.mem_append_right _ (List.mem_append_right _ (List.mem_append_left _ (List.mem_of_getElem? (i := 77) rfl))), rfl⟩
theorem tb_318 : (Jvm.Cond.instanceMethod ({ cls := "StepHeap", name := "drop", desc := "(I)Z" } : Jvm.MethodName)) ∈ bt := List.mem_filter.mpr ⟨List.mem_append_right _ (List.mem_append_right _ (List.mem_append_left _ (List.mem_of_getElem? (i := 78) rfl))), rfl⟩
theorem tb_319 : (Jvm.Cond.selects "StepHeap" ({ cls := "StepHeap", name := "drop", desc := "(I)Z" } : Jvm.MethodName) ({ cls := "StepHeap", name := "drop", desc := "(I)Z" } : Jvm.MethodName)) ∈ bt := List.mem_filter.mpr ⟨List.mem_append_right _ (List.mem_append_right _ (List.mem_append_left _ (List.mem_of_getElem? (i := 79) rfl))), rfl⟩
theorem tb_320 : (Jvm.Cond.code ({ cls := "StepHeap", name := "drop", desc := "(I)Z" } : Jvm.MethodName) prog_1_method_13_code (3 : Nat) (Option.some Jvm.ClassFile.FieldType.boolean)) ∈ bt := List.mem_filter.mpr ⟨List.mem_append_right _ (List.mem_append_right _ (List.mem_append_left _ (List.mem_of_getElem? (i := 80) rfl))), rfl⟩
theorem tb_321 : (Jvm.Cond.methodLink "StepHeapLaw" (75 : Nat) ({ cls := "StepHeap", name := "same", desc := "(II)Z" } : Jvm.MethodName)) ∈ bt := List.mem_filter.mpr ⟨List.mem_append_right _ (List.mem_append_right _ (List.mem_append_left _ (List.mem_of_getElem? (i := 81) rfl))), rfl⟩
theorem tb_322 : (Jvm.Cond.instanceMethod ({ cls := "StepHeap", name := "same", desc := "(II)Z" } : Jvm.MethodName)) ∈ bt := List.mem_filter.mpr ⟨List.mem_append_right _ (List.mem_append_right _ (List.mem_append_left _ (List.mem_of_getElem? (i := 82) rfl))), rfl⟩
theorem tb_323 : (Jvm.Cond.selects "StepHeap" ({ cls := "StepHeap", name := "same", desc := "(II)Z" } : Jvm.MethodName) ({ cls := "StepHeap", name := "same", desc := "(II)Z" } : Jvm.MethodName)) ∈ bt := List.mem_filter.mpr ⟨List.mem_append_right _ (List.mem_append_right _ (List.mem_append_left _ (List.mem_of_getElem? (i := 83) rfl))), rfl⟩
theorem tb_324 : (Jvm.Cond.code ({ cls := "StepHeap", name := "same", desc := "(II)Z" } : Jvm.MethodName) prog_1_method_14_code (3 : Nat) (Option.some Jvm.ClassFile.FieldType.boolean)) ∈ bt := List.mem_filter.mpr ⟨List.mem_append_right _ (List.mem_append_right _ (List.mem_append_left _ (List.mem_of_getElem? (i := 84) rfl))), rfl⟩
theorem tb_325 : (Jvm.Cond.methodLink "StepHeapLaw" (79 : Nat) ({ cls := "StepHeap", name := "size", desc := "(II)I" } : Jvm.MethodName)) ∈ bt := List.mem_filter.mpr ⟨List.mem_append_right _ (List.mem_append_right _ (List.mem_append_left _ (List.mem_of_getElem? (i := 85) rfl))), rfl⟩
theorem tb_326 : (Jvm.Cond.instanceMethod ({ cls := "StepHeap", name := "size", desc := "(II)I" } : Jvm.MethodName)) ∈ bt := List.mem_filter.mpr ⟨List.mem_append_right _ (List.mem_append_right _ (List.mem_append_left _ (List.mem_of_getElem? (i := 86) rfl))), rfl⟩
theorem tb_327 : (Jvm.Cond.selects "StepHeap" ({ cls := "StepHeap", name := "size", desc := "(II)I" } : Jvm.MethodName) ({ cls := "StepHeap", name := "size", desc := "(II)I" } : Jvm.MethodName)) ∈ bt := List.mem_filter.mpr ⟨List.mem_append_right _ (List.mem_append_right _ (List.mem_append_left _ (List.mem_of_getElem? (i := 87) rfl))), rfl⟩
theorem tb_328 : (Jvm.Cond.code ({ cls := "StepHeap", name := "size", desc := "(II)I" } : Jvm.MethodName) prog_1_method_15_code (5 : Nat) (Option.some Jvm.ClassFile.FieldType.int)) ∈ bt := List.mem_filter.mpr ⟨List.mem_append_right _ (List.mem_append_right _ (List.mem_append_left _ (List.mem_of_getElem? (i := 88) rfl))), rfl⟩
theorem tb_329 : (Jvm.Cond.methodLink "StepHeap" (111 : Nat) ({ cls := "StepHeap$Head", name := "isArray", desc := "(I)Z" } : Jvm.MethodName)) ∈ bt := List.mem_filter.mpr ⟨List.mem_append_right _ (List.mem_append_right _ (List.mem_append_left _ (List.mem_of_getElem? (i := 89) rfl))), rfl⟩
theorem tb_330 : (Jvm.Cond.methodLink "StepHeap" (114 : Nat) ({ cls := "StepHeap$Head", name := "length", desc := "(I)I" } : Jvm.MethodName)) ∈ bt := List.mem_filter.mpr ⟨List.mem_append_right _ (List.mem_append_right _ (List.mem_append_left _ (List.mem_of_getElem? (i := 90) rfl))), rfl⟩
theorem tb_331 : (Jvm.Cond.methodLink "StepHeapLaw" (84 : Nat) ({ cls := "StepHeap", name := "told", desc := "(I)I" } : Jvm.MethodName)) ∈ bt := List.mem_filter.mpr ⟨List.mem_append_right _ (List.mem_append_right _ (List.mem_append_left _ (List.mem_of_getElem? (i := 91) rfl))), rfl⟩
theorem tb_332 : (Jvm.Cond.instanceMethod ({ cls := "StepHeap", name := "told", desc := "(I)I" } : Jvm.MethodName)) ∈ bt := List.mem_filter.mpr ⟨List.mem_append_right _ (List.mem_append_right _ (List.mem_append_left _ (List.mem_of_getElem? (i := 92) rfl))), rfl⟩
theorem tb_333 : (Jvm.Cond.selects "StepHeap" ({ cls := "StepHeap", name := "told", desc := "(I)I" } : Jvm.MethodName) ({ cls := "StepHeap", name := "told", desc := "(I)I" } : Jvm.MethodName)) ∈ bt := List.mem_filter.mpr ⟨List.mem_append_right _ (List.mem_append_right _ (List.mem_append_left _ (List.mem_of_getElem? (i := 93) rfl))), rfl⟩
theorem tb_334 : (Jvm.Cond.code ({ cls := "StepHeap", name := "told", desc := "(I)I" } : Jvm.MethodName) prog_1_method_16_code (2 : Nat) (Option.some Jvm.ClassFile.FieldType.int)) ∈ bt := List.mem_filter.mpr ⟨List.mem_append_right _ (List.mem_append_right _ (List.mem_append_left _ (List.mem_of_getElem? (i := 94) rfl))), rfl⟩
theorem tb_335 : (Jvm.Cond.methodLink "StepHeap" (123 : Nat) ({ cls := "StepHeap$Mover", name := "isDone", desc := "()Z" } : Jvm.MethodName)) ∈ bt := List.mem_filter.mpr ⟨List.mem_append_right _ (List.mem_append_right _ (List.mem_append_left _ (List.mem_of_getElem? (i := 95) rfl))), rfl⟩
theorem tb_336 : (Jvm.Cond.methodLink "StepHeap" (127 : Nat) ({ cls := "StepHeap$Mover", name := "moved", desc := "()I" } : Jvm.MethodName)) ∈ bt := List.mem_filter.mpr ⟨List.mem_append_right _ (List.mem_append_right _ (List.mem_append_left _ (List.mem_of_getElem? (i := 96) rfl))), rfl⟩
theorem tb_337 : (Jvm.Cond.methodLink "StepHeapLaw" (89 : Nat) ({ cls := "StepHeap", name := "steady", desc := "()Z" } : Jvm.MethodName)) ∈ bt := List.mem_filter.mpr ⟨List.mem_append_right _ (List.mem_append_right _ (List.mem_append_left _ (List.mem_of_getElem? (i := 97) rfl))), rfl⟩
theorem tb_338 : (Jvm.Cond.instanceMethod ({ cls := "StepHeap", name := "steady", desc := "()Z" } : Jvm.MethodName)) ∈ bt := List.mem_filter.mpr ⟨List.mem_append_right _ (List.mem_append_right _ (List.mem_append_left _ (List.mem_of_getElem? (i := 98) rfl))), rfl⟩
theorem tb_339 : (Jvm.Cond.selects "StepHeap" ({ cls := "StepHeap", name := "steady", desc := "()Z" } : Jvm.MethodName) ({ cls := "StepHeap", name := "steady", desc := "()Z" } : Jvm.MethodName)) ∈ bt := List.mem_filter.mpr ⟨List.mem_append_right _ (List.mem_append_right _ (List.mem_append_left _ (List.mem_of_getElem? (i := 99) rfl))), rfl⟩
theorem tb_340 : (Jvm.Cond.code ({ cls := "StepHeap", name := "steady", desc := "()Z" } : Jvm.MethodName) prog_1_method_17_code (1 : Nat) (Option.some Jvm.ClassFile.FieldType.boolean)) ∈ bt := List.mem_filter.mpr ⟨List.mem_append_right _ (List.mem_append_right _ (List.mem_append_left _ (List.mem_of_getElem? (i := 100) rfl))), rfl⟩
theorem tb_341 : (Jvm.Cond.methodLink "StepHeapLaw" (9 : Nat) ({ cls := "StepHeapLaw", name := "cell", desc := "([II)I" } : Jvm.MethodName)) ∈ bt := List.mem_filter.mpr ⟨List.mem_append_right _ (List.mem_append_right _ (List.mem_append_left _ (List.mem_of_getElem? (i := 101) rfl))), rfl⟩
theorem tb_342 : (Jvm.Cond.static ({ cls := "StepHeapLaw", name := "cell", desc := "([II)I" } : Jvm.MethodName)) ∈ bt := List.mem_filter.mpr ⟨List.mem_append_right _ (List.mem_append_right _ (List.mem_append_left _ (List.mem_of_getElem? (i := 102) rfl))), rfl⟩
theorem tb_343 : (Jvm.Cond.code ({ cls := "StepHeapLaw", name := "cell", desc := "([II)I" } : Jvm.MethodName) method_2_code (2 : Nat) (Option.some Jvm.ClassFile.FieldType.int)) ∈ bt := List.mem_filter.mpr ⟨List.mem_append_right _ (List.mem_append_right _ (List.mem_append_left _ (List.mem_of_getElem? (i := 103) rfl))), rfl⟩
theorem tb_344 : (Jvm.Cond.classLink "StepHeapLaw" (18 : Nat) "StepHeapModel") ∈ bt := List.mem_filter.mpr ⟨List.mem_append_right _ (List.mem_append_right _ (List.mem_append_left _ (List.mem_of_getElem? (i := 104) rfl))), rfl⟩
theorem tb_345 : (Jvm.Cond.instantiable "StepHeapModel" (20 : Nat)) ∈ bt := List.mem_filter.mpr ⟨List.mem_append_right _ (List.mem_append_right _ (List.mem_append_left _ (List.mem_of_getElem? (i := 105) rfl))), rfl⟩
theorem tb_346 : (Jvm.Cond.methodLink "StepHeapLaw" (20 : Nat) ({ cls := "StepHeapModel", name := "<init>", desc := "(II)V" } : Jvm.MethodName)) ∈ bt := List.mem_filter.mpr ⟨List.mem_append_right _ (List.mem_append_right _ (List.mem_append_left _ (List.mem_of_getElem? (i := 106) rfl))), rfl⟩
theorem tb_347 : (Jvm.Cond.instanceMethod ({ cls := "StepHeapModel", name := "<init>", desc := "(II)V" } : Jvm.MethodName)) ∈ bt := List.mem_filter.mpr ⟨List.mem_append_right _ (List.mem_append_right _ (List.mem_append_left _ (List.mem_of_getElem? (i := 107) rfl))), rfl⟩
theorem tb_348 : (Jvm.Cond.code ({ cls := "StepHeapModel", name := "<init>", desc := "(II)V" } : Jvm.MethodName) prog_7_method_1_code (4 : Nat) (Option.none : Option Jvm.ClassFile.FieldType)) ∈ bt := List.mem_filter.mpr ⟨List.mem_append_right _ (List.mem_append_right _ (List.mem_append_left _ (List.mem_of_getElem? (i := 108) rfl))), rfl⟩
theorem tb_349 : (Jvm.Cond.methodLink "StepHeapModel" (1 : Nat) ({ cls := "java/lang/Object", name := "<init>", desc := "()V" } : Jvm.MethodName)) ∈ bt := List.mem_filter.mpr ⟨List.mem_append_right _ (List.mem_append_right _ (List.mem_append_left _ (List.mem_of_getElem? (i := 109) rfl))), rfl⟩
theorem tb_350 : (Jvm.Cond.constant "StepHeapModel" (9 : Nat) (120064 : Int32)) ∈ bt := List.mem_filter.mpr ⟨List.mem_append_right _ (List.mem_append_right _ (List.mem_append_left _ (List.mem_of_getElem? (i := 110) rfl))), rfl⟩
theorem tb_351 : (Jvm.Cond.constant "StepHeapModel" (28 : Nat) (1921024 : Int32)) ∈ bt := List.mem_filter.mpr ⟨List.mem_append_right _ (List.mem_append_right _ (List.mem_append_left _ (List.mem_of_getElem? (i := 111) rfl))), rfl⟩
theorem tb_352 : (Jvm.Cond.constant "StepHeapModel" (45 : Nat) (60000 : Int32)) ∈ bt := List.mem_filter.mpr ⟨List.mem_append_right _ (List.mem_append_right _ (List.mem_append_left _ (List.mem_of_getElem? (i := 112) rfl))), rfl⟩
theorem tb_353 : (Jvm.Cond.fieldLink "StepHeapModel" (46 : Nat) "StepHeapModel" "k" "I") ∈ bt := List.mem_filter.mpr ⟨List.mem_append_right _ (List.mem_append_right _ (List.mem_append_left _ (List.mem_of_getElem? (i := 113) rfl))), rfl⟩
theorem tb_354 : (Jvm.Cond.fieldLink "StepHeapModel" (50 : Nat) "StepHeapModel" "limit" "I") ∈ bt := List.mem_filter.mpr ⟨List.mem_append_right _ (List.mem_append_right _ (List.mem_append_left _ (List.mem_of_getElem? (i := 114) rfl))), rfl⟩
theorem tb_355 : (Jvm.Cond.fieldLink "StepHeapModel" (10 : Nat) "StepHeapModel" "kind" "[B") ∈ bt := List.mem_filter.mpr ⟨List.mem_append_right _ (List.mem_append_right _ (List.mem_append_left _ (List.mem_of_getElem? (i := 115) rfl))), rfl⟩
theorem tb_356 : (Jvm.Cond.fieldLink "StepHeapModel" (14 : Nat) "StepHeapModel" "refs" "[B") ∈ bt := List.mem_filter.mpr ⟨List.mem_append_right _ (List.mem_append_right _ (List.mem_append_left _ (List.mem_of_getElem? (i := 116) rfl))), rfl⟩
theorem tb_357 : (Jvm.Cond.fieldLink "StepHeapModel" (17 : Nat) "StepHeapModel" "ints" "[B") ∈ bt := List.mem_filter.mpr ⟨List.mem_append_right _ (List.mem_append_right _ (List.mem_append_left _ (List.mem_of_getElem? (i := 117) rfl))), rfl⟩
theorem tb_358 : (Jvm.Cond.fieldLink "StepHeapModel" (20 : Nat) "StepHeapModel" "length" "[S") ∈ bt := List.mem_filter.mpr ⟨List.mem_append_right _ (List.mem_append_right _ (List.mem_append_left _ (List.mem_of_getElem? (i := 118) rfl))), rfl⟩
theorem tb_359 : (Jvm.Cond.fieldLink "StepHeapModel" (24 : Nat) "StepHeapModel" "ofRefs" "[Z") ∈ bt := List.mem_filter.mpr ⟨List.mem_append_right _ (List.mem_append_right _ (List.mem_append_left _ (List.mem_of_getElem? (i := 119) rfl))), rfl⟩
theorem tb_360 : (Jvm.Cond.fieldLink "StepHeapModel" (29 : Nat) "StepHeapModel" "row" "[I") ∈ bt := List.mem_filter.mpr ⟨List.mem_append_right _ (List.mem_append_right _ (List.mem_append_left _ (List.mem_of_getElem? (i := 120) rfl))), rfl⟩
theorem tb_361 : (Jvm.Cond.fieldLink "StepHeapModel" (64 : Nat) "StepHeapModel" "objects" "I") ∈ bt := List.mem_filter.mpr ⟨List.mem_append_right _ (List.mem_append_right _ (List.mem_append_left _ (List.mem_of_getElem? (i := 121) rfl))), rfl⟩
theorem tb_362 : (Jvm.Cond.fieldLink "StepHeapModel" (33 : Nat) "StepHeapModel" "back" "[I") ∈ bt := List.mem_filter.mpr ⟨List.mem_append_right _ (List.mem_append_right _ (List.mem_append_left _ (List.mem_of_getElem? (i := 122) rfl))), rfl⟩
theorem tb_363 : (Jvm.Cond.fieldLink "StepHeapModel" (67 : Nat) "StepHeapModel" "given" "I") ∈ bt := List.mem_filter.mpr ⟨List.mem_append_right _ (List.mem_append_right _ (List.mem_append_left _ (List.mem_of_getElem? (i := 123) rfl))), rfl⟩
theorem tb_364 : (Jvm.Cond.fieldLink "StepHeapModel" (36 : Nat) "StepHeapModel" "register" "[I") ∈ bt := List.mem_filter.mpr ⟨List.mem_append_right _ (List.mem_append_right _ (List.mem_append_left _ (List.mem_of_getElem? (i := 124) rfl))), rfl⟩
theorem tb_365 : (Jvm.Cond.fieldLink "StepHeapModel" (81 : Nat) "StepHeapModel" "cycles" "I") ∈ bt := List.mem_filter.mpr ⟨List.mem_append_right _ (List.mem_append_right _ (List.mem_append_left _ (List.mem_of_getElem? (i := 125) rfl))), rfl⟩
theorem tb_366 : (Jvm.Cond.fieldLink "StepHeapModel" (74 : Nat) "StepHeapModel" "reached" "I") ∈ bt := List.mem_filter.mpr ⟨List.mem_append_right _ (List.mem_append_right _ (List.mem_append_left _ (List.mem_of_getElem? (i := 126) rfl))), rfl⟩
theorem tb_367 : (Jvm.Cond.fieldLink "StepHeapModel" (70 : Nat) "StepHeapModel" "made" "J") ∈ bt := List.mem_filter.mpr ⟨List.mem_append_right _ (List.mem_append_right _ (List.mem_append_left _ (List.mem_of_getElem? (i := 127) rfl))), rfl⟩
theorem tb_368 : (Jvm.Cond.fieldLink "StepHeapModel" (39 : Nat) "StepHeapModel" "mark" "[Z") ∈ bt := List.mem_filter.mpr ⟨List.mem_append_right _ (List.mem_append_right _ (List.mem_append_left _ (List.mem_of_getElem? (i := 128) rfl))), rfl⟩
theorem tb_369 : (Jvm.Cond.fieldLink "StepHeapModel" (42 : Nat) "StepHeapModel" "pile" "[I") ∈ bt := List.mem_filter.mpr ⟨List.mem_append_right _ (List.mem_append_right _ (List.mem_append_left _ (List.mem_of_getElem? (i := 129) rfl))), rfl⟩
theorem tb_370 : (Jvm.Cond.fieldLink "StepHeapModel" (53 : Nat) "StepHeapModel" "pushed" "I") ∈ bt := List.mem_filter.mpr ⟨List.mem_append_right _ (List.mem_append_right _ (List.mem_append_left _ (List.mem_of_getElem? (i := 130) rfl))), rfl⟩
theorem tb_371 : (Jvm.Cond.fieldLink "StepHeapModel" (110 : Nat) "StepHeapModel" "gap" "I") ∈ bt := List.mem_filter.mpr ⟨List.mem_append_right _ (List.mem_append_right _ (List.mem_append_left _ (List.mem_of_getElem? (i := 131) rfl))), rfl⟩
theorem tb_372 : (Jvm.Cond.fieldLink "StepHeapModel" (113 : Nat) "StepHeapModel" "gapIsLast" "Z") ∈ bt := List.mem_filter.mpr ⟨List.mem_append_right _ (List.mem_append_right _ (List.mem_append_left _ (List.mem_of_getElem? (i := 132) rfl))), rfl⟩
theorem tb_373 : (Jvm.Cond.laysFinal "StepHeapModel" "StepHeapModel" "k" "I") ∈ bt := List.mem_filter.mpr ⟨List.mem_append_right _ (List.mem_append_right _ (List.mem_append_left _ (List.mem_of_getElem? (i := 133) rfl))), rfl⟩
theorem tb_374 : (Jvm.Cond.soleField "StepHeapModel" "k") ∈ bt := List.mem_filter.mpr ⟨List.mem_append_right _ (List.mem_append_right _ (List.mem_append_left _ (List.mem_of_getElem? (i := 134) rfl))), rfl⟩
theorem tb_375 : (Jvm.Cond.laysFinal "StepHeapModel" "StepHeapModel" "limit" "I") ∈ bt := List.mem_filter.mpr ⟨List.mem_append_right _ (List.mem_append_right _ (List.mem_append_left _ (List.mem_of_getElem? (i := 135) rfl))), rfl⟩
theorem tb_376 : (Jvm.Cond.soleField "StepHeapModel" "limit") ∈ bt := List.mem_filter.mpr ⟨List.mem_append_right _ (List.mem_append_right _ (List.mem_append_left _ (List.mem_of_getElem? (i := 136) rfl))), rfl⟩
theorem tb_377 : (Jvm.Cond.laysFinal "StepHeapModel" "StepHeapModel" "kind" "[B") ∈ bt := List.mem_filter.mpr ⟨List.mem_append_right _ (List.mem_append_right _ (List.mem_append_left _ (List.mem_of_getElem? (i := 137) rfl))), rfl⟩
theorem tb_378 : (Jvm.Cond.soleField "StepHeapModel" "kind") ∈ bt := List.mem_filter.mpr ⟨List.mem_append_right _ (List.mem_append_right _ (List.mem_append_left _ (List.mem_of_getElem? (i := 138) rfl))), rfl⟩
theorem tb_379 : (Jvm.Cond.laysFinal "StepHeapModel" "StepHeapModel" "refs" "[B") ∈ bt := List.mem_filter.mpr ⟨List.mem_append_right _ (List.mem_append_right _ (List.mem_append_left _ (List.mem_of_getElem? (i := 139) rfl))), rfl⟩
theorem tb_380 : (Jvm.Cond.soleField "StepHeapModel" "refs") ∈ bt := List.mem_filter.mpr ⟨List.mem_append_right _ (List.mem_append_right _ (List.mem_append_left _ (List.mem_of_getElem? (i := 140) rfl))), rfl⟩
theorem tb_381 : (Jvm.Cond.laysFinal "StepHeapModel" "StepHeapModel" "ints" "[B") ∈ bt := List.mem_filter.mpr ⟨List.mem_append_right _ (List.mem_append_right _ (List.mem_append_left _ (List.mem_of_getElem? (i := 141) rfl))), rfl⟩
theorem tb_382 : (Jvm.Cond.soleField "StepHeapModel" "ints") ∈ bt := List.mem_filter.mpr ⟨List.mem_append_right _ (List.mem_append_right _ (List.mem_append_left _ (List.mem_of_getElem? (i := 142) rfl))), rfl⟩
theorem tb_383 : (Jvm.Cond.laysFinal "StepHeapModel" "StepHeapModel" "length" "[S") ∈ bt := List.mem_filter.mpr ⟨List.mem_append_right _ (List.mem_append_right _ (List.mem_append_left _ (List.mem_of_getElem? (i := 143) rfl))), rfl⟩
theorem tb_384 : (Jvm.Cond.soleField "StepHeapModel" "length") ∈ bt := List.mem_filter.mpr ⟨List.mem_append_right _ (List.mem_append_right _ (List.mem_append_left _ (List.mem_of_getElem? (i := 144) rfl))), rfl⟩
theorem tb_385 : (Jvm.Cond.laysFinal "StepHeapModel" "StepHeapModel" "ofRefs" "[Z") ∈ bt := List.mem_filter.mpr ⟨List.mem_append_right _ (List.mem_append_right _ (List.mem_append_left _ (List.mem_of_getElem? (i := 145) rfl))), rfl⟩
theorem tb_386 : (Jvm.Cond.soleField "StepHeapModel" "ofRefs") ∈ bt := List.mem_filter.mpr ⟨List.mem_append_right _ (List.mem_append_right _ (List.mem_append_left _ (List.mem_of_getElem? (i := 146) rfl))), rfl⟩
theorem tb_387 : (Jvm.Cond.laysFinal "StepHeapModel" "StepHeapModel" "row" "[I") ∈ bt := List.mem_filter.mpr ⟨List.mem_append_right _ (List.mem_append_right _ (List.mem_append_left _ (List.mem_of_getElem? (i := 147) rfl))), rfl⟩
theorem tb_388 : (Jvm.Cond.soleField "StepHeapModel" "row") ∈ bt := List.mem_filter.mpr ⟨List.mem_append_right _ (List.mem_append_right _ (List.mem_append_left _ (List.mem_of_getElem? (i := 148) rfl))), rfl⟩
theorem tb_389 : (Jvm.Cond.lays "StepHeapModel" "StepHeapModel" "objects" "I") ∈ bt := List.mem_filter.mpr ⟨List.mem_append_right _ (List.mem_append_right _ (List.mem_append_left _ (List.mem_of_getElem? (i := 149) rfl))), rfl⟩
theorem tb_390 : (Jvm.Cond.soleField "StepHeapModel" "objects") ∈ bt := List.mem_filter.mpr ⟨List.mem_append_right _ (List.mem_append_right _ (List.mem_append_left _ (List.mem_of_getElem? (i := 150) rfl))), rfl⟩
theorem tb_391 : (Jvm.Cond.laysFinal "StepHeapModel" "StepHeapModel" "back" "[I") ∈ bt := List.mem_filter.mpr ⟨List.mem_append_right _ (List.mem_append_right _ (List.mem_append_left _ (List.mem_of_getElem? (i := 151) rfl))), rfl⟩
theorem tb_392 : (Jvm.Cond.soleField "StepHeapModel" "back") ∈ bt := List.mem_filter.mpr ⟨List.mem_append_right _ (List.mem_append_right _ (List.mem_append_left _ (List.mem_of_getElem? (i := 152) rfl))), rfl⟩
theorem tb_393 : (Jvm.Cond.lays "StepHeapModel" "StepHeapModel" "given" "I") ∈ bt := List.mem_filter.mpr ⟨List.mem_append_right _ (List.mem_append_right _ (List.mem_append_left _ (List.mem_of_getElem? (i := 153) rfl))), rfl⟩
theorem tb_394 : (Jvm.Cond.soleField "StepHeapModel" "given") ∈ bt := List.mem_filter.mpr ⟨List.mem_append_right _ (List.mem_append_right _ (List.mem_append_left _ (List.mem_of_getElem? (i := 154) rfl))), rfl⟩
theorem tb_395 : (Jvm.Cond.laysFinal "StepHeapModel" "StepHeapModel" "register" "[I") ∈ bt := List.mem_filter.mpr ⟨List.mem_append_right _ (List.mem_append_right _ (List.mem_append_left _ (List.mem_of_getElem? (i := 155) rfl))), rfl⟩
theorem tb_396 : (Jvm.Cond.soleField "StepHeapModel" "register") ∈ bt := List.mem_filter.mpr ⟨List.mem_append_right _ (List.mem_append_right _ (List.mem_append_left _ (List.mem_of_getElem? (i := 156) rfl))), rfl⟩
theorem tb_397 : (Jvm.Cond.lays "StepHeapModel" "StepHeapModel" "cycles" "I") ∈ bt := List.mem_filter.mpr ⟨List.mem_append_right _ (List.mem_append_right _ (List.mem_append_left _ (List.mem_of_getElem? (i := 157) rfl))), rfl⟩
theorem tb_398 : (Jvm.Cond.soleField "StepHeapModel" "cycles") ∈ bt := List.mem_filter.mpr ⟨List.mem_append_right _ (List.mem_append_right _ (List.mem_append_left _ (List.mem_of_getElem? (i := 158) rfl))), rfl⟩
theorem tb_399 : (Jvm.Cond.lays "StepHeapModel" "StepHeapModel" "reached" "I") ∈ bt := List.mem_filter.mpr ⟨List.mem_append_right _ (List.mem_append_right _ (List.mem_append_left _ (List.mem_of_getElem? (i := 159) rfl))), rfl⟩
theorem tb_400 : (Jvm.Cond.soleField "StepHeapModel" "reached") ∈ bt := List.mem_filter.mpr ⟨List.mem_append_right _ (List.mem_append_right _ (List.mem_append_left _ (List.mem_of_getElem? (i := 160) rfl))), rfl⟩
theorem tb_401 : (Jvm.Cond.lays "StepHeapModel" "StepHeapModel" "made" "J") ∈ bt := List.mem_filter.mpr ⟨List.mem_append_right _ (List.mem_append_right _ (List.mem_append_left _ (List.mem_of_getElem? (i := 161) rfl))), rfl⟩
theorem tb_402 : (Jvm.Cond.soleField "StepHeapModel" "made") ∈ bt := List.mem_filter.mpr ⟨List.mem_append_right _ (List.mem_append_right _ (List.mem_append_left _ (List.mem_of_getElem? (i := 162) rfl))), rfl⟩
theorem tb_403 : (Jvm.Cond.laysFinal "StepHeapModel" "StepHeapModel" "mark" "[Z") ∈ bt := List.mem_filter.mpr ⟨List.mem_append_right _ (List.mem_append_right _ (List.mem_append_left _ (List.mem_of_getElem? (i := 163) rfl))), rfl⟩
theorem tb_404 : (Jvm.Cond.soleField "StepHeapModel" "mark") ∈ bt := List.mem_filter.mpr ⟨List.mem_append_right _ (List.mem_append_right _ (List.mem_append_left _ (List.mem_of_getElem? (i := 164) rfl))), rfl⟩
theorem tb_405 : (Jvm.Cond.laysFinal "StepHeapModel" "StepHeapModel" "pile" "[I") ∈ bt := List.mem_filter.mpr ⟨List.mem_append_right _ (List.mem_append_right _ (List.mem_append_left _ (List.mem_of_getElem? (i := 165) rfl))), rfl⟩
theorem tb_406 : (Jvm.Cond.soleField "StepHeapModel" "pile") ∈ bt := List.mem_filter.mpr ⟨List.mem_append_right _ (List.mem_append_right _ (List.mem_append_left _ (List.mem_of_getElem? (i := 166) rfl))), rfl⟩
theorem tb_407 : (Jvm.Cond.lays "StepHeapModel" "StepHeapModel" "pushed" "I") ∈ bt := List.mem_filter.mpr ⟨List.mem_append_right _ (List.mem_append_right _ (List.mem_append_left _ (List.mem_of_getElem? (i := 167) rfl))), rfl⟩
theorem tb_408 : (Jvm.Cond.soleField "StepHeapModel" "pushed") ∈ bt := List.mem_filter.mpr ⟨List.mem_append_right _ (List.mem_append_right _ (List.mem_append_left _ (List.mem_of_getElem? (i := 168) rfl))), rfl⟩
theorem tb_409 : (Jvm.Cond.lays "StepHeapModel" "StepHeapModel" "gap" "I") ∈ bt := List.mem_filter.mpr ⟨List.mem_append_right _ (List.mem_append_right _ (List.mem_append_left _ (List.mem_of_getElem? (i := 169) rfl))), rfl⟩
theorem tb_410 : (Jvm.Cond.soleField "StepHeapModel" "gap") ∈ bt := List.mem_filter.mpr ⟨List.mem_append_right _ (List.mem_append_right _ (List.mem_append_left _ (List.mem_of_getElem? (i := 170) rfl))), rfl⟩
theorem tb_411 : (Jvm.Cond.lays "StepHeapModel" "StepHeapModel" "gapIsLast" "Z") ∈ bt := List.mem_filter.mpr ⟨List.mem_append_right _ (List.mem_append_right _ (List.mem_append_left _ (List.mem_of_getElem? (i := 171) rfl))), rfl⟩
theorem tb_412 : (Jvm.Cond.soleField "StepHeapModel" "gapIsLast") ∈ bt := List.mem_filter.mpr ⟨List.mem_append_right _ (List.mem_append_right _ (List.mem_append_left _ (List.mem_of_getElem? (i := 172) rfl))), rfl⟩
theorem tb_413 : (Jvm.Cond.superclass "StepHeapModel" "java/lang/Object") ∈ bt := List.mem_filter.mpr ⟨List.mem_append_right _ (List.mem_append_right _ (List.mem_append_left _ (List.mem_of_getElem? (i := 173) rfl))), rfl⟩
theorem tb_414 : (Jvm.Cond.arrayClass Jvm.ClassFile.FieldType.byte) ∈ bt := List.mem_filter.mpr ⟨List.mem_append_right _ (List.mem_append_right _ (List.mem_append_left _ (List.mem_of_getElem? (i := 174) rfl))), rfl⟩
theorem tb_415 : (Jvm.Cond.arrayClass Jvm.ClassFile.FieldType.short) ∈ bt := List.mem_filter.mpr ⟨List.mem_append_right _ (List.mem_append_right _ (List.mem_append_left _ (List.mem_of_getElem? (i := 175) rfl))), rfl⟩
theorem tb_416 : (Jvm.Cond.arrayClass Jvm.ClassFile.FieldType.boolean) ∈ bt := List.mem_filter.mpr ⟨List.mem_append_right _ (List.mem_append_right _ (List.mem_append_left _ (List.mem_of_getElem? (i := 176) rfl))), rfl⟩
theorem tb_417 : (Jvm.Cond.methodLink "StepHeapLaw" (25 : Nat) ({ cls := "StepHeapModel", name := "make", desc := "(III)I" } : Jvm.MethodName)) ∈ bt := List.mem_filter.mpr ⟨List.mem_append_right _ (List.mem_append_right _ (List.mem_append_left _ (List.mem_of_getElem? (i := 177) rfl))), rfl⟩
theorem tb_418 : (Jvm.Cond.instanceMethod ({ cls := "StepHeapModel", name := "make", desc := "(III)I" } : Jvm.MethodName)) ∈ bt := List.mem_filter.mpr ⟨List.mem_append_right _ (List.mem_append_right _ (List.mem_append_left _ (List.mem_of_getElem? (i := 178) rfl))), rfl⟩
theorem tb_419 : (Jvm.Cond.selects "StepHeapModel" ({ cls := "StepHeapModel", name := "make", desc := "(III)I" } : Jvm.MethodName) ({ cls := "StepHeapModel", name := "make", desc := "(III)I" } : Jvm.MethodName)) ∈ bt := List.mem_filter.mpr ⟨List.mem_append_right _ (List.mem_append_right _ (List.mem_append_left _ (List.mem_of_getElem? (i := 179) rfl))), rfl⟩
theorem tb_420 : (Jvm.Cond.code ({ cls := "StepHeapModel", name := "make", desc := "(III)I" } : Jvm.MethodName) prog_7_method_9_code (4 : Nat) (Option.some Jvm.ClassFile.FieldType.int)) ∈ bt := List.mem_filter.mpr ⟨List.mem_append_right _ (List.mem_append_right _ (List.mem_append_left _ (List.mem_of_getElem? (i := 180) rfl))), rfl⟩
theorem tb_421 : (Jvm.Cond.methodLink "StepHeapModel" (88 : Nat) ({ cls := "StepHeapModel", name := "isRegister", desc := "(I)Z" } : Jvm.MethodName)) ∈ bt := List.mem_filter.mpr ⟨List.mem_append_right _ (List.mem_append_right _ (List.mem_append_left _ (List.mem_of_getElem? (i := 181) rfl))), rfl⟩
theorem tb_422 : (Jvm.Cond.static ({ cls := "StepHeapModel", name := "isRegister", desc := "(I)Z" } : Jvm.MethodName)) ∈ bt := List.mem_filter.mpr ⟨List.mem_append_right _ (List.mem_append_right _ (List.mem_append_left _ (List.mem_of_getElem? (i := 182) rfl))), rfl⟩
theorem tb_423 : (Jvm.Cond.code ({ cls := "StepHeapModel", name := "isRegister", desc := "(I)Z" } : Jvm.MethodName) prog_7_method_2_code (1 : Nat) (Option.some Jvm.ClassFile.FieldType.boolean)) ∈ bt := List.mem_filter.mpr ⟨List.mem_append_right _ (List.mem_append_right _ (List.mem_append_left _ (List.mem_of_getElem? (i := 183) rfl))), rfl⟩
theorem tb_424 : (Jvm.Cond.methodLink "StepHeapModel" (92 : Nat) ({ cls := "StepHeapModel", name := "hasRoom", desc := "(I)Z" } : Jvm.MethodName)) ∈ bt := List.mem_filter.mpr ⟨List.mem_append_right _ (List.mem_append_right _ (List.mem_append_left _ (List.mem_of_getElem? (i := 184) rfl))), rfl⟩
theorem tb_426 : (Jvm.Cond.instanceMethod ({ cls := "StepHeapModel", name := "hasRoom", desc := "(I)Z" } : Jvm.MethodName)) ∈ bt := List.mem_filter.mpr ⟨List.mem_append_right _ (List.mem_append_right _ (List.mem_append_left _ (List.mem_of_getElem? (i := 186) rfl))), rfl⟩
theorem tb_427 : (Jvm.Cond.code ({ cls := "StepHeapModel", name := "hasRoom", desc := "(I)Z" } : Jvm.MethodName) prog_7_method_7_code (2 : Nat) (Option.some Jvm.ClassFile.FieldType.boolean)) ∈ bt := List.mem_filter.mpr ⟨List.mem_append_right _ (List.mem_append_right _ (List.mem_append_left _ (List.mem_of_getElem? (i := 187) rfl))), rfl⟩
theorem tb_428 : (Jvm.Cond.methodLink "StepHeapModel" (77 : Nat) ({ cls := "StepHeapModel", name := "isDone", desc := "()Z" } : Jvm.MethodName)) ∈ bt := List.mem_filter.mpr ⟨List.mem_append_right _ (List.mem_append_right _ (List.mem_append_left _ (List.mem_of_getElem? (i := 188) rfl))), rfl⟩
theorem tb_430 : (Jvm.Cond.instanceMethod ({ cls := "StepHeapModel", name := "isDone", desc := "()Z" } : Jvm.MethodName)) ∈ bt := List.mem_filter.mpr ⟨List.mem_append_right _ (List.mem_append_right _ (List.mem_append_left _ (List.mem_of_getElem? (i := 190) rfl))), rfl⟩
theorem tb_431 : (Jvm.Cond.code ({ cls := "StepHeapModel", name := "isDone", desc := "()Z" } : Jvm.MethodName) prog_7_method_6_code (1 : Nat) (Option.some Jvm.ClassFile.FieldType.boolean)) ∈ bt := List.mem_filter.mpr ⟨List.mem_append_right _ (List.mem_append_right _ (List.mem_append_left _ (List.mem_of_getElem? (i := 191) rfl))), rfl⟩
theorem tb_432 : (Jvm.Cond.methodLink "StepHeapModel" (84 : Nat) ({ cls := "StepHeapModel", name := "goOver", desc := "()I" } : Jvm.MethodName)) ∈ bt := List.mem_filter.mpr ⟨List.mem_append_right _ (List.mem_append_right _ (List.mem_append_left _ (List.mem_of_getElem? (i := 192) rfl))), rfl⟩
theorem tb_434 : (Jvm.Cond.instanceMethod ({ cls := "StepHeapModel", name := "goOver", desc := "()I" } : Jvm.MethodName)) ∈ bt := List.mem_filter.mpr ⟨List.mem_append_right _ (List.mem_append_right _ (List.mem_append_left _ (List.mem_of_getElem? (i := 194) rfl))), rfl⟩
theorem tb_435 : (Jvm.Cond.code ({ cls := "StepHeapModel", name := "goOver", desc := "()I" } : Jvm.MethodName) prog_7_method_5_code (5 : Nat) (Option.some Jvm.ClassFile.FieldType.int)) ∈ bt := List.mem_filter.mpr ⟨List.mem_append_right _ (List.mem_append_right _ (List.mem_append_left _ (List.mem_of_getElem? (i := 195) rfl))), rfl⟩
theorem tb_436 : (Jvm.Cond.methodLink "StepHeapModel" (56 : Nat) ({ cls := "StepHeapModel", name := "reach", desc := "(I)V" } : Jvm.MethodName)) ∈ bt := List.mem_filter.mpr ⟨List.mem_append_right _ (List.mem_append_right _ (List.mem_append_left _ (List.mem_of_getElem? (i := 196) rfl))), rfl⟩
theorem tb_438 : (Jvm.Cond.instanceMethod ({ cls := "StepHeapModel", name := "reach", desc := "(I)V" } : Jvm.MethodName)) ∈ bt := List.mem_filter.mpr ⟨List.mem_append_right _ (List.mem_append_right _ (List.mem_append_left _ (List.mem_of_getElem? (i := 198) rfl))), rfl⟩
theorem tb_439 : (Jvm.Cond.code ({ cls := "StepHeapModel", name := "reach", desc := "(I)V" } : Jvm.MethodName) prog_7_method_4_code (2 : Nat) (Option.none : Option Jvm.ClassFile.FieldType)) ∈ bt := List.mem_filter.mpr ⟨List.mem_append_right _ (List.mem_append_right _ (List.mem_append_left _ (List.mem_of_getElem? (i := 199) rfl))), rfl⟩
theorem tb_440 : (Jvm.Cond.methodLink "StepHeapModel" (60 : Nat) ({ cls := "StepHeapModel", name := "cells", desc := "(I)I" } : Jvm.MethodName)) ∈ bt := List.mem_filter.mpr ⟨List.mem_append_right _ (List.mem_append_right _ (List.mem_append_left _ (List.mem_of_getElem? (i := 200) rfl))), rfl⟩
theorem tb_442 : (Jvm.Cond.instanceMethod ({ cls := "StepHeapModel", name := "cells", desc := "(I)I" } : Jvm.MethodName)) ∈ bt := List.mem_filter.mpr ⟨List.mem_append_right _ (List.mem_append_right _ (List.mem_append_left _ (List.mem_of_getElem? (i := 202) rfl))), rfl⟩
theorem tb_443 : (Jvm.Cond.code ({ cls := "StepHeapModel", name := "cells", desc := "(I)I" } : Jvm.MethodName) prog_7_method_3_code (2 : Nat) (Option.some Jvm.ClassFile.FieldType.int)) ∈ bt := List.mem_filter.mpr ⟨List.mem_append_right _ (List.mem_append_right _ (List.mem_append_left _ (List.mem_of_getElem? (i := 203) rfl))), rfl⟩
theorem tb_444 : (Jvm.Cond.methodLink "StepHeapModel" (95 : Nat) ({ cls := "StepHeapModel", name := "add", desc := "(III)I" } : Jvm.MethodName)) ∈ bt := List.mem_filter.mpr ⟨List.mem_append_right _ (List.mem_append_right _ (List.mem_append_left _ (List.mem_of_getElem? (i := 204) rfl))), rfl⟩
theorem tb_446 : (Jvm.Cond.instanceMethod ({ cls := "StepHeapModel", name := "add", desc := "(III)I" } : Jvm.MethodName)) ∈ bt := List.mem_filter.mpr ⟨List.mem_append_right _ (List.mem_append_right _ (List.mem_append_left _ (List.mem_of_getElem? (i := 206) rfl))), rfl⟩
theorem tb_447 : (Jvm.Cond.code ({ cls := "StepHeapModel", name := "add", desc := "(III)I" } : Jvm.MethodName) prog_7_method_8_code (6 : Nat) (Option.some Jvm.ClassFile.FieldType.int)) ∈ bt := List.mem_filter.mpr ⟨List.mem_append_right _ (List.mem_append_right _ (List.mem_append_left _ (List.mem_of_getElem? (i := 207) rfl))), rfl⟩
theorem tb_448 : (Jvm.Cond.methodLink "StepHeapLaw" (30 : Nat) ({ cls := "StepHeapModel", name := "array", desc := "(IIZ)I" } : Jvm.MethodName)) ∈ bt := List.mem_filter.mpr ⟨List.mem_append_right _ (List.mem_append_right _ (List.mem_append_left _ (List.mem_of_getElem? (i := 208) rfl))), rfl⟩
theorem tb_449 : (Jvm.Cond.instanceMethod ({ cls := "StepHeapModel", name := "array", desc := "(IIZ)I" } : Jvm.MethodName)) ∈ bt := List.mem_filter.mpr ⟨List.mem_append_right _ (List.mem_append_right _ (List.mem_append_left _ (List.mem_of_getElem? (i := 209) rfl))), rfl⟩
theorem tb_450 : (Jvm.Cond.selects "StepHeapModel" ({ cls := "StepHeapModel", name := "array", desc := "(IIZ)I" } : Jvm.MethodName) ({ cls := "StepHeapModel", name := "array", desc := "(IIZ)I" } : Jvm.MethodName)) ∈ bt := List.mem_filter.mpr ⟨List.mem_append_right _ (List.mem_append_right _ (List.mem_append_left _ (List.mem_of_getElem? (i := 210) rfl))), rfl⟩
theorem tb_451 : (Jvm.Cond.code ({ cls := "StepHeapModel", name := "array", desc := "(IIZ)I" } : Jvm.MethodName) prog_7_method_11_code (6 : Nat) (Option.some Jvm.ClassFile.FieldType.int)) ∈ bt := List.mem_filter.mpr ⟨List.mem_append_right _ (List.mem_append_right _ (List.mem_append_left _ (List.mem_of_getElem? (i := 211) rfl))), rfl⟩
theorem tb_452 : (Jvm.Cond.methodLink "StepHeapModel" (99 : Nat) ({ cls := "StepHeapModel", name := "levels", desc := "(I)I" } : Jvm.MethodName)) ∈ bt := List.mem_filter.mpr ⟨List.mem_append_right _ (List.mem_append_right _ (List.mem_append_left _ (List.mem_of_getElem? (i := 212) rfl))), rfl⟩
theorem tb_453 : (Jvm.Cond.static ({ cls := "StepHeapModel", name := "levels", desc := "(I)I" } : Jvm.MethodName)) ∈ bt := List.mem_filter.mpr ⟨List.mem_append_right _ (List.mem_append_right _ (List.mem_append_left _ (List.mem_of_getElem? (i := 213) rfl))), rfl⟩
theorem tb_454 : (Jvm.Cond.code ({ cls := "StepHeapModel", name := "levels", desc := "(I)I" } : Jvm.MethodName) prog_7_method_10_code (1 : Nat) (Option.some Jvm.ClassFile.FieldType.int)) ∈ bt := List.mem_filter.mpr ⟨List.mem_append_right _ (List.mem_append_right _ (List.mem_append_left _ (List.mem_of_getElem? (i := 214) rfl))), rfl⟩
theorem tb_455 : (Jvm.Cond.methodLink "StepHeapLaw" (35 : Nat) ({ cls := "StepHeapModel", name := "get", desc := "(III)Z" } : Jvm.MethodName)) ∈ bt := List.mem_filter.mpr ⟨List.mem_append_right _ (List.mem_append_right _ (List.mem_append_left _ (List.mem_of_getElem? (i := 215) rfl))), rfl⟩
theorem tb_456 : (Jvm.Cond.instanceMethod ({ cls := "StepHeapModel", name := "get", desc := "(III)Z" } : Jvm.MethodName)) ∈ bt := List.mem_filter.mpr ⟨List.mem_append_right _ (List.mem_append_right _ (List.mem_append_left _ (List.mem_of_getElem? (i := 216) rfl))), rfl⟩
theorem tb_457 : (Jvm.Cond.selects "StepHeapModel" ({ cls := "StepHeapModel", name := "get", desc := "(III)Z" } : Jvm.MethodName) ({ cls := "StepHeapModel", name := "get", desc := "(III)Z" } : Jvm.MethodName)) ∈ bt := List.mem_filter.mpr ⟨List.mem_append_right _ (List.mem_append_right _ (List.mem_append_left _ (List.mem_of_getElem? (i := 217) rfl))), rfl⟩
theorem tb_458 : (Jvm.Cond.code ({ cls := "StepHeapModel", name := "get", desc := "(III)Z" } : Jvm.MethodName) prog_7_method_13_code (5 : Nat) (Option.some Jvm.ClassFile.FieldType.boolean)) ∈ bt := List.mem_filter.mpr ⟨List.mem_append_right _ (List.mem_append_right _ (List.mem_append_left _ (List.mem_of_getElem? (i := 218) rfl))), rfl⟩
theorem tb_459 : (Jvm.Cond.methodLink "StepHeapModel" (102 : Nat) ({ cls := "StepHeapModel", name := "field", desc := "(IIZ)I" } : Jvm.MethodName)) ∈ bt := List.mem_filter.mpr ⟨List.mem_append_right _ (List.mem_append_right _ (List.mem_append_left _ (List.mem_of_getElem? (i := 219) rfl))), rfl⟩
theorem tb_461 : (Jvm.Cond.instanceMethod ({ cls := "StepHeapModel", name := "field", desc := "(IIZ)I" } : Jvm.MethodName)) ∈ bt := List.mem_filter.mpr ⟨List.mem_append_right _ (List.mem_append_right _ (List.mem_append_left _ (List.mem_of_getElem? (i := 221) rfl))), rfl⟩
theorem tb_462 : (Jvm.Cond.code ({ cls := "StepHeapModel", name := "field", desc := "(IIZ)I" } : Jvm.MethodName) prog_7_method_12_code (5 : Nat) (Option.some Jvm.ClassFile.FieldType.int)) ∈ bt := List.mem_filter.mpr ⟨List.mem_append_right _ (List.mem_append_right _ (List.mem_append_left _ (List.mem_of_getElem? (i := 222) rfl))), rfl⟩
theorem tb_463 : (Jvm.Cond.methodLink "StepHeapLaw" (39 : Nat) ({ cls := "StepHeapModel", name := "put", desc := "(III)Z" } : Jvm.MethodName)) ∈ bt := List.mem_filter.mpr ⟨List.mem_append_right _ (List.mem_append_right _ (List.mem_append_left _ (List.mem_of_getElem? (i := 223) rfl))), rfl⟩
theorem tb_464 : (Jvm.Cond.instanceMethod ({ cls := "StepHeapModel", name := "put", desc := "(III)Z" } : Jvm.MethodName)) ∈ bt := List.mem_filter.mpr ⟨List.mem_append_right _ (List.mem_append_right _ (List.mem_append_left _ (List.mem_of_getElem? (i := 224) rfl))), rfl⟩
theorem tb_465 : (Jvm.Cond.selects "StepHeapModel" ({ cls := "StepHeapModel", name := "put", desc := "(III)Z" } : Jvm.MethodName) ({ cls := "StepHeapModel", name := "put", desc := "(III)Z" } : Jvm.MethodName)) ∈ bt := List.mem_filter.mpr ⟨List.mem_append_right _ (List.mem_append_right _ (List.mem_append_left _ (List.mem_of_getElem? (i := 225) rfl))), rfl⟩
theorem tb_466 : (Jvm.Cond.code ({ cls := "StepHeapModel", name := "put", desc := "(III)Z" } : Jvm.MethodName) prog_7_method_14_code (5 : Nat) (Option.some Jvm.ClassFile.FieldType.boolean)) ∈ bt := List.mem_filter.mpr ⟨List.mem_append_right _ (List.mem_append_right _ (List.mem_append_left _ (List.mem_of_getElem? (i := 226) rfl))), rfl⟩
theorem tb_467 : (Jvm.Cond.methodLink "StepHeapLaw" (44 : Nat) ({ cls := "StepHeapModel", name := "look", desc := "(II)J" } : Jvm.MethodName)) ∈ bt := List.mem_filter.mpr ⟨List.mem_append_right _ (List.mem_append_right _ (List.mem_append_left _ (List.mem_of_getElem? (i := 227) rfl))), rfl⟩
theorem tb_468 : (Jvm.Cond.instanceMethod ({ cls := "StepHeapModel", name := "look", desc := "(II)J" } : Jvm.MethodName)) ∈ bt := List.mem_filter.mpr ⟨List.mem_append_right _ (List.mem_append_right _ (List.mem_append_left _ (List.mem_of_getElem? (i := 228) rfl))), rfl⟩
theorem tb_469 : (Jvm.Cond.selects "StepHeapModel" ({ cls := "StepHeapModel", name := "look", desc := "(II)J" } : Jvm.MethodName) ({ cls := "StepHeapModel", name := "look", desc := "(II)J" } : Jvm.MethodName)) ∈ bt := List.mem_filter.mpr ⟨List.mem_append_right _ (List.mem_append_right _ (List.mem_append_left _ (List.mem_of_getElem? (i := 229) rfl))), rfl⟩
theorem tb_470 : (Jvm.Cond.code ({ cls := "StepHeapModel", name := "look", desc := "(II)J" } : Jvm.MethodName) prog_7_method_15_code (4 : Nat) (Option.some Jvm.ClassFile.FieldType.long)) ∈ bt := List.mem_filter.mpr ⟨List.mem_append_right _ (List.mem_append_right _ (List.mem_append_left _ (List.mem_of_getElem? (i := 230) rfl))), rfl⟩
theorem tb_471 : (Jvm.Cond.constantLong "StepHeapModel" (108 : Nat) (-9223372036854775808 : Int64)) ∈ bt := List.mem_filter.mpr ⟨List.mem_append_right _ (List.mem_append_right _ (List.mem_append_left _ (List.mem_of_getElem? (i := 231) rfl))), rfl⟩
theorem tb_472 : (Jvm.Cond.methodLink "StepHeapLaw" (48 : Nat) ({ cls := "StepHeapModel", name := "set", desc := "(III)Z" } : Jvm.MethodName)) ∈ bt := List.mem_filter.mpr ⟨List.mem_append_right _ (List.mem_append_right _ (List.mem_append_left _ (List.mem_of_getElem? (i := 232) rfl))), rfl⟩
theorem tb_473 : (Jvm.Cond.instanceMethod ({ cls := "StepHeapModel", name := "set", desc := "(III)Z" } : Jvm.MethodName)) ∈ bt := List.mem_filter.mpr ⟨List.mem_append_right _ (List.mem_append_right _ (List.mem_append_left _ (List.mem_of_getElem? (i := 233) rfl))), rfl⟩
theorem tb_474 : (Jvm.Cond.selects "StepHeapModel" ({ cls := "StepHeapModel", name := "set", desc := "(III)Z" } : Jvm.MethodName) ({ cls := "StepHeapModel", name := "set", desc := "(III)Z" } : Jvm.MethodName)) ∈ bt := List.mem_filter.mpr ⟨List.mem_append_right _ (List.mem_append_right _ (List.mem_append_left _ (List.mem_of_getElem? (i := 234) rfl))), rfl⟩
theorem tb_475 : (Jvm.Cond.code ({ cls := "StepHeapModel", name := "set", desc := "(III)Z" } : Jvm.MethodName) prog_7_method_16_code (5 : Nat) (Option.some Jvm.ClassFile.FieldType.boolean)) ∈ bt := List.mem_filter.mpr ⟨List.mem_append_right _ (List.mem_append_right _ (List.mem_append_left _ (List.mem_of_getElem? (i := 235) rfl))), rfl⟩
theorem tb_476 : (Jvm.Cond.methodLink "StepHeapLaw" (52 : Nat) ({ cls := "StepHeapModel", name := "getItem", desc := "(III)Z" } : Jvm.MethodName)) ∈ bt := List.mem_filter.mpr ⟨List.mem_append_right _ (List.mem_append_right _ (List.mem_append_left _ (List.mem_of_getElem? (i := 236) rfl))), rfl⟩
theorem tb_477 : (Jvm.Cond.instanceMethod ({ cls := "StepHeapModel", name := "getItem", desc := "(III)Z" } : Jvm.MethodName)) ∈ bt := List.mem_filter.mpr ⟨List.mem_append_right _ (List.mem_append_right _ (List.mem_append_left _ (List.mem_of_getElem? (i := 237) rfl))), rfl⟩
theorem tb_478 : (Jvm.Cond.selects "StepHeapModel" ({ cls := "StepHeapModel", name := "getItem", desc := "(III)Z" } : Jvm.MethodName) ({ cls := "StepHeapModel", name := "getItem", desc := "(III)Z" } : Jvm.MethodName)) ∈ bt := List.mem_filter.mpr ⟨List.mem_append_right _ (List.mem_append_right _ (List.mem_append_left _ (List.mem_of_getElem? (i := 238) rfl))), rfl⟩
theorem tb_479 : (Jvm.Cond.code ({ cls := "StepHeapModel", name := "getItem", desc := "(III)Z" } : Jvm.MethodName) prog_7_method_20_code (5 : Nat) (Option.some Jvm.ClassFile.FieldType.boolean)) ∈ bt := List.mem_filter.mpr ⟨List.mem_append_right _ (List.mem_append_right _ (List.mem_append_left _ (List.mem_of_getElem? (i := 239) rfl))), rfl⟩
theorem tb_480 : (Jvm.Cond.methodLink "StepHeapModel" (117 : Nat) ({ cls := "StepHeapModel", name := "hasItem", desc := "(IIZ)Z" } : Jvm.MethodName)) ∈ bt := List.mem_filter.mpr ⟨List.mem_append_right _ (List.mem_append_right _ (List.mem_append_right _ (List.mem_of_getElem? (i := 0) rfl))), rfl⟩
theorem tb_482 : (Jvm.Cond.instanceMethod ({ cls := "StepHeapModel", name := "hasItem", desc := "(IIZ)Z" } : Jvm.MethodName)) ∈ bt := List.mem_filter.mpr ⟨List.mem_append_right _ (List.mem_append_right _ (List.mem_append_right _ (List.mem_of_getElem? (i := 2) rfl))), rfl⟩
theorem tb_483 : (Jvm.Cond.code ({ cls := "StepHeapModel", name := "hasItem", desc := "(IIZ)Z" } : Jvm.MethodName) prog_7_method_17_code (5 : Nat) (Option.some Jvm.ClassFile.FieldType.boolean)) ∈ bt := List.mem_filter.mpr ⟨List.mem_append_right _ (List.mem_append_right _ (List.mem_append_right _ (List.mem_of_getElem? (i := 3) rfl))), rfl⟩
theorem tb_484 : (Jvm.Cond.methodLink "StepHeapModel" (121 : Nat) ({ cls := "StepHeapModel", name := "item", desc := "(II)I" } : Jvm.MethodName)) ∈ bt := List.mem_filter.mpr ⟨List.mem_append_right _ (List.mem_append_right _ (List.mem_append_right _ (List.mem_of_getElem? (i := 4) rfl))), rfl⟩
theorem tb_486 : (Jvm.Cond.instanceMethod ({ cls := "StepHeapModel", name := "item", desc := "(II)I" } : Jvm.MethodName)) ∈ bt := List.mem_filter.mpr ⟨List.mem_append_right _ (List.mem_append_right _ (List.mem_append_right _ (List.mem_of_getElem? (i := 6) rfl))), rfl⟩
theorem tb_487 : (Jvm.Cond.code ({ cls := "StepHeapModel", name := "item", desc := "(II)I" } : Jvm.MethodName) prog_7_method_18_code (8 : Nat) (Option.some Jvm.ClassFile.FieldType.int)) ∈ bt := List.mem_filter.mpr ⟨List.mem_append_right _ (List.mem_append_right _ (List.mem_append_right _ (List.mem_of_getElem? (i := 7) rfl))), rfl⟩
theorem tb_488 : (Jvm.Cond.methodLink "StepHeapLaw" (56 : Nat) ({ cls := "StepHeapModel", name := "putItem", desc := "(III)I" } : Jvm.MethodName)) ∈ bt := List.mem_filter.mpr ⟨List.mem_append_right _ (List.mem_append_right _ (List.mem_append_right _ (List.mem_of_getElem? (i := 8) rfl))), rfl⟩
theorem tb_489 : (Jvm.Cond.instanceMethod ({ cls := "StepHeapModel", name := "putItem", desc := "(III)I" } : Jvm.MethodName)) ∈ bt := List.mem_filter.mpr ⟨List.mem_append_right _ (List.mem_append_right _ (List.mem_append_right _ (List.mem_of_getElem? (i := 9) rfl))), rfl⟩
theorem tb_490 : (Jvm.Cond.selects "StepHeapModel" ({ cls := "StepHeapModel", name := "putItem", desc := "(III)I" } : Jvm.MethodName) ({ cls := "StepHeapModel", name := "putItem", desc := "(III)I" } : Jvm.MethodName)) ∈ bt := List.mem_filter.mpr ⟨List.mem_append_right _ (List.mem_append_right _ (List.mem_append_right _ (List.mem_of_getElem? (i := 10) rfl))), rfl⟩
theorem tb_491 : (Jvm.Cond.code ({ cls := "StepHeapModel", name := "putItem", desc := "(III)I" } : Jvm.MethodName) prog_7_method_21_code (5 : Nat) (Option.some Jvm.ClassFile.FieldType.int)) ∈ bt := List.mem_filter.mpr ⟨List.mem_append_right _ (List.mem_append_right _ (List.mem_append_right _ (List.mem_of_getElem? (i := 11) rfl))), rfl⟩
theorem tb_492 : (Jvm.Cond.methodLink "StepHeapModel" (125 : Nat) ({ cls := "StepHeapModel", name := "fill", desc := "(Z)I" } : Jvm.MethodName)) ∈ bt := List.mem_filter.mpr ⟨List.mem_append_right _ (List.mem_append_right _ (List.mem_append_right _ (List.mem_of_getElem? (i := 12) rfl))), rfl⟩
theorem tb_494 : (Jvm.Cond.instanceMethod ({ cls := "StepHeapModel", name := "fill", desc := "(Z)I" } : Jvm.MethodName)) ∈ bt := List.mem_filter.mpr ⟨List.mem_append_right _ (List.mem_append_right _ (List.mem_append_right _ (List.mem_of_getElem? (i := 14) rfl))), rfl⟩
theorem tb_495 : (Jvm.Cond.code ({ cls := "StepHeapModel", name := "fill", desc := "(Z)I" } : Jvm.MethodName) prog_7_method_19_code (4 : Nat) (Option.some Jvm.ClassFile.FieldType.int)) ∈ bt := List.mem_filter.mpr ⟨List.mem_append_right _ (List.mem_append_right _ (List.mem_append_right _ (List.mem_of_getElem? (i := 15) rfl))), rfl⟩
theorem tb_496 : (Jvm.Cond.methodLink "StepHeapLaw" (60 : Nat) ({ cls := "StepHeapModel", name := "lookItem", desc := "(II)J" } : Jvm.MethodName)) ∈ bt := List.mem_filter.mpr ⟨List.mem_append_right _ (List.mem_append_right _ (List.mem_append_right _ (List.mem_of_getElem? (i := 16) rfl))), rfl⟩
theorem tb_497 : (Jvm.Cond.instanceMethod ({ cls := "StepHeapModel", name := "lookItem", desc := "(II)J" } : Jvm.MethodName)) ∈ bt := List.mem_filter.mpr ⟨List.mem_append_right _ (List.mem_append_right _ (List.mem_append_right _ (List.mem_of_getElem? (i := 17) rfl))), rfl⟩
theorem tb_498 : (Jvm.Cond.selects "StepHeapModel" ({ cls := "StepHeapModel", name := "lookItem", desc := "(II)J" } : Jvm.MethodName) ({ cls := "StepHeapModel", name := "lookItem", desc := "(II)J" } : Jvm.MethodName)) ∈ bt := List.mem_filter.mpr ⟨List.mem_append_right _ (List.mem_append_right _ (List.mem_append_right _ (List.mem_of_getElem? (i := 18) rfl))), rfl⟩
theorem tb_499 : (Jvm.Cond.code ({ cls := "StepHeapModel", name := "lookItem", desc := "(II)J" } : Jvm.MethodName) prog_7_method_22_code (4 : Nat) (Option.some Jvm.ClassFile.FieldType.long)) ∈ bt := List.mem_filter.mpr ⟨List.mem_append_right _ (List.mem_append_right _ (List.mem_append_right _ (List.mem_of_getElem? (i := 19) rfl))), rfl⟩
theorem tb_500 : (Jvm.Cond.methodLink "StepHeapLaw" (64 : Nat) ({ cls := "StepHeapModel", name := "setItem", desc := "(III)I" } : Jvm.MethodName)) ∈ bt := List.mem_filter.mpr ⟨List.mem_append_right _ (List.mem_append_right _ (List.mem_append_right _ (List.mem_of_getElem? (i := 20) rfl))), rfl⟩
theorem tb_501 : (Jvm.Cond.instanceMethod ({ cls := "StepHeapModel", name := "setItem", desc := "(III)I" } : Jvm.MethodName)) ∈ bt := List.mem_filter.mpr ⟨List.mem_append_right _ (List.mem_append_right _ (List.mem_append_right _ (List.mem_of_getElem? (i := 21) rfl))), rfl⟩
theorem tb_502 : (Jvm.Cond.selects "StepHeapModel" ({ cls := "StepHeapModel", name := "setItem", desc := "(III)I" } : Jvm.MethodName) ({ cls := "StepHeapModel", name := "setItem", desc := "(III)I" } : Jvm.MethodName)) ∈ bt := List.mem_filter.mpr ⟨List.mem_append_right _ (List.mem_append_right _ (List.mem_append_right _ (List.mem_of_getElem? (i := 22) rfl))), rfl⟩
theorem tb_503 : (Jvm.Cond.code ({ cls := "StepHeapModel", name := "setItem", desc := "(III)I" } : Jvm.MethodName) prog_7_method_23_code (5 : Nat) (Option.some Jvm.ClassFile.FieldType.int)) ∈ bt := List.mem_filter.mpr ⟨List.mem_append_right _ (List.mem_append_right _ (List.mem_append_right _ (List.mem_of_getElem? (i := 23) rfl))), rfl⟩
theorem tb_504 : (Jvm.Cond.methodLink "StepHeapLaw" (69 : Nat) ({ cls := "StepHeapModel", name := "copy", desc := "(II)Z" } : Jvm.MethodName)) ∈ bt := List.mem_filter.mpr ⟨List.mem_append_right _ (List.mem_append_right _ (List.mem_append_right _ (List.mem_of_getElem? (i := 24) rfl))), rfl⟩
theorem tb_505 : (Jvm.Cond.instanceMethod ({ cls := "StepHeapModel", name := "copy", desc := "(II)Z" } : Jvm.MethodName)) ∈ bt := List.mem_filter.mpr ⟨List.mem_append_right _ (List.mem_append_right _ (List.mem_append_right _ (List.mem_of_getElem? (i := 25) rfl))), rfl⟩
theorem tb_506 : (Jvm.Cond.selects "StepHeapModel" ({ cls := "StepHeapModel", name := "copy", desc := "(II)Z" } : Jvm.MethodName) ({ cls := "StepHeapModel", name := "copy", desc := "(II)Z" } : Jvm.MethodName)) ∈ bt := List.mem_filter.mpr ⟨List.mem_append_right _ (List.mem_append_right _ (List.mem_append_right _ (List.mem_of_getElem? (i := 26) rfl))), rfl⟩
theorem tb_507 : (Jvm.Cond.code ({ cls := "StepHeapModel", name := "copy", desc := "(II)Z" } : Jvm.MethodName) prog_7_method_24_code (3 : Nat) (Option.some Jvm.ClassFile.FieldType.boolean)) ∈ bt := List.mem_filter.mpr ⟨List.mem_append_right _ (List.mem_append_right _ (List.mem_append_right _ (List.mem_of_getElem? (i := 27) rfl))), rfl⟩
theorem tb_508 : (Jvm.Cond.methodLink "StepHeapLaw" (74 : Nat) ({ cls := "StepHeapModel", name := "drop", desc := "(I)Z" } : Jvm.MethodName)) ∈ bt := List.mem_filter.mpr ⟨List.mem_append_right _ (List.mem_append_right _ (List.mem_append_right _ (List.mem_of_getElem? (i := 28) rfl))), rfl⟩
theorem tb_509 : (Jvm.Cond.instanceMethod ({ cls := "StepHeapModel", name := "drop", desc := "(I)Z" } : Jvm.MethodName)) ∈ bt := List.mem_filter.mpr ⟨List.mem_append_right _ (List.mem_append_right _ (List.mem_append_right _ (List.mem_of_getElem? (i := 29) rfl))), rfl⟩
theorem tb_510 : (Jvm.Cond.selects "StepHeapModel" ({ cls := "StepHeapModel", name := "drop", desc := "(I)Z" } : Jvm.MethodName) ({ cls := "StepHeapModel", name := "drop", desc := "(I)Z" } : Jvm.MethodName)) ∈ bt := List.mem_filter.mpr ⟨List.mem_append_right _ (List.mem_append_right _ (List.mem_append_right _ (List.mem_of_getElem? (i := 30) rfl))), rfl⟩
theorem tb_511 : (Jvm.Cond.code ({ cls := "StepHeapModel", name := "drop", desc := "(I)Z" } : Jvm.MethodName) prog_7_method_25_code (2 : Nat) (Option.some Jvm.ClassFile.FieldType.boolean)) ∈ bt := List.mem_filter.mpr ⟨List.mem_append_right _ (List.mem_append_right _ (List.mem_append_right _ (List.mem_of_getElem? (i := 31) rfl))), rfl⟩
theorem tb_512 : (Jvm.Cond.methodLink "StepHeapLaw" (78 : Nat) ({ cls := "StepHeapModel", name := "same", desc := "(II)Z" } : Jvm.MethodName)) ∈ bt := List.mem_filter.mpr ⟨List.mem_append_right _ (List.mem_append_right _ (List.mem_append_right _ (List.mem_of_getElem? (i := 32) rfl))), rfl⟩
theorem tb_513 : (Jvm.Cond.instanceMethod ({ cls := "StepHeapModel", name := "same", desc := "(II)Z" } : Jvm.MethodName)) ∈ bt := List.mem_filter.mpr ⟨List.mem_append_right _ (List.mem_append_right _ (List.mem_append_right _ (List.mem_of_getElem? (i := 33) rfl))), rfl⟩
theorem tb_514 : (Jvm.Cond.selects "StepHeapModel" ({ cls := "StepHeapModel", name := "same", desc := "(II)Z" } : Jvm.MethodName) ({ cls := "StepHeapModel", name := "same", desc := "(II)Z" } : Jvm.MethodName)) ∈ bt := List.mem_filter.mpr ⟨List.mem_append_right _ (List.mem_append_right _ (List.mem_append_right _ (List.mem_of_getElem? (i := 34) rfl))), rfl⟩
theorem tb_515 : (Jvm.Cond.code ({ cls := "StepHeapModel", name := "same", desc := "(II)Z" } : Jvm.MethodName) prog_7_method_26_code (3 : Nat) (Option.some Jvm.ClassFile.FieldType.boolean)) ∈ bt := List.mem_filter.mpr ⟨List.mem_append_right _ (List.mem_append_right _ (List.mem_append_right _ (List.mem_of_getElem? (i := 35) rfl))), rfl⟩
theorem tb_516 : (Jvm.Cond.methodLink "StepHeapLaw" (83 : Nat) ({ cls := "StepHeapModel", name := "size", desc := "(II)I" } : Jvm.MethodName)) ∈ bt := List.mem_filter.mpr ⟨List.mem_append_right _ (List.mem_append_right _ (List.mem_append_right _ (List.mem_of_getElem? (i := 36) rfl))), rfl⟩
theorem tb_517 : (Jvm.Cond.instanceMethod ({ cls := "StepHeapModel", name := "size", desc := "(II)I" } : Jvm.MethodName)) ∈ bt := List.mem_filter.mpr ⟨List.mem_append_right _ (List.mem_append_right _ (List.mem_append_right _ (List.mem_of_getElem? (i := 37) rfl))), rfl⟩
theorem tb_518 : (Jvm.Cond.selects "StepHeapModel" ({ cls := "StepHeapModel", name := "size", desc := "(II)I" } : Jvm.MethodName) ({ cls := "StepHeapModel", name := "size", desc := "(II)I" } : Jvm.MethodName)) ∈ bt := List.mem_filter.mpr ⟨List.mem_append_right _ (List.mem_append_right _ (List.mem_append_right _ (List.mem_of_getElem? (i := 38) rfl))), rfl⟩
theorem tb_519 : (Jvm.Cond.code ({ cls := "StepHeapModel", name := "size", desc := "(II)I" } : Jvm.MethodName) prog_7_method_27_code (5 : Nat) (Option.some Jvm.ClassFile.FieldType.int)) ∈ bt := List.mem_filter.mpr ⟨List.mem_append_right _ (List.mem_append_right _ (List.mem_append_right _ (List.mem_of_getElem? (i := 39) rfl))), rfl⟩
theorem tb_520 : (Jvm.Cond.methodLink "StepHeapLaw" (88 : Nat) ({ cls := "StepHeapModel", name := "told", desc := "(I)I" } : Jvm.MethodName)) ∈ bt := List.mem_filter.mpr ⟨List.mem_append_right _ (List.mem_append_right _ (List.mem_append_right _ (List.mem_of_getElem? (i := 40) rfl))), rfl⟩
theorem tb_521 : (Jvm.Cond.instanceMethod ({ cls := "StepHeapModel", name := "told", desc := "(I)I" } : Jvm.MethodName)) ∈ bt := List.mem_filter.mpr ⟨List.mem_append_right _ (List.mem_append_right _ (List.mem_append_right _ (List.mem_of_getElem? (i := 41) rfl))), rfl⟩
theorem tb_522 : (Jvm.Cond.selects "StepHeapModel" ({ cls := "StepHeapModel", name := "told", desc := "(I)I" } : Jvm.MethodName) ({ cls := "StepHeapModel", name := "told", desc := "(I)I" } : Jvm.MethodName)) ∈ bt := List.mem_filter.mpr ⟨List.mem_append_right _ (List.mem_append_right _ (List.mem_append_right _ (List.mem_of_getElem? (i := 42) rfl))), rfl⟩
theorem tb_523 : (Jvm.Cond.code ({ cls := "StepHeapModel", name := "told", desc := "(I)I" } : Jvm.MethodName) prog_7_method_28_code (2 : Nat) (Option.some Jvm.ClassFile.FieldType.int)) ∈ bt := List.mem_filter.mpr ⟨List.mem_append_right _ (List.mem_append_right _ (List.mem_append_right _ (List.mem_of_getElem? (i := 43) rfl))), rfl⟩
theorem tb_524 : (Jvm.Cond.constantLong "StepHeapModel" (129 : Nat) (2147483647 : Int64)) ∈ bt := List.mem_filter.mpr ⟨List.mem_append_right _ (List.mem_append_right _ (List.mem_append_right _ (List.mem_of_getElem? (i := 44) rfl))), rfl⟩
theorem tb_525 : (Jvm.Cond.methodLink "StepHeapLaw" (93 : Nat) ({ cls := "StepHeapModel", name := "steady", desc := "()Z" } : Jvm.MethodName)) ∈ bt := List.mem_filter.mpr ⟨List.mem_append_right _ (List.mem_append_right _ (List.mem_append_right _ (List.mem_of_getElem? (i := 45) rfl))), rfl⟩
theorem tb_526 : (Jvm.Cond.instanceMethod ({ cls := "StepHeapModel", name := "steady", desc := "()Z" } : Jvm.MethodName)) ∈ bt := List.mem_filter.mpr ⟨List.mem_append_right _ (List.mem_append_right _ (List.mem_append_right _ (List.mem_of_getElem? (i := 46) rfl))), rfl⟩
theorem tb_527 : (Jvm.Cond.selects "StepHeapModel" ({ cls := "StepHeapModel", name := "steady", desc := "()Z" } : Jvm.MethodName) ({ cls := "StepHeapModel", name := "steady", desc := "()Z" } : Jvm.MethodName)) ∈ bt := List.mem_filter.mpr ⟨List.mem_append_right _ (List.mem_append_right _ (List.mem_append_right _ (List.mem_of_getElem? (i := 47) rfl))), rfl⟩
theorem tb_528 : (Jvm.Cond.code ({ cls := "StepHeapModel", name := "steady", desc := "()Z" } : Jvm.MethodName) prog_7_method_29_code (1 : Nat) (Option.some Jvm.ClassFile.FieldType.boolean)) ∈ bt := List.mem_filter.mpr ⟨List.mem_append_right _ (List.mem_append_right _ (List.mem_append_right _ (List.mem_of_getElem? (i := 48) rfl))), rfl⟩
theorem tp_0 : Cond.selects "StepHeap$Mover" ⟨"StepHeap$Mover", "useHalf", "(I)V"⟩ ⟨"StepHeap$Mover", "useHalf", "(I)V"⟩ ∈ bt := List.mem_filter.mpr ⟨List.mem_append_left _ (List.mem_of_getElem? (i := 0) rfl), rfl⟩
theorem tp_1 : Cond.selects "StepHeap" ⟨"StepHeap", "fillRegister", "(II)I"⟩ ⟨"StepHeap", "fillRegister", "(II)I"⟩ ∈ bt := List.mem_filter.mpr ⟨List.mem_append_left _ (List.mem_of_getElem? (i := 1) rfl), rfl⟩
theorem tp_2 : Cond.selects "StepHeap$Mover" ⟨"StepHeap$Mover", "beginCycle", "()V"⟩ ⟨"StepHeap$Mover", "beginCycle", "()V"⟩ ∈ bt := List.mem_filter.mpr ⟨List.mem_append_left _ (List.mem_of_getElem? (i := 2) rfl), rfl⟩
theorem tp_3 : Cond.selects "StepHeap$Mover" ⟨"StepHeap$Mover", "placeInUse", "(I)I"⟩ ⟨"StepHeap$Mover", "placeInUse", "(I)I"⟩ ∈ bt := List.mem_filter.mpr ⟨List.mem_append_left _ (List.mem_of_getElem? (i := 3) rfl), rfl⟩
theorem tp_4 : Cond.selects "StepHeap$Mover" ⟨"StepHeap$Mover", "isOld", "(I)Z"⟩ ⟨"StepHeap$Mover", "isOld", "(I)Z"⟩ ∈ bt := List.mem_filter.mpr ⟨List.mem_append_left _ (List.mem_of_getElem? (i := 4) rfl), rfl⟩
theorem tp_5 : Cond.selects "StepHeap$Cells" ⟨"StepHeap$Cells", "touch", "()V"⟩ ⟨"StepHeap$Cells", "touch", "()V"⟩ ∈ bt := List.mem_filter.mpr ⟨List.mem_append_left _ (List.mem_of_getElem? (i := 5) rfl), rfl⟩
theorem tp_6 : Cond.selects "StepHeap$Mover" ⟨"StepHeap$Mover", "work", "()V"⟩ ⟨"StepHeap$Mover", "work", "()V"⟩ ∈ bt := List.mem_filter.mpr ⟨List.mem_append_left _ (List.mem_of_getElem? (i := 6) rfl), rfl⟩
theorem tp_7 : Cond.selects "StepHeap" ⟨"StepHeap", "headOf", "(I)I"⟩ ⟨"StepHeap", "headOf", "(I)I"⟩ ∈ bt := List.mem_filter.mpr ⟨List.mem_append_left _ (List.mem_of_getElem? (i := 7) rfl), rfl⟩
theorem tp_8 : Cond.selects "StepHeap" ⟨"StepHeap", "referenceCell", "(II)I"⟩ ⟨"StepHeap", "referenceCell", "(II)I"⟩ ∈ bt := List.mem_filter.mpr ⟨List.mem_append_left _ (List.mem_of_getElem? (i := 8) rfl), rfl⟩
theorem tp_9 : Cond.selects "StepHeap" ⟨"StepHeap", "intCell", "(III)I"⟩ ⟨"StepHeap", "intCell", "(III)I"⟩ ∈ bt := List.mem_filter.mpr ⟨List.mem_append_left _ (List.mem_of_getElem? (i := 9) rfl), rfl⟩
theorem tp_10 : Cond.selects "StepHeap" ⟨"StepHeap", "levelOfGap", "(III)I"⟩ ⟨"StepHeap", "levelOfGap", "(III)I"⟩ ∈ bt := List.mem_filter.mpr ⟨List.mem_append_left _ (List.mem_of_getElem? (i := 10) rfl), rfl⟩
theorem tp_11 : Cond.selects "StepHeap" ⟨"StepHeap", "cellOnWay", "(IIII)I"⟩ ⟨"StepHeap", "cellOnWay", "(IIII)I"⟩ ∈ bt := List.mem_filter.mpr ⟨List.mem_append_left _ (List.mem_of_getElem? (i := 11) rfl), rfl⟩
theorem tp_12 : Cond.selects "StepHeap" ⟨"StepHeap", "openWay", "(III)I"⟩ ⟨"StepHeap", "openWay", "(III)I"⟩ ∈ bt := List.mem_filter.mpr ⟨List.mem_append_left _ (List.mem_of_getElem? (i := 12) rfl), rfl⟩
theorem tp_13 : Cond.selects "StepHeapModel" ⟨"StepHeapModel", "hasRoom", "(I)Z"⟩ ⟨"StepHeapModel", "hasRoom", "(I)Z"⟩ ∈ bt := List.mem_filter.mpr ⟨List.mem_append_left _ (List.mem_of_getElem? (i := 13) rfl), rfl⟩
theorem tp_14 : Cond.selects "StepHeapModel" ⟨"StepHeapModel", "isDone", "()Z"⟩ ⟨"StepHeapModel", "isDone", "()Z"⟩ ∈ bt := List.mem_filter.mpr ⟨List.mem_append_left _ (List.mem_of_getElem? (i := 14) rfl), rfl⟩
theorem tp_15 : Cond.selects "StepHeapModel" ⟨"StepHeapModel", "goOver", "()I"⟩ ⟨"StepHeapModel", "goOver", "()I"⟩ ∈ bt := List.mem_filter.mpr ⟨List.mem_append_left _ (List.mem_of_getElem? (i := 15) rfl), rfl⟩
theorem tp_16 : Cond.selects "StepHeapModel" ⟨"StepHeapModel", "reach", "(I)V"⟩ ⟨"StepHeapModel", "reach", "(I)V"⟩ ∈ bt := List.mem_filter.mpr ⟨List.mem_append_left _ (List.mem_of_getElem? (i := 16) rfl), rfl⟩
theorem tp_17 : Cond.selects "StepHeapModel" ⟨"StepHeapModel", "cells", "(I)I"⟩ ⟨"StepHeapModel", "cells", "(I)I"⟩ ∈ bt := List.mem_filter.mpr ⟨List.mem_append_left _ (List.mem_of_getElem? (i := 17) rfl), rfl⟩
theorem tp_18 : Cond.selects "StepHeapModel" ⟨"StepHeapModel", "add", "(III)I"⟩ ⟨"StepHeapModel", "add", "(III)I"⟩ ∈ bt := List.mem_filter.mpr ⟨List.mem_append_left _ (List.mem_of_getElem? (i := 18) rfl), rfl⟩
theorem tp_19 : Cond.selects "StepHeapModel" ⟨"StepHeapModel", "field", "(IIZ)I"⟩ ⟨"StepHeapModel", "field", "(IIZ)I"⟩ ∈ bt := List.mem_filter.mpr ⟨List.mem_append_left _ (List.mem_of_getElem? (i := 19) rfl), rfl⟩
theorem tp_20 : Cond.selects "StepHeapModel" ⟨"StepHeapModel", "hasItem", "(IIZ)Z"⟩ ⟨"StepHeapModel", "hasItem", "(IIZ)Z"⟩ ∈ bt := List.mem_filter.mpr ⟨List.mem_append_left _ (List.mem_of_getElem? (i := 20) rfl), rfl⟩
theorem tp_21 : Cond.selects "StepHeapModel" ⟨"StepHeapModel", "item", "(II)I"⟩ ⟨"StepHeapModel", "item", "(II)I"⟩ ∈ bt := List.mem_filter.mpr ⟨List.mem_append_left _ (List.mem_of_getElem? (i := 21) rfl), rfl⟩
theorem tp_22 : Cond.selects "StepHeapModel" ⟨"StepHeapModel", "fill", "(Z)I"⟩ ⟨"StepHeapModel", "fill", "(Z)I"⟩ ∈ bt := List.mem_filter.mpr ⟨List.mem_append_left _ (List.mem_of_getElem? (i := 22) rfl), rfl⟩
theorem bt_good {w : Cond} (h : w ∈ bt) : (w.onTables && w.keeps) = true ∨ ∃ ty, w = .arrayClass ty := good_of_word (List.mem_filter.mp h).2
theorem bt_gi {c1 c2 : Cond} (h2 : c2 ∈ bt) : GoodIn (c1 :: bt) (c2 :: bt) := fun w h => by
  have hw : w ∈ bt := (List.mem_cons.mp h).elim (fun e => e ▸ h2) id
  exact ⟨List.mem_cons_of_mem _ hw, bt_good hw⟩
theorem bt_V {c1 c2 : Cond} {own C : String} {idx : Nat} {y : MethodName} (h2 : c2 ∈ bt) (a1 : Cond.methodLink own idx y ∈ bt) (a2 : Cond.instanceMethod y ∈ bt) (a3 : Cond.selects C y y ∈ bt) (a4 : Cond.initialized C ∈ bt) : GoodIn (c1 :: bt) (wsV own idx C y (c2 :: bt)) := fun w h => by
  have hw : w ∈ bt := by
    simp only [wsV, List.cons_append, List.nil_append, List.mem_cons] at h
    rcases h with h | h | h | h | h | h
    · exact h ▸ a1
    · exact h ▸ a2
    · exact h ▸ a3
    · exact h ▸ a4
    · exact h ▸ h2
    · exact h
  exact ⟨List.mem_cons_of_mem _ hw, bt_good hw⟩
theorem bt_S {c1 c2 : Cond} {own : String} {idx : Nat} {y : MethodName} (h2 : c2 ∈ bt) (a1 : Cond.methodLink own idx y ∈ bt) (a2 : Cond.static y ∈ bt) (a3 : Cond.initialized own ∈ bt) : GoodIn (c1 :: bt) (wsS own idx y (c2 :: bt)) := fun w h => by
  have hw : w ∈ bt := by
    simp only [wsS, List.cons_append, List.nil_append, List.mem_cons] at h
    rcases h with h | h | h | h | h
    · exact h ▸ a1
    · exact h ▸ a2
    · exact h ▸ a3
    · exact h ▸ h2
    · exact h
  exact ⟨List.mem_cons_of_mem _ hw, bt_good hw⟩
end
section
/-! ===== names: classes (RX StepHeap, RC Cells, RH Head, RM Mover, RP Page, RR the reference, RL the law), fields in the order of the slots, methods ===== -/
abbrev RX : String := "StepHeap"
abbrev RC : String := "StepHeap$Cells"
abbrev RH : String := "StepHeap$Head"
abbrev RM : String := "StepHeap$Mover"
abbrev RP : String := "StepHeap$Page"
abbrev RR : String := "StepHeapModel"
abbrev RL : String := "StepHeapLaw"
def TX : u_T := fun k => match k with
  | 0 => ("StepHeap", "cells", "LStepHeap$Cells;", true)
  | _ => ("StepHeap", "mover", "LStepHeap$Mover;", true)
def tyX : Nat → FieldType := fun k => match k with
  | 0 => .object "StepHeap$Cells"
  | _ => .object "StepHeap$Mover"
theorem nmX : ∀ a, a < 2 → ∀ b, b < 2 → a ≠ b → (TX a).2.1 ≠ (TX b).2.1 := by decide +kernel
theorem tyX_ok : ∀ k, k < 2 → parseFieldDescriptor (TX k).2.2.1 = some (tyX k) := by decide +kernel
theorem inX : ∀ w ∈ u_ws "StepHeap" TX 2, w ∈ bt := fun w h => List.mem_filter.mpr ((show ∀ w ∈ u_ws "StepHeap" TX 2, w ∈ lw_tbl ∧ goodWord w = true by decide +kernel) w h)
def TC : u_T := fun k => match k with
  | 0 => ("StepHeap$Cells", "pages", "[LStepHeap$Page;", true)
  | 1 => ("StepHeap$Cells", "last", "I", true)
  | 2 => ("StepHeap$Cells", "allowed", "I", true)
  | 3 => ("StepHeap$Cells", "touched", "I", false)
  | _ => ("StepHeap$Cells", "steady", "Z", false)
def tyC : Nat → FieldType := fun k => match k with
  | 0 => .array (.object "StepHeap$Page")
  | 1 => .int
  | 2 => .int
  | 3 => .int
  | _ => .boolean
theorem nmC : ∀ a, a < 5 → ∀ b, b < 5 → a ≠ b → (TC a).2.1 ≠ (TC b).2.1 := by decide +kernel
theorem tyC_ok : ∀ k, k < 5 → parseFieldDescriptor (TC k).2.2.1 = some (tyC k) := by decide +kernel
theorem inC : ∀ w ∈ u_ws "StepHeap$Cells" TC 5, w ∈ bt := fun w h => List.mem_filter.mpr ((show ∀ w ∈ u_ws "StepHeap$Cells" TC 5, w ∈ lw_tbl ∧ goodWord w = true by decide +kernel) w h)
def TM : u_T := fun k => match k with
  | 0 => ("StepHeap$Mover", "cells", "LStepHeap$Cells;", true)
  | 1 => ("StepHeap$Mover", "half", "I", true)
  | 2 => ("StepHeap$Mover", "k", "I", true)
  | 3 => ("StepHeap$Mover", "limit", "I", true)
  | 4 => ("StepHeap$Mover", "registers", "[I", true)
  | 5 => ("StepHeap$Mover", "made", "I", false)
  | 6 => ("StepHeap$Mover", "begun", "I", false)
  | 7 => ("StepHeap$Mover", "base", "I", false)
  | 8 => ("StepHeap$Mover", "free", "I", false)
  | 9 => ("StepHeap$Mover", "lowestMade", "I", false)
  | 10 => ("StepHeap$Mover", "scan", "I", false)
  | 11 => ("StepHeap$Mover", "tracedEnd", "I", false)
  | _ => ("StepHeap$Mover", "nextHead", "I", false)
def tyM : Nat → FieldType := fun k => match k with
  | 0 => .object "StepHeap$Cells"
  | 1 => .int
  | 2 => .int
  | 3 => .int
  | 4 => .array (.int)
  | 5 => .int
  | 6 => .int
  | 7 => .int
  | 8 => .int
  | 9 => .int
  | 10 => .int
  | 11 => .int
  | _ => .int
theorem nmM : ∀ a, a < 13 → ∀ b, b < 13 → a ≠ b → (TM a).2.1 ≠ (TM b).2.1 := by decide +kernel
theorem tyM_ok : ∀ k, k < 13 → parseFieldDescriptor (TM k).2.2.1 = some (tyM k) := by decide +kernel
theorem inM : ∀ w ∈ u_ws "StepHeap$Mover" TM 13, w ∈ bt := fun w h => List.mem_filter.mpr ((show ∀ w ∈ u_ws "StepHeap$Mover" TM 13, w ∈ lw_tbl ∧ goodWord w = true by decide +kernel) w h)
def TP : u_T := fun k => match k with
  | _ => ("StepHeap$Page", "row", "[I", true)
def tyP : Nat → FieldType := fun k => match k with
  | _ => .array (.int)
theorem nmP : ∀ a, a < 1 → ∀ b, b < 1 → a ≠ b → (TP a).2.1 ≠ (TP b).2.1 := by decide +kernel
theorem tyP_ok : ∀ k, k < 1 → parseFieldDescriptor (TP k).2.2.1 = some (tyP k) := by decide +kernel
theorem inP : ∀ w ∈ u_ws "StepHeap$Page" TP 1, w ∈ bt := fun w h => List.mem_filter.mpr ((show ∀ w ∈ u_ws "StepHeap$Page" TP 1, w ∈ lw_tbl ∧ goodWord w = true by decide +kernel) w h)
def TR : u_T := fun k => match k with
  | 0 => ("StepHeapModel", "k", "I", true)
  | 1 => ("StepHeapModel", "limit", "I", true)
  | 2 => ("StepHeapModel", "kind", "[B", true)
  | 3 => ("StepHeapModel", "refs", "[B", true)
  | 4 => ("StepHeapModel", "ints", "[B", true)
  | 5 => ("StepHeapModel", "length", "[S", true)
  | 6 => ("StepHeapModel", "ofRefs", "[Z", true)
  | 7 => ("StepHeapModel", "row", "[I", true)
  | 8 => ("StepHeapModel", "objects", "I", false)
  | 9 => ("StepHeapModel", "back", "[I", true)
  | 10 => ("StepHeapModel", "given", "I", false)
  | 11 => ("StepHeapModel", "register", "[I", true)
  | 12 => ("StepHeapModel", "cycles", "I", false)
  | 13 => ("StepHeapModel", "reached", "I", false)
  | 14 => ("StepHeapModel", "made", "J", false)
  | 15 => ("StepHeapModel", "mark", "[Z", true)
  | 16 => ("StepHeapModel", "pile", "[I", true)
  | 17 => ("StepHeapModel", "pushed", "I", false)
  | 18 => ("StepHeapModel", "gap", "I", false)
  | _ => ("StepHeapModel", "gapIsLast", "Z", false)
def tyR : Nat → FieldType := fun k => match k with
  | 0 => .int
  | 1 => .int
  | 2 => .array (.byte)
  | 3 => .array (.byte)
  | 4 => .array (.byte)
  | 5 => .array (.short)
  | 6 => .array (.boolean)
  | 7 => .array (.int)
  | 8 => .int
  | 9 => .array (.int)
  | 10 => .int
  | 11 => .array (.int)
  | 12 => .int
  | 13 => .int
  | 14 => .long
  | 15 => .array (.boolean)
  | 16 => .array (.int)
  | 17 => .int
  | 18 => .int
  | _ => .boolean
theorem nmR : ∀ a, a < 20 → ∀ b, b < 20 → a ≠ b → (TR a).2.1 ≠ (TR b).2.1 := by decide +kernel
theorem tyR_ok : ∀ k, k < 20 → parseFieldDescriptor (TR k).2.2.1 = some (tyR k) := by decide +kernel
theorem inR : ∀ w ∈ u_ws "StepHeapModel" TR 20, w ∈ bt := fun w h => List.mem_filter.mpr ((show ∀ w ∈ u_ws "StepHeapModel" TR 20, w ∈ lw_tbl ∧ goodWord w = true by decide +kernel) w h)
abbrev b_X_init : ByteArray := prog_1_method_1_code
abbrev y_X_init : MethodName := ⟨"StepHeap", "<init>", "(II)V"⟩
abbrev b_M_init : ByteArray := prog_4_method_1_code
abbrev y_M_init : MethodName := ⟨"StepHeap$Mover", "<init>", "(III)V"⟩
abbrev b_C_init : ByteArray := prog_2_method_1_code
abbrev y_C_init : MethodName := ⟨"StepHeap$Cells", "<init>", "(II)V"⟩
abbrev b_M_useHalf : ByteArray := prog_4_method_10_code
abbrev y_M_useHalf : MethodName := ⟨"StepHeap$Mover", "useHalf", "(I)V"⟩
abbrev b_X_make : ByteArray := prog_1_method_2_code
abbrev y_X_make : MethodName := ⟨"StepHeap", "make", "(III)I"⟩
abbrev b_X_isRegister : ByteArray := prog_1_method_18_code
abbrev y_X_isRegister : MethodName := ⟨"StepHeap", "isRegister", "(I)Z"⟩
abbrev b_X_isBelow : ByteArray := prog_1_method_19_code
abbrev y_X_isBelow : MethodName := ⟨"StepHeap", "isBelow", "(II)Z"⟩
abbrev b_X_isShape : ByteArray := prog_1_method_20_code
abbrev y_X_isShape : MethodName := ⟨"StepHeap", "isShape", "(II)Z"⟩
abbrev b_H_ofObject : ByteArray := prog_3_method_2_code
abbrev y_H_ofObject : MethodName := ⟨"StepHeap$Head", "ofObject", "(II)I"⟩
abbrev b_X_fillRegister : ByteArray := prog_1_method_21_code
abbrev y_X_fillRegister : MethodName := ⟨"StepHeap", "fillRegister", "(II)I"⟩
abbrev b_C_startCall : ByteArray := prog_2_method_2_code
abbrev y_C_startCall : MethodName := ⟨"StepHeap$Cells", "startCall", "()V"⟩
abbrev b_H_cells : ByteArray := prog_3_method_7_code
abbrev y_H_cells : MethodName := ⟨"StepHeap$Head", "cells", "(I)I"⟩
abbrev b_H_traced : ByteArray := prog_3_method_5_code
abbrev y_H_traced : MethodName := ⟨"StepHeap$Head", "traced", "(I)I"⟩
abbrev b_H_plain : ByteArray := prog_3_method_6_code
abbrev y_H_plain : MethodName := ⟨"StepHeap$Head", "plain", "(I)I"⟩
abbrev b_M_hasRoom : ByteArray := prog_4_method_6_code
abbrev y_M_hasRoom : MethodName := ⟨"StepHeap$Mover", "hasRoom", "(I)Z"⟩
abbrev b_M_isDone : ByteArray := prog_4_method_5_code
abbrev y_M_isDone : MethodName := ⟨"StepHeap$Mover", "isDone", "()Z"⟩
abbrev b_M_moved : ByteArray := prog_4_method_4_code
abbrev y_M_moved : MethodName := ⟨"StepHeap$Mover", "moved", "()I"⟩
abbrev b_M_beginCycle : ByteArray := prog_4_method_11_code
abbrev y_M_beginCycle : MethodName := ⟨"StepHeap$Mover", "beginCycle", "()V"⟩
abbrev b_M_placeInUse : ByteArray := prog_4_method_13_code
abbrev y_M_placeInUse : MethodName := ⟨"StepHeap$Mover", "placeInUse", "(I)I"⟩
abbrev b_M_isOld : ByteArray := prog_4_method_12_code
abbrev y_M_isOld : MethodName := ⟨"StepHeap$Mover", "isOld", "(I)Z"⟩
abbrev b_C_read : ByteArray := prog_2_method_3_code
abbrev y_C_read : MethodName := ⟨"StepHeap$Cells", "read", "(I)I"⟩
abbrev b_C_touch : ByteArray := prog_2_method_5_code
abbrev y_C_touch : MethodName := ⟨"StepHeap$Cells", "touch", "()V"⟩
abbrev b_C_write : ByteArray := prog_2_method_4_code
abbrev y_C_write : MethodName := ⟨"StepHeap$Cells", "write", "(II)V"⟩
abbrev b_P_init : ByteArray := prog_5_method_1_code
abbrev y_P_init : MethodName := ⟨"StepHeap$Page", "<init>", "()V"⟩
abbrev b_M_place : ByteArray := prog_4_method_7_code
abbrev y_M_place : MethodName := ⟨"StepHeap$Mover", "place", "(I)I"⟩
abbrev b_M_work : ByteArray := prog_4_method_14_code
abbrev y_M_work : MethodName := ⟨"StepHeap$Mover", "work", "()V"⟩
abbrev b_M_setRegister : ByteArray := prog_4_method_3_code
abbrev y_M_setRegister : MethodName := ⟨"StepHeap$Mover", "setRegister", "(II)V"⟩
abbrev b_X_array : ByteArray := prog_1_method_3_code
abbrev y_X_array : MethodName := ⟨"StepHeap", "array", "(IIZ)I"⟩
abbrev b_H_ofArray : ByteArray := prog_3_method_4_code
abbrev y_H_ofArray : MethodName := ⟨"StepHeap$Head", "ofArray", "(IZ)I"⟩
abbrev b_H_ofNode : ByteArray := prog_3_method_3_code
abbrev y_H_ofNode : MethodName := ⟨"StepHeap$Head", "ofNode", "(Z)I"⟩
abbrev b_X_get : ByteArray := prog_1_method_4_code
abbrev y_X_get : MethodName := ⟨"StepHeap", "get", "(III)Z"⟩
abbrev b_X_headOf : ByteArray := prog_1_method_22_code
abbrev y_X_headOf : MethodName := ⟨"StepHeap", "headOf", "(I)I"⟩
abbrev b_M_register : ByteArray := prog_4_method_2_code
abbrev y_M_register : MethodName := ⟨"StepHeap$Mover", "register", "(I)I"⟩
abbrev b_H_references : ByteArray := prog_3_method_10_code
abbrev y_H_references : MethodName := ⟨"StepHeap$Head", "references", "(I)I"⟩
abbrev b_H_isArray : ByteArray := prog_3_method_8_code
abbrev y_H_isArray : MethodName := ⟨"StepHeap$Head", "isArray", "(I)Z"⟩
abbrev b_X_referenceCell : ByteArray := prog_1_method_23_code
abbrev y_X_referenceCell : MethodName := ⟨"StepHeap", "referenceCell", "(II)I"⟩
abbrev b_M_follow : ByteArray := prog_4_method_8_code
abbrev y_M_follow : MethodName := ⟨"StepHeap$Mover", "follow", "(I)I"⟩
abbrev b_X_put : ByteArray := prog_1_method_5_code
abbrev y_X_put : MethodName := ⟨"StepHeap", "put", "(III)Z"⟩
abbrev b_M_link : ByteArray := prog_4_method_9_code
abbrev y_M_link : MethodName := ⟨"StepHeap$Mover", "link", "(II)V"⟩
abbrev b_X_look : ByteArray := prog_1_method_6_code
abbrev y_X_look : MethodName := ⟨"StepHeap", "look", "(II)J"⟩
abbrev b_H_ints : ByteArray := prog_3_method_11_code
abbrev y_H_ints : MethodName := ⟨"StepHeap$Head", "ints", "(I)I"⟩
abbrev b_X_intCell : ByteArray := prog_1_method_24_code
abbrev y_X_intCell : MethodName := ⟨"StepHeap", "intCell", "(III)I"⟩
abbrev b_X_set : ByteArray := prog_1_method_7_code
abbrev y_X_set : MethodName := ⟨"StepHeap", "set", "(III)Z"⟩
abbrev b_X_getItem : ByteArray := prog_1_method_8_code
abbrev y_X_getItem : MethodName := ⟨"StepHeap", "getItem", "(III)Z"⟩
abbrev b_H_items : ByteArray := prog_3_method_13_code
abbrev y_H_items : MethodName := ⟨"StepHeap$Head", "items", "(IZ)I"⟩
abbrev b_H_hasReferenceItems : ByteArray := prog_3_method_9_code
abbrev y_H_hasReferenceItems : MethodName := ⟨"StepHeap$Head", "hasReferenceItems", "(I)Z"⟩
abbrev b_H_length : ByteArray := prog_3_method_12_code
abbrev y_H_length : MethodName := ⟨"StepHeap$Head", "length", "(I)I"⟩
abbrev b_X_levelOfGap : ByteArray := prog_1_method_26_code
abbrev y_X_levelOfGap : MethodName := ⟨"StepHeap", "levelOfGap", "(III)I"⟩
abbrev b_H_height : ByteArray := prog_3_method_14_code
abbrev y_H_height : MethodName := ⟨"StepHeap$Head", "height", "(I)I"⟩
abbrev b_X_slot : ByteArray := prog_1_method_28_code
abbrev y_X_slot : MethodName := ⟨"StepHeap", "slot", "(II)I"⟩
abbrev b_X_cellOnWay : ByteArray := prog_1_method_27_code
abbrev y_X_cellOnWay : MethodName := ⟨"StepHeap", "cellOnWay", "(IIII)I"⟩
abbrev b_X_putItem : ByteArray := prog_1_method_9_code
abbrev y_X_putItem : MethodName := ⟨"StepHeap", "putItem", "(III)I"⟩
abbrev b_X_openWay : ByteArray := prog_1_method_25_code
abbrev y_X_openWay : MethodName := ⟨"StepHeap", "openWay", "(III)I"⟩
abbrev b_X_lookItem : ByteArray := prog_1_method_10_code
abbrev y_X_lookItem : MethodName := ⟨"StepHeap", "lookItem", "(II)J"⟩
abbrev b_X_setItem : ByteArray := prog_1_method_11_code
abbrev y_X_setItem : MethodName := ⟨"StepHeap", "setItem", "(III)I"⟩
abbrev b_X_copy : ByteArray := prog_1_method_12_code
abbrev y_X_copy : MethodName := ⟨"StepHeap", "copy", "(II)Z"⟩
abbrev b_X_drop : ByteArray := prog_1_method_13_code
abbrev y_X_drop : MethodName := ⟨"StepHeap", "drop", "(I)Z"⟩
abbrev b_X_same : ByteArray := prog_1_method_14_code
abbrev y_X_same : MethodName := ⟨"StepHeap", "same", "(II)Z"⟩
abbrev b_X_size : ByteArray := prog_1_method_15_code
abbrev y_X_size : MethodName := ⟨"StepHeap", "size", "(II)I"⟩
abbrev b_X_told : ByteArray := prog_1_method_16_code
abbrev y_X_told : MethodName := ⟨"StepHeap", "told", "(I)I"⟩
abbrev b_X_steady : ByteArray := prog_1_method_17_code
abbrev y_X_steady : MethodName := ⟨"StepHeap", "steady", "()Z"⟩
abbrev b_L_cell : ByteArray := method_2_code
abbrev y_L_cell : MethodName := ⟨"StepHeapLaw", "cell", "([II)I"⟩
abbrev b_R_init : ByteArray := prog_7_method_1_code
abbrev y_R_init : MethodName := ⟨"StepHeapModel", "<init>", "(II)V"⟩
abbrev b_R_make : ByteArray := prog_7_method_9_code
abbrev y_R_make : MethodName := ⟨"StepHeapModel", "make", "(III)I"⟩
abbrev b_R_isRegister : ByteArray := prog_7_method_2_code
abbrev y_R_isRegister : MethodName := ⟨"StepHeapModel", "isRegister", "(I)Z"⟩
abbrev b_R_hasRoom : ByteArray := prog_7_method_7_code
abbrev y_R_hasRoom : MethodName := ⟨"StepHeapModel", "hasRoom", "(I)Z"⟩
abbrev b_R_isDone : ByteArray := prog_7_method_6_code
abbrev y_R_isDone : MethodName := ⟨"StepHeapModel", "isDone", "()Z"⟩
abbrev b_R_goOver : ByteArray := prog_7_method_5_code
abbrev y_R_goOver : MethodName := ⟨"StepHeapModel", "goOver", "()I"⟩
abbrev b_R_reach : ByteArray := prog_7_method_4_code
abbrev y_R_reach : MethodName := ⟨"StepHeapModel", "reach", "(I)V"⟩
abbrev b_R_cells : ByteArray := prog_7_method_3_code
abbrev y_R_cells : MethodName := ⟨"StepHeapModel", "cells", "(I)I"⟩
abbrev b_R_add : ByteArray := prog_7_method_8_code
abbrev y_R_add : MethodName := ⟨"StepHeapModel", "add", "(III)I"⟩
abbrev b_R_array : ByteArray := prog_7_method_11_code
abbrev y_R_array : MethodName := ⟨"StepHeapModel", "array", "(IIZ)I"⟩
abbrev b_R_levels : ByteArray := prog_7_method_10_code
abbrev y_R_levels : MethodName := ⟨"StepHeapModel", "levels", "(I)I"⟩
abbrev b_R_get : ByteArray := prog_7_method_13_code
abbrev y_R_get : MethodName := ⟨"StepHeapModel", "get", "(III)Z"⟩
abbrev b_R_field : ByteArray := prog_7_method_12_code
abbrev y_R_field : MethodName := ⟨"StepHeapModel", "field", "(IIZ)I"⟩
abbrev b_R_put : ByteArray := prog_7_method_14_code
abbrev y_R_put : MethodName := ⟨"StepHeapModel", "put", "(III)Z"⟩
abbrev b_R_look : ByteArray := prog_7_method_15_code
abbrev y_R_look : MethodName := ⟨"StepHeapModel", "look", "(II)J"⟩
abbrev b_R_set : ByteArray := prog_7_method_16_code
abbrev y_R_set : MethodName := ⟨"StepHeapModel", "set", "(III)Z"⟩
abbrev b_R_getItem : ByteArray := prog_7_method_20_code
abbrev y_R_getItem : MethodName := ⟨"StepHeapModel", "getItem", "(III)Z"⟩
abbrev b_R_hasItem : ByteArray := prog_7_method_17_code
abbrev y_R_hasItem : MethodName := ⟨"StepHeapModel", "hasItem", "(IIZ)Z"⟩
abbrev b_R_item : ByteArray := prog_7_method_18_code
abbrev y_R_item : MethodName := ⟨"StepHeapModel", "item", "(II)I"⟩
abbrev b_R_putItem : ByteArray := prog_7_method_21_code
abbrev y_R_putItem : MethodName := ⟨"StepHeapModel", "putItem", "(III)I"⟩
abbrev b_R_fill : ByteArray := prog_7_method_19_code
abbrev y_R_fill : MethodName := ⟨"StepHeapModel", "fill", "(Z)I"⟩
abbrev b_R_lookItem : ByteArray := prog_7_method_22_code
abbrev y_R_lookItem : MethodName := ⟨"StepHeapModel", "lookItem", "(II)J"⟩
abbrev b_R_setItem : ByteArray := prog_7_method_23_code
abbrev y_R_setItem : MethodName := ⟨"StepHeapModel", "setItem", "(III)I"⟩
abbrev b_R_copy : ByteArray := prog_7_method_24_code
abbrev y_R_copy : MethodName := ⟨"StepHeapModel", "copy", "(II)Z"⟩
abbrev b_R_drop : ByteArray := prog_7_method_25_code
abbrev y_R_drop : MethodName := ⟨"StepHeapModel", "drop", "(I)Z"⟩
abbrev b_R_same : ByteArray := prog_7_method_26_code
abbrev y_R_same : MethodName := ⟨"StepHeapModel", "same", "(II)Z"⟩
abbrev b_R_size : ByteArray := prog_7_method_27_code
abbrev y_R_size : MethodName := ⟨"StepHeapModel", "size", "(II)I"⟩
abbrev b_R_told : ByteArray := prog_7_method_28_code
abbrev y_R_told : MethodName := ⟨"StepHeapModel", "told", "(I)I"⟩
abbrev b_R_steady : ByteArray := prog_7_method_29_code
abbrev y_R_steady : MethodName := ⟨"StepHeapModel", "steady", "()Z"⟩
abbrev b_L_law : ByteArray := code
abbrev y_L_law : MethodName := ⟨"StepHeapLaw", "law", "([I)Z"⟩
abbrev vwC : List vw_C := [("StepHeap", TX, 2), ("StepHeap$Cells", TC, 5), ("StepHeap$Mover", TM, 13), ("StepHeap$Page", TP, 1), ("StepHeapModel", TR, 20)]
end
section
/-! ===== decode rows of StepHeap ===== -/
theorem d_X_init_0 : decode b_X_init 0 = .ok (.aload_n 0, 1) := by decide +kernel
theorem d_X_init_1 : decode b_X_init 1 = .ok (.invokespecial 5, 3) := by decide +kernel
theorem d_X_init_4 : decode b_X_init 4 = .ok (.sipush 1024, 3) := by decide +kernel
theorem d_X_init_7 : decode b_X_init 7 = .ok (.ldc 11, 2) := by decide +kernel
theorem d_X_init_9 : decode b_X_init 9 = .ok (.iload_n 1, 1) := by decide +kernel
theorem d_X_init_10 : decode b_X_init 10 = .ok (.invokestatic 12, 3) := by decide +kernel
theorem d_X_init_13 : decode b_X_init 13 = .ok (.invokestatic 18, 3) := by decide +kernel
theorem d_X_init_16 : decode b_X_init 16 = .ok (.istore_n 3, 1) := by decide +kernel
theorem d_X_init_17 : decode b_X_init 17 = .ok (.iconst 1, 1) := by decide +kernel
theorem d_X_init_18 : decode b_X_init 18 = .ok (.bipush 64, 2) := by decide +kernel
theorem d_X_init_20 : decode b_X_init 20 = .ok (.iload_n 2, 1) := by decide +kernel
theorem d_X_init_21 : decode b_X_init 21 = .ok (.invokestatic 12, 3) := by decide +kernel
theorem d_X_init_24 : decode b_X_init 24 = .ok (.invokestatic 18, 3) := by decide +kernel
theorem d_X_init_27 : decode b_X_init 27 = .ok (.istore 4, 2) := by decide +kernel
theorem d_X_init_29 : decode b_X_init 29 = .ok (.iconst 2, 1) := by decide +kernel
theorem d_X_init_30 : decode b_X_init 30 = .ok (.iload_n 3, 1) := by decide +kernel
theorem d_X_init_31 : decode b_X_init 31 = .ok (.imul, 1) := by decide +kernel
theorem d_X_init_32 : decode b_X_init 32 = .ok (.bipush 64, 2) := by decide +kernel
theorem d_X_init_34 : decode b_X_init 34 = .ok (.iadd, 1) := by decide +kernel
theorem d_X_init_35 : decode b_X_init 35 = .ok (.istore 5, 2) := by decide +kernel
theorem d_X_init_37 : decode b_X_init 37 = .ok (.aload_n 0, 1) := by decide +kernel
theorem d_X_init_38 : decode b_X_init 38 = .ok (.new 21, 3) := by decide +kernel
theorem d_X_init_41 : decode b_X_init 41 = .ok (.dup, 1) := by decide +kernel
theorem d_X_init_42 : decode b_X_init 42 = .ok (.iload 5, 2) := by decide +kernel
theorem d_X_init_44 : decode b_X_init 44 = .ok (.iload 4, 2) := by decide +kernel
theorem d_X_init_46 : decode b_X_init 46 = .ok (.iload_n 3, 1) := by decide +kernel
theorem d_X_init_47 : decode b_X_init 47 = .ok (.iload 4, 2) := by decide +kernel
theorem d_X_init_49 : decode b_X_init 49 = .ok (.imul, 1) := by decide +kernel
theorem d_X_init_50 : decode b_X_init 50 = .ok (.iload 4, 2) := by decide +kernel
theorem d_X_init_52 : decode b_X_init 52 = .ok (.iconst 1, 1) := by decide +kernel
theorem d_X_init_53 : decode b_X_init 53 = .ok (.iadd, 1) := by decide +kernel
theorem d_X_init_54 : decode b_X_init 54 = .ok (.idiv, 1) := by decide +kernel
theorem d_X_init_55 : decode b_X_init 55 = .ok (.invokespecial 23, 3) := by decide +kernel
theorem d_X_init_58 : decode b_X_init 58 = .ok (.putfield 26, 3) := by decide +kernel
theorem d_X_init_61 : decode b_X_init 61 = .ok (.aload_n 0, 1) := by decide +kernel
theorem d_X_init_62 : decode b_X_init 62 = .ok (.aload_n 0, 1) := by decide +kernel
theorem d_X_init_63 : decode b_X_init 63 = .ok (.getfield 26, 3) := by decide +kernel
theorem d_X_init_66 : decode b_X_init 66 = .ok (.getfield 30, 3) := by decide +kernel
theorem d_X_init_69 : decode b_X_init 69 = .ok (.putfield 34, 3) := by decide +kernel
theorem d_X_init_72 : decode b_X_init 72 = .ok (.return_, 1) := by decide +kernel
theorem d_X_make_0 : decode b_X_make 0 = .ok (.iload_n 1, 1) := by decide +kernel
theorem d_X_make_1 : decode b_X_make 1 = .ok (.invokestatic 35, 3) := by decide +kernel
theorem d_X_make_4 : decode b_X_make 4 = .ok (.ifCond .eq 11, 3) := by decide +kernel
theorem d_X_make_7 : decode b_X_make 7 = .ok (.iload_n 2, 1) := by decide +kernel
theorem d_X_make_8 : decode b_X_make 8 = .ok (.iload_n 3, 1) := by decide +kernel
theorem d_X_make_9 : decode b_X_make 9 = .ok (.invokestatic 39, 3) := by decide +kernel
theorem d_X_make_12 : decode b_X_make 12 = .ok (.ifCond .ne 5, 3) := by decide +kernel
theorem d_X_make_15 : decode b_X_make 15 = .ok (.iconst (-1), 1) := by decide +kernel
theorem d_X_make_16 : decode b_X_make 16 = .ok (.ireturn, 1) := by decide +kernel
theorem d_X_make_17 : decode b_X_make 17 = .ok (.aload_n 0, 1) := by decide +kernel
theorem d_X_make_18 : decode b_X_make 18 = .ok (.iload_n 1, 1) := by decide +kernel
theorem d_X_make_19 : decode b_X_make 19 = .ok (.iload_n 2, 1) := by decide +kernel
theorem d_X_make_20 : decode b_X_make 20 = .ok (.iload_n 3, 1) := by decide +kernel
theorem d_X_make_21 : decode b_X_make 21 = .ok (.invokestatic 43, 3) := by decide +kernel
theorem d_X_make_24 : decode b_X_make 24 = .ok (.invokevirtual 48, 3) := by decide +kernel
theorem d_X_make_27 : decode b_X_make 27 = .ok (.ireturn, 1) := by decide +kernel
theorem d_X_array_0 : decode b_X_array 0 = .ok (.iload_n 1, 1) := by decide +kernel
theorem d_X_array_1 : decode b_X_array 1 = .ok (.invokestatic 35, 3) := by decide +kernel
theorem d_X_array_4 : decode b_X_array 4 = .ok (.ifCond .eq 14, 3) := by decide +kernel
theorem d_X_array_7 : decode b_X_array 7 = .ok (.iload_n 2, 1) := by decide +kernel
theorem d_X_array_8 : decode b_X_array 8 = .ok (.ifCond .lt 10, 3) := by decide +kernel
theorem d_X_array_11 : decode b_X_array 11 = .ok (.iload_n 2, 1) := by decide +kernel
theorem d_X_array_12 : decode b_X_array 12 = .ok (.sipush 3375, 3) := by decide +kernel
theorem d_X_array_15 : decode b_X_array 15 = .ok (.if_icmp .le 5, 3) := by decide +kernel
theorem d_X_array_18 : decode b_X_array 18 = .ok (.iconst (-1), 1) := by decide +kernel
theorem d_X_array_19 : decode b_X_array 19 = .ok (.ireturn, 1) := by decide +kernel
theorem d_X_array_20 : decode b_X_array 20 = .ok (.aload_n 0, 1) := by decide +kernel
theorem d_X_array_21 : decode b_X_array 21 = .ok (.iload_n 1, 1) := by decide +kernel
theorem d_X_array_22 : decode b_X_array 22 = .ok (.iload_n 2, 1) := by decide +kernel
theorem d_X_array_23 : decode b_X_array 23 = .ok (.iload_n 3, 1) := by decide +kernel
theorem d_X_array_24 : decode b_X_array 24 = .ok (.invokestatic 51, 3) := by decide +kernel
theorem d_X_array_27 : decode b_X_array 27 = .ok (.invokevirtual 48, 3) := by decide +kernel
theorem d_X_array_30 : decode b_X_array 30 = .ok (.ireturn, 1) := by decide +kernel
theorem d_X_get_0 : decode b_X_get 0 = .ok (.aload_n 0, 1) := by decide +kernel
theorem d_X_get_1 : decode b_X_get 1 = .ok (.iload_n 2, 1) := by decide +kernel
theorem d_X_get_2 : decode b_X_get 2 = .ok (.invokevirtual 55, 3) := by decide +kernel
theorem d_X_get_5 : decode b_X_get 5 = .ok (.istore 4, 2) := by decide +kernel
theorem d_X_get_7 : decode b_X_get 7 = .ok (.iload_n 1, 1) := by decide +kernel
theorem d_X_get_8 : decode b_X_get 8 = .ok (.invokestatic 35, 3) := by decide +kernel
theorem d_X_get_11 : decode b_X_get 11 = .ok (.ifCond .eq 15, 3) := by decide +kernel
theorem d_X_get_14 : decode b_X_get 14 = .ok (.iload_n 3, 1) := by decide +kernel
theorem d_X_get_15 : decode b_X_get 15 = .ok (.iload 4, 2) := by decide +kernel
theorem d_X_get_17 : decode b_X_get 17 = .ok (.invokestatic 59, 3) := by decide +kernel
theorem d_X_get_20 : decode b_X_get 20 = .ok (.invokestatic 62, 3) := by decide +kernel
theorem d_X_get_23 : decode b_X_get 23 = .ok (.ifCond .ne 5, 3) := by decide +kernel
theorem d_X_get_26 : decode b_X_get 26 = .ok (.iconst 0, 1) := by decide +kernel
theorem d_X_get_27 : decode b_X_get 27 = .ok (.ireturn, 1) := by decide +kernel
theorem d_X_get_28 : decode b_X_get 28 = .ok (.aload_n 0, 1) := by decide +kernel
theorem d_X_get_29 : decode b_X_get 29 = .ok (.getfield 26, 3) := by decide +kernel
theorem d_X_get_32 : decode b_X_get 32 = .ok (.iload_n 1, 1) := by decide +kernel
theorem d_X_get_33 : decode b_X_get 33 = .ok (.aload_n 0, 1) := by decide +kernel
theorem d_X_get_34 : decode b_X_get 34 = .ok (.getfield 26, 3) := by decide +kernel
theorem d_X_get_37 : decode b_X_get 37 = .ok (.aload_n 0, 1) := by decide +kernel
theorem d_X_get_38 : decode b_X_get 38 = .ok (.iload_n 2, 1) := by decide +kernel
theorem d_X_get_39 : decode b_X_get 39 = .ok (.iload_n 3, 1) := by decide +kernel
theorem d_X_get_40 : decode b_X_get 40 = .ok (.invokevirtual 65, 3) := by decide +kernel
theorem d_X_get_43 : decode b_X_get 43 = .ok (.invokevirtual 68, 3) := by decide +kernel
theorem d_X_get_46 : decode b_X_get 46 = .ok (.invokevirtual 71, 3) := by decide +kernel
theorem d_X_get_49 : decode b_X_get 49 = .ok (.iconst 1, 1) := by decide +kernel
theorem d_X_get_50 : decode b_X_get 50 = .ok (.ireturn, 1) := by decide +kernel
theorem d_X_put_0 : decode b_X_put 0 = .ok (.aload_n 0, 1) := by decide +kernel
theorem d_X_put_1 : decode b_X_put 1 = .ok (.iload_n 1, 1) := by decide +kernel
theorem d_X_put_2 : decode b_X_put 2 = .ok (.invokevirtual 55, 3) := by decide +kernel
theorem d_X_put_5 : decode b_X_put 5 = .ok (.istore 4, 2) := by decide +kernel
theorem d_X_put_7 : decode b_X_put 7 = .ok (.iload_n 3, 1) := by decide +kernel
theorem d_X_put_8 : decode b_X_put 8 = .ok (.invokestatic 35, 3) := by decide +kernel
theorem d_X_put_11 : decode b_X_put 11 = .ok (.ifCond .eq 15, 3) := by decide +kernel
theorem d_X_put_14 : decode b_X_put 14 = .ok (.iload_n 2, 1) := by decide +kernel
theorem d_X_put_15 : decode b_X_put 15 = .ok (.iload 4, 2) := by decide +kernel
theorem d_X_put_17 : decode b_X_put 17 = .ok (.invokestatic 59, 3) := by decide +kernel
theorem d_X_put_20 : decode b_X_put 20 = .ok (.invokestatic 62, 3) := by decide +kernel
theorem d_X_put_23 : decode b_X_put 23 = .ok (.ifCond .ne 5, 3) := by decide +kernel
theorem d_X_put_26 : decode b_X_put 26 = .ok (.iconst 0, 1) := by decide +kernel
theorem d_X_put_27 : decode b_X_put 27 = .ok (.ireturn, 1) := by decide +kernel
theorem d_X_put_28 : decode b_X_put 28 = .ok (.aload_n 0, 1) := by decide +kernel
theorem d_X_put_29 : decode b_X_put 29 = .ok (.getfield 26, 3) := by decide +kernel
theorem d_X_put_32 : decode b_X_put 32 = .ok (.aload_n 0, 1) := by decide +kernel
theorem d_X_put_33 : decode b_X_put 33 = .ok (.iload_n 1, 1) := by decide +kernel
theorem d_X_put_34 : decode b_X_put 34 = .ok (.iload_n 2, 1) := by decide +kernel
theorem d_X_put_35 : decode b_X_put 35 = .ok (.invokevirtual 65, 3) := by decide +kernel
theorem d_X_put_38 : decode b_X_put 38 = .ok (.aload_n 0, 1) := by decide +kernel
theorem d_X_put_39 : decode b_X_put 39 = .ok (.getfield 26, 3) := by decide +kernel
theorem d_X_put_42 : decode b_X_put 42 = .ok (.iload_n 3, 1) := by decide +kernel
theorem d_X_put_43 : decode b_X_put 43 = .ok (.invokevirtual 75, 3) := by decide +kernel
theorem d_X_put_46 : decode b_X_put 46 = .ok (.invokevirtual 78, 3) := by decide +kernel
theorem d_X_put_49 : decode b_X_put 49 = .ok (.iconst 1, 1) := by decide +kernel
theorem d_X_put_50 : decode b_X_put 50 = .ok (.ireturn, 1) := by decide +kernel
theorem d_X_look_0 : decode b_X_look 0 = .ok (.aload_n 0, 1) := by decide +kernel
theorem d_X_look_1 : decode b_X_look 1 = .ok (.iload_n 1, 1) := by decide +kernel
theorem d_X_look_2 : decode b_X_look 2 = .ok (.invokevirtual 55, 3) := by decide +kernel
theorem d_X_look_5 : decode b_X_look 5 = .ok (.istore_n 3, 1) := by decide +kernel
theorem d_X_look_6 : decode b_X_look 6 = .ok (.iload_n 2, 1) := by decide +kernel
theorem d_X_look_7 : decode b_X_look 7 = .ok (.iload_n 3, 1) := by decide +kernel
theorem d_X_look_8 : decode b_X_look 8 = .ok (.invokestatic 81, 3) := by decide +kernel
theorem d_X_look_11 : decode b_X_look 11 = .ok (.invokestatic 62, 3) := by decide +kernel
theorem d_X_look_14 : decode b_X_look 14 = .ok (.ifCond .ne 7, 3) := by decide +kernel
theorem d_X_look_17 : decode b_X_look 17 = .ok (.ldc2_w 84, 3) := by decide +kernel
theorem d_X_look_20 : decode b_X_look 20 = .ok (.lreturn, 1) := by decide +kernel
theorem d_X_look_21 : decode b_X_look 21 = .ok (.aload_n 0, 1) := by decide +kernel
theorem d_X_look_22 : decode b_X_look 22 = .ok (.getfield 34, 3) := by decide +kernel
theorem d_X_look_25 : decode b_X_look 25 = .ok (.aload_n 0, 1) := by decide +kernel
theorem d_X_look_26 : decode b_X_look 26 = .ok (.iload_n 1, 1) := by decide +kernel
theorem d_X_look_27 : decode b_X_look 27 = .ok (.iload_n 3, 1) := by decide +kernel
theorem d_X_look_28 : decode b_X_look 28 = .ok (.iload_n 2, 1) := by decide +kernel
theorem d_X_look_29 : decode b_X_look 29 = .ok (.invokevirtual 86, 3) := by decide +kernel
theorem d_X_look_32 : decode b_X_look 32 = .ok (.invokevirtual 90, 3) := by decide +kernel
theorem d_X_look_35 : decode b_X_look 35 = .ok (.i2l, 1) := by decide +kernel
theorem d_X_look_36 : decode b_X_look 36 = .ok (.lreturn, 1) := by decide +kernel
theorem d_X_set_0 : decode b_X_set 0 = .ok (.aload_n 0, 1) := by decide +kernel
theorem d_X_set_1 : decode b_X_set 1 = .ok (.iload_n 1, 1) := by decide +kernel
theorem d_X_set_2 : decode b_X_set 2 = .ok (.invokevirtual 55, 3) := by decide +kernel
theorem d_X_set_5 : decode b_X_set 5 = .ok (.istore 4, 2) := by decide +kernel
theorem d_X_set_7 : decode b_X_set 7 = .ok (.iload_n 2, 1) := by decide +kernel
theorem d_X_set_8 : decode b_X_set 8 = .ok (.iload 4, 2) := by decide +kernel
theorem d_X_set_10 : decode b_X_set 10 = .ok (.invokestatic 81, 3) := by decide +kernel
theorem d_X_set_13 : decode b_X_set 13 = .ok (.invokestatic 62, 3) := by decide +kernel
theorem d_X_set_16 : decode b_X_set 16 = .ok (.ifCond .ne 5, 3) := by decide +kernel
theorem d_X_set_19 : decode b_X_set 19 = .ok (.iconst 0, 1) := by decide +kernel
theorem d_X_set_20 : decode b_X_set 20 = .ok (.ireturn, 1) := by decide +kernel
theorem d_X_set_21 : decode b_X_set 21 = .ok (.aload_n 0, 1) := by decide +kernel
theorem d_X_set_22 : decode b_X_set 22 = .ok (.getfield 34, 3) := by decide +kernel
theorem d_X_set_25 : decode b_X_set 25 = .ok (.aload_n 0, 1) := by decide +kernel
theorem d_X_set_26 : decode b_X_set 26 = .ok (.iload_n 1, 1) := by decide +kernel
theorem d_X_set_27 : decode b_X_set 27 = .ok (.iload 4, 2) := by decide +kernel
theorem d_X_set_29 : decode b_X_set 29 = .ok (.iload_n 2, 1) := by decide +kernel
theorem d_X_set_30 : decode b_X_set 30 = .ok (.invokevirtual 86, 3) := by decide +kernel
theorem d_X_set_33 : decode b_X_set 33 = .ok (.iload_n 3, 1) := by decide +kernel
theorem d_X_set_34 : decode b_X_set 34 = .ok (.invokevirtual 95, 3) := by decide +kernel
theorem d_X_set_37 : decode b_X_set 37 = .ok (.iconst 1, 1) := by decide +kernel
theorem d_X_set_38 : decode b_X_set 38 = .ok (.ireturn, 1) := by decide +kernel
theorem d_X_getItem_0 : decode b_X_getItem 0 = .ok (.aload_n 0, 1) := by decide +kernel
theorem d_X_getItem_1 : decode b_X_getItem 1 = .ok (.iload_n 2, 1) := by decide +kernel
theorem d_X_getItem_2 : decode b_X_getItem 2 = .ok (.invokevirtual 55, 3) := by decide +kernel
theorem d_X_getItem_5 : decode b_X_getItem 5 = .ok (.istore 4, 2) := by decide +kernel
theorem d_X_getItem_7 : decode b_X_getItem 7 = .ok (.iload_n 1, 1) := by decide +kernel
theorem d_X_getItem_8 : decode b_X_getItem 8 = .ok (.invokestatic 35, 3) := by decide +kernel
theorem d_X_getItem_11 : decode b_X_getItem 11 = .ok (.ifCond .eq 16, 3) := by decide +kernel
theorem d_X_getItem_14 : decode b_X_getItem 14 = .ok (.iload_n 3, 1) := by decide +kernel
theorem d_X_getItem_15 : decode b_X_getItem 15 = .ok (.iload 4, 2) := by decide +kernel
theorem d_X_getItem_17 : decode b_X_getItem 17 = .ok (.iconst 1, 1) := by decide +kernel
theorem d_X_getItem_18 : decode b_X_getItem 18 = .ok (.invokestatic 98, 3) := by decide +kernel
theorem d_X_getItem_21 : decode b_X_getItem 21 = .ok (.invokestatic 62, 3) := by decide +kernel
theorem d_X_getItem_24 : decode b_X_getItem 24 = .ok (.ifCond .ne 5, 3) := by decide +kernel
theorem d_X_getItem_27 : decode b_X_getItem 27 = .ok (.iconst 0, 1) := by decide +kernel
theorem d_X_getItem_28 : decode b_X_getItem 28 = .ok (.ireturn, 1) := by decide +kernel
theorem d_X_getItem_29 : decode b_X_getItem 29 = .ok (.aload_n 0, 1) := by decide +kernel
theorem d_X_getItem_30 : decode b_X_getItem 30 = .ok (.iload_n 2, 1) := by decide +kernel
theorem d_X_getItem_31 : decode b_X_getItem 31 = .ok (.iload 4, 2) := by decide +kernel
theorem d_X_getItem_33 : decode b_X_getItem 33 = .ok (.iload_n 3, 1) := by decide +kernel
theorem d_X_getItem_34 : decode b_X_getItem 34 = .ok (.invokevirtual 101, 3) := by decide +kernel
theorem d_X_getItem_37 : decode b_X_getItem 37 = .ok (.ifCond .ne 7, 3) := by decide +kernel
theorem d_X_getItem_40 : decode b_X_getItem 40 = .ok (.iconst 1, 1) := by decide +kernel
theorem d_X_getItem_41 : decode b_X_getItem 41 = .ok (.goto 4, 3) := by decide +kernel
theorem d_X_getItem_44 : decode b_X_getItem 44 = .ok (.iconst 0, 1) := by decide +kernel
theorem d_X_getItem_45 : decode b_X_getItem 45 = .ok (.istore 5, 2) := by decide +kernel
theorem d_X_getItem_47 : decode b_X_getItem 47 = .ok (.aload_n 0, 1) := by decide +kernel
theorem d_X_getItem_48 : decode b_X_getItem 48 = .ok (.getfield 26, 3) := by decide +kernel
theorem d_X_getItem_51 : decode b_X_getItem 51 = .ok (.iload_n 1, 1) := by decide +kernel
theorem d_X_getItem_52 : decode b_X_getItem 52 = .ok (.iload 5, 2) := by decide +kernel
theorem d_X_getItem_54 : decode b_X_getItem 54 = .ok (.ifCond .eq 22, 3) := by decide +kernel
theorem d_X_getItem_57 : decode b_X_getItem 57 = .ok (.aload_n 0, 1) := by decide +kernel
theorem d_X_getItem_58 : decode b_X_getItem 58 = .ok (.getfield 26, 3) := by decide +kernel
theorem d_X_getItem_61 : decode b_X_getItem 61 = .ok (.aload_n 0, 1) := by decide +kernel
theorem d_X_getItem_62 : decode b_X_getItem 62 = .ok (.iload_n 2, 1) := by decide +kernel
theorem d_X_getItem_63 : decode b_X_getItem 63 = .ok (.iload 4, 2) := by decide +kernel
theorem d_X_getItem_65 : decode b_X_getItem 65 = .ok (.iload_n 3, 1) := by decide +kernel
theorem d_X_getItem_66 : decode b_X_getItem 66 = .ok (.iconst 0, 1) := by decide +kernel
theorem d_X_getItem_67 : decode b_X_getItem 67 = .ok (.invokevirtual 104, 3) := by decide +kernel
theorem d_X_getItem_70 : decode b_X_getItem 70 = .ok (.invokevirtual 68, 3) := by decide +kernel
theorem d_X_getItem_73 : decode b_X_getItem 73 = .ok (.goto 4, 3) := by decide +kernel
theorem d_X_getItem_76 : decode b_X_getItem 76 = .ok (.iconst 0, 1) := by decide +kernel
theorem d_X_getItem_77 : decode b_X_getItem 77 = .ok (.invokevirtual 71, 3) := by decide +kernel
theorem d_X_getItem_80 : decode b_X_getItem 80 = .ok (.iconst 1, 1) := by decide +kernel
theorem d_X_getItem_81 : decode b_X_getItem 81 = .ok (.ireturn, 1) := by decide +kernel
theorem d_X_putItem_0 : decode b_X_putItem 0 = .ok (.aload_n 0, 1) := by decide +kernel
theorem d_X_putItem_1 : decode b_X_putItem 1 = .ok (.iload_n 1, 1) := by decide +kernel
theorem d_X_putItem_2 : decode b_X_putItem 2 = .ok (.invokevirtual 55, 3) := by decide +kernel
theorem d_X_putItem_5 : decode b_X_putItem 5 = .ok (.istore 4, 2) := by decide +kernel
theorem d_X_putItem_7 : decode b_X_putItem 7 = .ok (.iload_n 3, 1) := by decide +kernel
theorem d_X_putItem_8 : decode b_X_putItem 8 = .ok (.invokestatic 35, 3) := by decide +kernel
theorem d_X_putItem_11 : decode b_X_putItem 11 = .ok (.ifCond .eq 16, 3) := by decide +kernel
theorem d_X_putItem_14 : decode b_X_putItem 14 = .ok (.iload_n 2, 1) := by decide +kernel
theorem d_X_putItem_15 : decode b_X_putItem 15 = .ok (.iload 4, 2) := by decide +kernel
theorem d_X_putItem_17 : decode b_X_putItem 17 = .ok (.iconst 1, 1) := by decide +kernel
theorem d_X_putItem_18 : decode b_X_putItem 18 = .ok (.invokestatic 98, 3) := by decide +kernel
theorem d_X_putItem_21 : decode b_X_putItem 21 = .ok (.invokestatic 62, 3) := by decide +kernel
theorem d_X_putItem_24 : decode b_X_putItem 24 = .ok (.ifCond .ne 5, 3) := by decide +kernel
theorem d_X_putItem_27 : decode b_X_putItem 27 = .ok (.iconst (-1), 1) := by decide +kernel
theorem d_X_putItem_28 : decode b_X_putItem 28 = .ok (.ireturn, 1) := by decide +kernel
theorem d_X_putItem_29 : decode b_X_putItem 29 = .ok (.aload_n 0, 1) := by decide +kernel
theorem d_X_putItem_30 : decode b_X_putItem 30 = .ok (.iload_n 1, 1) := by decide +kernel
theorem d_X_putItem_31 : decode b_X_putItem 31 = .ok (.iload 4, 2) := by decide +kernel
theorem d_X_putItem_33 : decode b_X_putItem 33 = .ok (.iload_n 2, 1) := by decide +kernel
theorem d_X_putItem_34 : decode b_X_putItem 34 = .ok (.invokevirtual 108, 3) := by decide +kernel
theorem d_X_putItem_37 : decode b_X_putItem 37 = .ok (.istore 5, 2) := by decide +kernel
theorem d_X_putItem_39 : decode b_X_putItem 39 = .ok (.iload 5, 2) := by decide +kernel
theorem d_X_putItem_41 : decode b_X_putItem 41 = .ok (.iconst 1, 1) := by decide +kernel
theorem d_X_putItem_42 : decode b_X_putItem 42 = .ok (.if_icmp .ne 27, 3) := by decide +kernel
theorem d_X_putItem_45 : decode b_X_putItem 45 = .ok (.aload_n 0, 1) := by decide +kernel
theorem d_X_putItem_46 : decode b_X_putItem 46 = .ok (.getfield 26, 3) := by decide +kernel
theorem d_X_putItem_49 : decode b_X_putItem 49 = .ok (.aload_n 0, 1) := by decide +kernel
theorem d_X_putItem_50 : decode b_X_putItem 50 = .ok (.iload_n 1, 1) := by decide +kernel
theorem d_X_putItem_51 : decode b_X_putItem 51 = .ok (.iload 4, 2) := by decide +kernel
theorem d_X_putItem_53 : decode b_X_putItem 53 = .ok (.iload_n 2, 1) := by decide +kernel
theorem d_X_putItem_54 : decode b_X_putItem 54 = .ok (.iconst 0, 1) := by decide +kernel
theorem d_X_putItem_55 : decode b_X_putItem 55 = .ok (.invokevirtual 104, 3) := by decide +kernel
theorem d_X_putItem_58 : decode b_X_putItem 58 = .ok (.aload_n 0, 1) := by decide +kernel
theorem d_X_putItem_59 : decode b_X_putItem 59 = .ok (.getfield 26, 3) := by decide +kernel
theorem d_X_putItem_62 : decode b_X_putItem 62 = .ok (.iload_n 3, 1) := by decide +kernel
theorem d_X_putItem_63 : decode b_X_putItem 63 = .ok (.invokevirtual 75, 3) := by decide +kernel
theorem d_X_putItem_66 : decode b_X_putItem 66 = .ok (.invokevirtual 78, 3) := by decide +kernel
theorem d_X_putItem_69 : decode b_X_putItem 69 = .ok (.iload 5, 2) := by decide +kernel
theorem d_X_putItem_71 : decode b_X_putItem 71 = .ok (.ireturn, 1) := by decide +kernel
theorem d_X_lookItem_0 : decode b_X_lookItem 0 = .ok (.aload_n 0, 1) := by decide +kernel
theorem d_X_lookItem_1 : decode b_X_lookItem 1 = .ok (.iload_n 1, 1) := by decide +kernel
theorem d_X_lookItem_2 : decode b_X_lookItem 2 = .ok (.invokevirtual 55, 3) := by decide +kernel
theorem d_X_lookItem_5 : decode b_X_lookItem 5 = .ok (.istore_n 3, 1) := by decide +kernel
theorem d_X_lookItem_6 : decode b_X_lookItem 6 = .ok (.iload_n 2, 1) := by decide +kernel
theorem d_X_lookItem_7 : decode b_X_lookItem 7 = .ok (.iload_n 3, 1) := by decide +kernel
theorem d_X_lookItem_8 : decode b_X_lookItem 8 = .ok (.iconst 0, 1) := by decide +kernel
theorem d_X_lookItem_9 : decode b_X_lookItem 9 = .ok (.invokestatic 98, 3) := by decide +kernel
theorem d_X_lookItem_12 : decode b_X_lookItem 12 = .ok (.invokestatic 62, 3) := by decide +kernel
theorem d_X_lookItem_15 : decode b_X_lookItem 15 = .ok (.ifCond .ne 7, 3) := by decide +kernel
theorem d_X_lookItem_18 : decode b_X_lookItem 18 = .ok (.ldc2_w 84, 3) := by decide +kernel
theorem d_X_lookItem_21 : decode b_X_lookItem 21 = .ok (.lreturn, 1) := by decide +kernel
theorem d_X_lookItem_22 : decode b_X_lookItem 22 = .ok (.aload_n 0, 1) := by decide +kernel
theorem d_X_lookItem_23 : decode b_X_lookItem 23 = .ok (.iload_n 1, 1) := by decide +kernel
theorem d_X_lookItem_24 : decode b_X_lookItem 24 = .ok (.iload_n 3, 1) := by decide +kernel
theorem d_X_lookItem_25 : decode b_X_lookItem 25 = .ok (.iload_n 2, 1) := by decide +kernel
theorem d_X_lookItem_26 : decode b_X_lookItem 26 = .ok (.invokevirtual 101, 3) := by decide +kernel
theorem d_X_lookItem_29 : decode b_X_lookItem 29 = .ok (.ifCond .ne 7, 3) := by decide +kernel
theorem d_X_lookItem_32 : decode b_X_lookItem 32 = .ok (.iconst 1, 1) := by decide +kernel
theorem d_X_lookItem_33 : decode b_X_lookItem 33 = .ok (.goto 4, 3) := by decide +kernel
theorem d_X_lookItem_36 : decode b_X_lookItem 36 = .ok (.iconst 0, 1) := by decide +kernel
theorem d_X_lookItem_37 : decode b_X_lookItem 37 = .ok (.istore 4, 2) := by decide +kernel
theorem d_X_lookItem_39 : decode b_X_lookItem 39 = .ok (.iload 4, 2) := by decide +kernel
theorem d_X_lookItem_41 : decode b_X_lookItem 41 = .ok (.ifCond .eq 22, 3) := by decide +kernel
theorem d_X_lookItem_44 : decode b_X_lookItem 44 = .ok (.aload_n 0, 1) := by decide +kernel
theorem d_X_lookItem_45 : decode b_X_lookItem 45 = .ok (.getfield 34, 3) := by decide +kernel
theorem d_X_lookItem_48 : decode b_X_lookItem 48 = .ok (.aload_n 0, 1) := by decide +kernel
theorem d_X_lookItem_49 : decode b_X_lookItem 49 = .ok (.iload_n 1, 1) := by decide +kernel
theorem d_X_lookItem_50 : decode b_X_lookItem 50 = .ok (.iload_n 3, 1) := by decide +kernel
theorem d_X_lookItem_51 : decode b_X_lookItem 51 = .ok (.iload_n 2, 1) := by decide +kernel
theorem d_X_lookItem_52 : decode b_X_lookItem 52 = .ok (.iconst 0, 1) := by decide +kernel
theorem d_X_lookItem_53 : decode b_X_lookItem 53 = .ok (.invokevirtual 104, 3) := by decide +kernel
theorem d_X_lookItem_56 : decode b_X_lookItem 56 = .ok (.invokevirtual 90, 3) := by decide +kernel
theorem d_X_lookItem_59 : decode b_X_lookItem 59 = .ok (.i2l, 1) := by decide +kernel
theorem d_X_lookItem_60 : decode b_X_lookItem 60 = .ok (.goto 4, 3) := by decide +kernel
theorem d_X_lookItem_63 : decode b_X_lookItem 63 = .ok (.lconst 0, 1) := by decide +kernel
theorem d_X_lookItem_64 : decode b_X_lookItem 64 = .ok (.lreturn, 1) := by decide +kernel
theorem d_X_setItem_0 : decode b_X_setItem 0 = .ok (.aload_n 0, 1) := by decide +kernel
theorem d_X_setItem_1 : decode b_X_setItem 1 = .ok (.iload_n 1, 1) := by decide +kernel
theorem d_X_setItem_2 : decode b_X_setItem 2 = .ok (.invokevirtual 55, 3) := by decide +kernel
theorem d_X_setItem_5 : decode b_X_setItem 5 = .ok (.istore 4, 2) := by decide +kernel
theorem d_X_setItem_7 : decode b_X_setItem 7 = .ok (.iload_n 2, 1) := by decide +kernel
theorem d_X_setItem_8 : decode b_X_setItem 8 = .ok (.iload 4, 2) := by decide +kernel
theorem d_X_setItem_10 : decode b_X_setItem 10 = .ok (.iconst 0, 1) := by decide +kernel
theorem d_X_setItem_11 : decode b_X_setItem 11 = .ok (.invokestatic 98, 3) := by decide +kernel
theorem d_X_setItem_14 : decode b_X_setItem 14 = .ok (.invokestatic 62, 3) := by decide +kernel
theorem d_X_setItem_17 : decode b_X_setItem 17 = .ok (.ifCond .ne 5, 3) := by decide +kernel
theorem d_X_setItem_20 : decode b_X_setItem 20 = .ok (.iconst (-1), 1) := by decide +kernel
theorem d_X_setItem_21 : decode b_X_setItem 21 = .ok (.ireturn, 1) := by decide +kernel
theorem d_X_setItem_22 : decode b_X_setItem 22 = .ok (.aload_n 0, 1) := by decide +kernel
theorem d_X_setItem_23 : decode b_X_setItem 23 = .ok (.iload_n 1, 1) := by decide +kernel
theorem d_X_setItem_24 : decode b_X_setItem 24 = .ok (.iload 4, 2) := by decide +kernel
theorem d_X_setItem_26 : decode b_X_setItem 26 = .ok (.iload_n 2, 1) := by decide +kernel
theorem d_X_setItem_27 : decode b_X_setItem 27 = .ok (.invokevirtual 108, 3) := by decide +kernel
theorem d_X_setItem_30 : decode b_X_setItem 30 = .ok (.istore 5, 2) := by decide +kernel
theorem d_X_setItem_32 : decode b_X_setItem 32 = .ok (.iload 5, 2) := by decide +kernel
theorem d_X_setItem_34 : decode b_X_setItem 34 = .ok (.iconst 1, 1) := by decide +kernel
theorem d_X_setItem_35 : decode b_X_setItem 35 = .ok (.if_icmp .ne 20, 3) := by decide +kernel
theorem d_X_setItem_38 : decode b_X_setItem 38 = .ok (.aload_n 0, 1) := by decide +kernel
theorem d_X_setItem_39 : decode b_X_setItem 39 = .ok (.getfield 34, 3) := by decide +kernel
theorem d_X_setItem_42 : decode b_X_setItem 42 = .ok (.aload_n 0, 1) := by decide +kernel
theorem d_X_setItem_43 : decode b_X_setItem 43 = .ok (.iload_n 1, 1) := by decide +kernel
theorem d_X_setItem_44 : decode b_X_setItem 44 = .ok (.iload 4, 2) := by decide +kernel
theorem d_X_setItem_46 : decode b_X_setItem 46 = .ok (.iload_n 2, 1) := by decide +kernel
theorem d_X_setItem_47 : decode b_X_setItem 47 = .ok (.iconst 0, 1) := by decide +kernel
theorem d_X_setItem_48 : decode b_X_setItem 48 = .ok (.invokevirtual 104, 3) := by decide +kernel
theorem d_X_setItem_51 : decode b_X_setItem 51 = .ok (.iload_n 3, 1) := by decide +kernel
theorem d_X_setItem_52 : decode b_X_setItem 52 = .ok (.invokevirtual 95, 3) := by decide +kernel
theorem d_X_setItem_55 : decode b_X_setItem 55 = .ok (.iload 5, 2) := by decide +kernel
theorem d_X_setItem_57 : decode b_X_setItem 57 = .ok (.ireturn, 1) := by decide +kernel
theorem d_X_copy_0 : decode b_X_copy 0 = .ok (.iload_n 1, 1) := by decide +kernel
theorem d_X_copy_1 : decode b_X_copy 1 = .ok (.invokestatic 35, 3) := by decide +kernel
theorem d_X_copy_4 : decode b_X_copy 4 = .ok (.ifCond .eq 10, 3) := by decide +kernel
theorem d_X_copy_7 : decode b_X_copy 7 = .ok (.iload_n 2, 1) := by decide +kernel
theorem d_X_copy_8 : decode b_X_copy 8 = .ok (.invokestatic 35, 3) := by decide +kernel
theorem d_X_copy_11 : decode b_X_copy 11 = .ok (.ifCond .ne 5, 3) := by decide +kernel
theorem d_X_copy_14 : decode b_X_copy 14 = .ok (.iconst 0, 1) := by decide +kernel
theorem d_X_copy_15 : decode b_X_copy 15 = .ok (.ireturn, 1) := by decide +kernel
theorem d_X_copy_16 : decode b_X_copy 16 = .ok (.aload_n 0, 1) := by decide +kernel
theorem d_X_copy_17 : decode b_X_copy 17 = .ok (.getfield 26, 3) := by decide +kernel
theorem d_X_copy_20 : decode b_X_copy 20 = .ok (.iload_n 1, 1) := by decide +kernel
theorem d_X_copy_21 : decode b_X_copy 21 = .ok (.aload_n 0, 1) := by decide +kernel
theorem d_X_copy_22 : decode b_X_copy 22 = .ok (.getfield 26, 3) := by decide +kernel
theorem d_X_copy_25 : decode b_X_copy 25 = .ok (.iload_n 2, 1) := by decide +kernel
theorem d_X_copy_26 : decode b_X_copy 26 = .ok (.invokevirtual 75, 3) := by decide +kernel
theorem d_X_copy_29 : decode b_X_copy 29 = .ok (.invokevirtual 71, 3) := by decide +kernel
theorem d_X_copy_32 : decode b_X_copy 32 = .ok (.iconst 1, 1) := by decide +kernel
theorem d_X_copy_33 : decode b_X_copy 33 = .ok (.ireturn, 1) := by decide +kernel
theorem d_X_drop_0 : decode b_X_drop 0 = .ok (.aload_n 0, 1) := by decide +kernel
theorem d_X_drop_1 : decode b_X_drop 1 = .ok (.getfield 26, 3) := by decide +kernel
theorem d_X_drop_4 : decode b_X_drop 4 = .ok (.iload_n 1, 1) := by decide +kernel
theorem d_X_drop_5 : decode b_X_drop 5 = .ok (.invokevirtual 75, 3) := by decide +kernel
theorem d_X_drop_8 : decode b_X_drop 8 = .ok (.ifCond .eq 7, 3) := by decide +kernel
theorem d_X_drop_11 : decode b_X_drop 11 = .ok (.iconst 1, 1) := by decide +kernel
theorem d_X_drop_12 : decode b_X_drop 12 = .ok (.goto 4, 3) := by decide +kernel
theorem d_X_drop_15 : decode b_X_drop 15 = .ok (.iconst 0, 1) := by decide +kernel
theorem d_X_drop_16 : decode b_X_drop 16 = .ok (.istore_n 2, 1) := by decide +kernel
theorem d_X_drop_17 : decode b_X_drop 17 = .ok (.aload_n 0, 1) := by decide +kernel
theorem d_X_drop_18 : decode b_X_drop 18 = .ok (.getfield 26, 3) := by decide +kernel
theorem d_X_drop_21 : decode b_X_drop 21 = .ok (.iload_n 1, 1) := by decide +kernel
theorem d_X_drop_22 : decode b_X_drop 22 = .ok (.iconst 0, 1) := by decide +kernel
theorem d_X_drop_23 : decode b_X_drop 23 = .ok (.invokevirtual 71, 3) := by decide +kernel
theorem d_X_drop_26 : decode b_X_drop 26 = .ok (.iload_n 2, 1) := by decide +kernel
theorem d_X_drop_27 : decode b_X_drop 27 = .ok (.ireturn, 1) := by decide +kernel
theorem d_X_same_0 : decode b_X_same 0 = .ok (.iload_n 1, 1) := by decide +kernel
theorem d_X_same_1 : decode b_X_same 1 = .ok (.invokestatic 35, 3) := by decide +kernel
theorem d_X_same_4 : decode b_X_same 4 = .ok (.ifCond .eq 33, 3) := by decide +kernel
theorem d_X_same_7 : decode b_X_same 7 = .ok (.iload_n 2, 1) := by decide +kernel
theorem d_X_same_8 : decode b_X_same 8 = .ok (.invokestatic 35, 3) := by decide +kernel
theorem d_X_same_11 : decode b_X_same 11 = .ok (.ifCond .eq 26, 3) := by decide +kernel
theorem d_X_same_14 : decode b_X_same 14 = .ok (.aload_n 0, 1) := by decide +kernel
theorem d_X_same_15 : decode b_X_same 15 = .ok (.getfield 26, 3) := by decide +kernel
theorem d_X_same_18 : decode b_X_same 18 = .ok (.iload_n 1, 1) := by decide +kernel
theorem d_X_same_19 : decode b_X_same 19 = .ok (.invokevirtual 75, 3) := by decide +kernel
theorem d_X_same_22 : decode b_X_same 22 = .ok (.aload_n 0, 1) := by decide +kernel
theorem d_X_same_23 : decode b_X_same 23 = .ok (.getfield 26, 3) := by decide +kernel
theorem d_X_same_26 : decode b_X_same 26 = .ok (.iload_n 2, 1) := by decide +kernel
theorem d_X_same_27 : decode b_X_same 27 = .ok (.invokevirtual 75, 3) := by decide +kernel
theorem d_X_same_30 : decode b_X_same 30 = .ok (.if_icmp .ne 7, 3) := by decide +kernel
theorem d_X_same_33 : decode b_X_same 33 = .ok (.iconst 1, 1) := by decide +kernel
theorem d_X_same_34 : decode b_X_same 34 = .ok (.goto 4, 3) := by decide +kernel
theorem d_X_same_37 : decode b_X_same 37 = .ok (.iconst 0, 1) := by decide +kernel
theorem d_X_same_38 : decode b_X_same 38 = .ok (.ireturn, 1) := by decide +kernel
theorem d_X_size_0 : decode b_X_size 0 = .ok (.aload_n 0, 1) := by decide +kernel
theorem d_X_size_1 : decode b_X_size 1 = .ok (.iload_n 1, 1) := by decide +kernel
theorem d_X_size_2 : decode b_X_size 2 = .ok (.invokevirtual 55, 3) := by decide +kernel
theorem d_X_size_5 : decode b_X_size 5 = .ok (.istore_n 3, 1) := by decide +kernel
theorem d_X_size_6 : decode b_X_size 6 = .ok (.iload_n 3, 1) := by decide +kernel
theorem d_X_size_7 : decode b_X_size 7 = .ok (.ifCond .ne 5, 3) := by decide +kernel
theorem d_X_size_10 : decode b_X_size 10 = .ok (.iconst (-1), 1) := by decide +kernel
theorem d_X_size_11 : decode b_X_size 11 = .ok (.ireturn, 1) := by decide +kernel
theorem d_X_size_12 : decode b_X_size 12 = .ok (.iload_n 3, 1) := by decide +kernel
theorem d_X_size_13 : decode b_X_size 13 = .ok (.invokestatic 111, 3) := by decide +kernel
theorem d_X_size_16 : decode b_X_size 16 = .ok (.istore 4, 2) := by decide +kernel
theorem d_X_size_18 : decode b_X_size 18 = .ok (.iload_n 2, 1) := by decide +kernel
theorem d_X_size_19 : decode b_X_size 19 = .ok (.tableswitch 76 0 3 #[29, 43, 57, 71], 29) := by decide +kernel
theorem d_X_size_48 : decode b_X_size 48 = .ok (.iload 4, 2) := by decide +kernel
theorem d_X_size_50 : decode b_X_size 50 = .ok (.ifCond .eq 7, 3) := by decide +kernel
theorem d_X_size_53 : decode b_X_size 53 = .ok (.iconst (-1), 1) := by decide +kernel
theorem d_X_size_54 : decode b_X_size 54 = .ok (.goto 7, 3) := by decide +kernel
theorem d_X_size_57 : decode b_X_size 57 = .ok (.iload_n 3, 1) := by decide +kernel
theorem d_X_size_58 : decode b_X_size 58 = .ok (.invokestatic 59, 3) := by decide +kernel
theorem d_X_size_61 : decode b_X_size 61 = .ok (.ireturn, 1) := by decide +kernel
theorem d_X_size_62 : decode b_X_size 62 = .ok (.iload 4, 2) := by decide +kernel
theorem d_X_size_64 : decode b_X_size 64 = .ok (.ifCond .eq 7, 3) := by decide +kernel
theorem d_X_size_67 : decode b_X_size 67 = .ok (.iconst (-1), 1) := by decide +kernel
theorem d_X_size_68 : decode b_X_size 68 = .ok (.goto 7, 3) := by decide +kernel
theorem d_X_size_71 : decode b_X_size 71 = .ok (.iload_n 3, 1) := by decide +kernel
theorem d_X_size_72 : decode b_X_size 72 = .ok (.invokestatic 81, 3) := by decide +kernel
theorem d_X_size_75 : decode b_X_size 75 = .ok (.ireturn, 1) := by decide +kernel
theorem d_X_size_76 : decode b_X_size 76 = .ok (.iload 4, 2) := by decide +kernel
theorem d_X_size_78 : decode b_X_size 78 = .ok (.ifCond .eq 10, 3) := by decide +kernel
theorem d_X_size_81 : decode b_X_size 81 = .ok (.iload_n 3, 1) := by decide +kernel
theorem d_X_size_82 : decode b_X_size 82 = .ok (.invokestatic 114, 3) := by decide +kernel
theorem d_X_size_85 : decode b_X_size 85 = .ok (.goto 4, 3) := by decide +kernel
theorem d_X_size_88 : decode b_X_size 88 = .ok (.iconst (-1), 1) := by decide +kernel
theorem d_X_size_89 : decode b_X_size 89 = .ok (.ireturn, 1) := by decide +kernel
theorem d_X_size_90 : decode b_X_size 90 = .ok (.iload_n 3, 1) := by decide +kernel
theorem d_X_size_91 : decode b_X_size 91 = .ok (.invokestatic 117, 3) := by decide +kernel
theorem d_X_size_94 : decode b_X_size 94 = .ok (.ireturn, 1) := by decide +kernel
theorem d_X_size_95 : decode b_X_size 95 = .ok (.iconst (-1), 1) := by decide +kernel
theorem d_X_size_96 : decode b_X_size 96 = .ok (.ireturn, 1) := by decide +kernel
theorem d_X_told_0 : decode b_X_told 0 = .ok (.iload_n 1, 1) := by decide +kernel
theorem d_X_told_1 : decode b_X_told 1 = .ok (.tableswitch 97 0 4 #[35, 43, 59, 81, 89], 35) := by decide +kernel
theorem d_X_told_36 : decode b_X_told 36 = .ok (.aload_n 0, 1) := by decide +kernel
theorem d_X_told_37 : decode b_X_told 37 = .ok (.getfield 26, 3) := by decide +kernel
theorem d_X_told_40 : decode b_X_told 40 = .ok (.getfield 119, 3) := by decide +kernel
theorem d_X_told_43 : decode b_X_told 43 = .ok (.ireturn, 1) := by decide +kernel
theorem d_X_told_44 : decode b_X_told 44 = .ok (.aload_n 0, 1) := by decide +kernel
theorem d_X_told_45 : decode b_X_told 45 = .ok (.getfield 26, 3) := by decide +kernel
theorem d_X_told_48 : decode b_X_told 48 = .ok (.invokevirtual 123, 3) := by decide +kernel
theorem d_X_told_51 : decode b_X_told 51 = .ok (.ifCond .eq 7, 3) := by decide +kernel
theorem d_X_told_54 : decode b_X_told 54 = .ok (.iconst 1, 1) := by decide +kernel
theorem d_X_told_55 : decode b_X_told 55 = .ok (.goto 4, 3) := by decide +kernel
theorem d_X_told_58 : decode b_X_told 58 = .ok (.iconst 0, 1) := by decide +kernel
theorem d_X_told_59 : decode b_X_told 59 = .ok (.ireturn, 1) := by decide +kernel
theorem d_X_told_60 : decode b_X_told 60 = .ok (.aload_n 0, 1) := by decide +kernel
theorem d_X_told_61 : decode b_X_told 61 = .ok (.getfield 26, 3) := by decide +kernel
theorem d_X_told_64 : decode b_X_told 64 = .ok (.invokevirtual 123, 3) := by decide +kernel
theorem d_X_told_67 : decode b_X_told 67 = .ok (.ifCond .eq 13, 3) := by decide +kernel
theorem d_X_told_70 : decode b_X_told 70 = .ok (.aload_n 0, 1) := by decide +kernel
theorem d_X_told_71 : decode b_X_told 71 = .ok (.getfield 26, 3) := by decide +kernel
theorem d_X_told_74 : decode b_X_told 74 = .ok (.invokevirtual 127, 3) := by decide +kernel
theorem d_X_told_77 : decode b_X_told 77 = .ok (.goto 4, 3) := by decide +kernel
theorem d_X_told_80 : decode b_X_told 80 = .ok (.iconst (-1), 1) := by decide +kernel
theorem d_X_told_81 : decode b_X_told 81 = .ok (.ireturn, 1) := by decide +kernel
theorem d_X_told_82 : decode b_X_told 82 = .ok (.aload_n 0, 1) := by decide +kernel
theorem d_X_told_83 : decode b_X_told 83 = .ok (.getfield 26, 3) := by decide +kernel
theorem d_X_told_86 : decode b_X_told 86 = .ok (.getfield 131, 3) := by decide +kernel
theorem d_X_told_89 : decode b_X_told 89 = .ok (.ireturn, 1) := by decide +kernel
theorem d_X_told_90 : decode b_X_told 90 = .ok (.aload_n 0, 1) := by decide +kernel
theorem d_X_told_91 : decode b_X_told 91 = .ok (.getfield 26, 3) := by decide +kernel
theorem d_X_told_94 : decode b_X_told 94 = .ok (.getfield 134, 3) := by decide +kernel
theorem d_X_told_97 : decode b_X_told 97 = .ok (.ireturn, 1) := by decide +kernel
theorem d_X_told_98 : decode b_X_told 98 = .ok (.iconst (-1), 1) := by decide +kernel
theorem d_X_told_99 : decode b_X_told 99 = .ok (.ireturn, 1) := by decide +kernel
theorem d_X_steady_0 : decode b_X_steady 0 = .ok (.aload_n 0, 1) := by decide +kernel
theorem d_X_steady_1 : decode b_X_steady 1 = .ok (.getfield 34, 3) := by decide +kernel
theorem d_X_steady_4 : decode b_X_steady 4 = .ok (.getfield 137, 3) := by decide +kernel
theorem d_X_steady_7 : decode b_X_steady 7 = .ok (.ireturn, 1) := by decide +kernel
theorem d_X_isRegister_0 : decode b_X_isRegister 0 = .ok (.iload_n 0, 1) := by decide +kernel
theorem d_X_isRegister_1 : decode b_X_isRegister 1 = .ok (.bipush 8, 2) := by decide +kernel
theorem d_X_isRegister_3 : decode b_X_isRegister 3 = .ok (.invokestatic 62, 3) := by decide +kernel
theorem d_X_isRegister_6 : decode b_X_isRegister 6 = .ok (.ireturn, 1) := by decide +kernel
theorem d_X_isBelow_0 : decode b_X_isBelow 0 = .ok (.iload_n 0, 1) := by decide +kernel
theorem d_X_isBelow_1 : decode b_X_isBelow 1 = .ok (.ifCond .lt 12, 3) := by decide +kernel
theorem d_X_isBelow_4 : decode b_X_isBelow 4 = .ok (.iload_n 0, 1) := by decide +kernel
theorem d_X_isBelow_5 : decode b_X_isBelow 5 = .ok (.iload_n 1, 1) := by decide +kernel
theorem d_X_isBelow_6 : decode b_X_isBelow 6 = .ok (.if_icmp .ge 7, 3) := by decide +kernel
theorem d_X_isBelow_9 : decode b_X_isBelow 9 = .ok (.iconst 1, 1) := by decide +kernel
theorem d_X_isBelow_10 : decode b_X_isBelow 10 = .ok (.goto 4, 3) := by decide +kernel
theorem d_X_isBelow_13 : decode b_X_isBelow 13 = .ok (.iconst 0, 1) := by decide +kernel
theorem d_X_isBelow_14 : decode b_X_isBelow 14 = .ok (.ireturn, 1) := by decide +kernel
theorem d_X_isShape_0 : decode b_X_isShape 0 = .ok (.iload_n 0, 1) := by decide +kernel
theorem d_X_isShape_1 : decode b_X_isShape 1 = .ok (.bipush 16, 2) := by decide +kernel
theorem d_X_isShape_3 : decode b_X_isShape 3 = .ok (.invokestatic 62, 3) := by decide +kernel
theorem d_X_isShape_6 : decode b_X_isShape 6 = .ok (.ifCond .eq 26, 3) := by decide +kernel
theorem d_X_isShape_9 : decode b_X_isShape 9 = .ok (.iload_n 1, 1) := by decide +kernel
theorem d_X_isShape_10 : decode b_X_isShape 10 = .ok (.bipush 16, 2) := by decide +kernel
theorem d_X_isShape_12 : decode b_X_isShape 12 = .ok (.invokestatic 62, 3) := by decide +kernel
theorem d_X_isShape_15 : decode b_X_isShape 15 = .ok (.ifCond .eq 17, 3) := by decide +kernel
theorem d_X_isShape_18 : decode b_X_isShape 18 = .ok (.iconst 1, 1) := by decide +kernel
theorem d_X_isShape_19 : decode b_X_isShape 19 = .ok (.iload_n 0, 1) := by decide +kernel
theorem d_X_isShape_20 : decode b_X_isShape 20 = .ok (.iadd, 1) := by decide +kernel
theorem d_X_isShape_21 : decode b_X_isShape 21 = .ok (.iload_n 1, 1) := by decide +kernel
theorem d_X_isShape_22 : decode b_X_isShape 22 = .ok (.iadd, 1) := by decide +kernel
theorem d_X_isShape_23 : decode b_X_isShape 23 = .ok (.bipush 16, 2) := by decide +kernel
theorem d_X_isShape_25 : decode b_X_isShape 25 = .ok (.if_icmp .gt 7, 3) := by decide +kernel
theorem d_X_isShape_28 : decode b_X_isShape 28 = .ok (.iconst 1, 1) := by decide +kernel
theorem d_X_isShape_29 : decode b_X_isShape 29 = .ok (.goto 4, 3) := by decide +kernel
theorem d_X_isShape_32 : decode b_X_isShape 32 = .ok (.iconst 0, 1) := by decide +kernel
theorem d_X_isShape_33 : decode b_X_isShape 33 = .ok (.ireturn, 1) := by decide +kernel
theorem d_X_fillRegister_0 : decode b_X_fillRegister 0 = .ok (.aload_n 0, 1) := by decide +kernel
theorem d_X_fillRegister_1 : decode b_X_fillRegister 1 = .ok (.getfield 34, 3) := by decide +kernel
theorem d_X_fillRegister_4 : decode b_X_fillRegister 4 = .ok (.invokevirtual 141, 3) := by decide +kernel
theorem d_X_fillRegister_7 : decode b_X_fillRegister 7 = .ok (.aload_n 0, 1) := by decide +kernel
theorem d_X_fillRegister_8 : decode b_X_fillRegister 8 = .ok (.getfield 26, 3) := by decide +kernel
theorem d_X_fillRegister_11 : decode b_X_fillRegister 11 = .ok (.iload_n 2, 1) := by decide +kernel
theorem d_X_fillRegister_12 : decode b_X_fillRegister 12 = .ok (.invokestatic 117, 3) := by decide +kernel
theorem d_X_fillRegister_15 : decode b_X_fillRegister 15 = .ok (.invokevirtual 144, 3) := by decide +kernel
theorem d_X_fillRegister_18 : decode b_X_fillRegister 18 = .ok (.ifCond .ne 5, 3) := by decide +kernel
theorem d_X_fillRegister_21 : decode b_X_fillRegister 21 = .ok (.iconst 0, 1) := by decide +kernel
theorem d_X_fillRegister_22 : decode b_X_fillRegister 22 = .ok (.ireturn, 1) := by decide +kernel
theorem d_X_fillRegister_23 : decode b_X_fillRegister 23 = .ok (.aload_n 0, 1) := by decide +kernel
theorem d_X_fillRegister_24 : decode b_X_fillRegister 24 = .ok (.getfield 26, 3) := by decide +kernel
theorem d_X_fillRegister_27 : decode b_X_fillRegister 27 = .ok (.iload_n 1, 1) := by decide +kernel
theorem d_X_fillRegister_28 : decode b_X_fillRegister 28 = .ok (.aload_n 0, 1) := by decide +kernel
theorem d_X_fillRegister_29 : decode b_X_fillRegister 29 = .ok (.getfield 26, 3) := by decide +kernel
theorem d_X_fillRegister_32 : decode b_X_fillRegister 32 = .ok (.iload_n 2, 1) := by decide +kernel
theorem d_X_fillRegister_33 : decode b_X_fillRegister 33 = .ok (.invokevirtual 147, 3) := by decide +kernel
theorem d_X_fillRegister_36 : decode b_X_fillRegister 36 = .ok (.invokevirtual 71, 3) := by decide +kernel
theorem d_X_fillRegister_39 : decode b_X_fillRegister 39 = .ok (.iconst 1, 1) := by decide +kernel
theorem d_X_fillRegister_40 : decode b_X_fillRegister 40 = .ok (.ireturn, 1) := by decide +kernel
theorem d_X_headOf_0 : decode b_X_headOf 0 = .ok (.aload_n 0, 1) := by decide +kernel
theorem d_X_headOf_1 : decode b_X_headOf 1 = .ok (.getfield 34, 3) := by decide +kernel
theorem d_X_headOf_4 : decode b_X_headOf 4 = .ok (.invokevirtual 141, 3) := by decide +kernel
theorem d_X_headOf_7 : decode b_X_headOf 7 = .ok (.aload_n 0, 1) := by decide +kernel
theorem d_X_headOf_8 : decode b_X_headOf 8 = .ok (.getfield 26, 3) := by decide +kernel
theorem d_X_headOf_11 : decode b_X_headOf 11 = .ok (.iload_n 1, 1) := by decide +kernel
theorem d_X_headOf_12 : decode b_X_headOf 12 = .ok (.invokevirtual 75, 3) := by decide +kernel
theorem d_X_headOf_15 : decode b_X_headOf 15 = .ok (.istore_n 2, 1) := by decide +kernel
theorem d_X_headOf_16 : decode b_X_headOf 16 = .ok (.iload_n 2, 1) := by decide +kernel
theorem d_X_headOf_17 : decode b_X_headOf 17 = .ok (.ifCond .ne 7, 3) := by decide +kernel
theorem d_X_headOf_20 : decode b_X_headOf 20 = .ok (.iconst 0, 1) := by decide +kernel
theorem d_X_headOf_21 : decode b_X_headOf 21 = .ok (.goto 11, 3) := by decide +kernel
theorem d_X_headOf_24 : decode b_X_headOf 24 = .ok (.aload_n 0, 1) := by decide +kernel
theorem d_X_headOf_25 : decode b_X_headOf 25 = .ok (.getfield 34, 3) := by decide +kernel
theorem d_X_headOf_28 : decode b_X_headOf 28 = .ok (.iload_n 2, 1) := by decide +kernel
theorem d_X_headOf_29 : decode b_X_headOf 29 = .ok (.invokevirtual 90, 3) := by decide +kernel
theorem d_X_headOf_32 : decode b_X_headOf 32 = .ok (.ireturn, 1) := by decide +kernel
theorem d_X_referenceCell_0 : decode b_X_referenceCell 0 = .ok (.aload_n 0, 1) := by decide +kernel
theorem d_X_referenceCell_1 : decode b_X_referenceCell 1 = .ok (.getfield 26, 3) := by decide +kernel
theorem d_X_referenceCell_4 : decode b_X_referenceCell 4 = .ok (.iload_n 1, 1) := by decide +kernel
theorem d_X_referenceCell_5 : decode b_X_referenceCell 5 = .ok (.invokevirtual 75, 3) := by decide +kernel
theorem d_X_referenceCell_8 : decode b_X_referenceCell 8 = .ok (.iconst 1, 1) := by decide +kernel
theorem d_X_referenceCell_9 : decode b_X_referenceCell 9 = .ok (.iadd, 1) := by decide +kernel
theorem d_X_referenceCell_10 : decode b_X_referenceCell 10 = .ok (.iload_n 2, 1) := by decide +kernel
theorem d_X_referenceCell_11 : decode b_X_referenceCell 11 = .ok (.iadd, 1) := by decide +kernel
theorem d_X_referenceCell_12 : decode b_X_referenceCell 12 = .ok (.ireturn, 1) := by decide +kernel
theorem d_X_intCell_0 : decode b_X_intCell 0 = .ok (.aload_n 0, 1) := by decide +kernel
theorem d_X_intCell_1 : decode b_X_intCell 1 = .ok (.getfield 26, 3) := by decide +kernel
theorem d_X_intCell_4 : decode b_X_intCell 4 = .ok (.iload_n 1, 1) := by decide +kernel
theorem d_X_intCell_5 : decode b_X_intCell 5 = .ok (.invokevirtual 75, 3) := by decide +kernel
theorem d_X_intCell_8 : decode b_X_intCell 8 = .ok (.iconst 1, 1) := by decide +kernel
theorem d_X_intCell_9 : decode b_X_intCell 9 = .ok (.iadd, 1) := by decide +kernel
theorem d_X_intCell_10 : decode b_X_intCell 10 = .ok (.iload_n 2, 1) := by decide +kernel
theorem d_X_intCell_11 : decode b_X_intCell 11 = .ok (.invokestatic 59, 3) := by decide +kernel
theorem d_X_intCell_14 : decode b_X_intCell 14 = .ok (.iadd, 1) := by decide +kernel
theorem d_X_intCell_15 : decode b_X_intCell 15 = .ok (.iload_n 3, 1) := by decide +kernel
theorem d_X_intCell_16 : decode b_X_intCell 16 = .ok (.iadd, 1) := by decide +kernel
theorem d_X_intCell_17 : decode b_X_intCell 17 = .ok (.ireturn, 1) := by decide +kernel
theorem d_X_openWay_0 : decode b_X_openWay 0 = .ok (.aload_n 0, 1) := by decide +kernel
theorem d_X_openWay_1 : decode b_X_openWay 1 = .ok (.iload_n 1, 1) := by decide +kernel
theorem d_X_openWay_2 : decode b_X_openWay 2 = .ok (.iload_n 2, 1) := by decide +kernel
theorem d_X_openWay_3 : decode b_X_openWay 3 = .ok (.iload_n 3, 1) := by decide +kernel
theorem d_X_openWay_4 : decode b_X_openWay 4 = .ok (.invokevirtual 101, 3) := by decide +kernel
theorem d_X_openWay_7 : decode b_X_openWay 7 = .ok (.istore 4, 2) := by decide +kernel
theorem d_X_openWay_9 : decode b_X_openWay 9 = .ok (.iload 4, 2) := by decide +kernel
theorem d_X_openWay_11 : decode b_X_openWay 11 = .ok (.ifCond .ne 5, 3) := by decide +kernel
theorem d_X_openWay_14 : decode b_X_openWay 14 = .ok (.iconst 1, 1) := by decide +kernel
theorem d_X_openWay_15 : decode b_X_openWay 15 = .ok (.ireturn, 1) := by decide +kernel
theorem d_X_openWay_16 : decode b_X_openWay 16 = .ok (.aload_n 0, 1) := by decide +kernel
theorem d_X_openWay_17 : decode b_X_openWay 17 = .ok (.getfield 26, 3) := by decide +kernel
theorem d_X_openWay_20 : decode b_X_openWay 20 = .ok (.bipush 16, 2) := by decide +kernel
theorem d_X_openWay_22 : decode b_X_openWay 22 = .ok (.invokevirtual 144, 3) := by decide +kernel
theorem d_X_openWay_25 : decode b_X_openWay 25 = .ok (.ifCond .ne 5, 3) := by decide +kernel
theorem d_X_openWay_28 : decode b_X_openWay 28 = .ok (.iconst 0, 1) := by decide +kernel
theorem d_X_openWay_29 : decode b_X_openWay 29 = .ok (.ireturn, 1) := by decide +kernel
theorem d_X_openWay_30 : decode b_X_openWay 30 = .ok (.aload_n 0, 1) := by decide +kernel
theorem d_X_openWay_31 : decode b_X_openWay 31 = .ok (.getfield 26, 3) := by decide +kernel
theorem d_X_openWay_34 : decode b_X_openWay 34 = .ok (.iload 4, 2) := by decide +kernel
theorem d_X_openWay_36 : decode b_X_openWay 36 = .ok (.iconst 1, 1) := by decide +kernel
theorem d_X_openWay_37 : decode b_X_openWay 37 = .ok (.if_icmp .gt 10, 3) := by decide +kernel
theorem d_X_openWay_40 : decode b_X_openWay 40 = .ok (.iload_n 2, 1) := by decide +kernel
theorem d_X_openWay_41 : decode b_X_openWay 41 = .ok (.invokestatic 150, 3) := by decide +kernel
theorem d_X_openWay_44 : decode b_X_openWay 44 = .ok (.ifCond .eq 7, 3) := by decide +kernel
theorem d_X_openWay_47 : decode b_X_openWay 47 = .ok (.iconst 1, 1) := by decide +kernel
theorem d_X_openWay_48 : decode b_X_openWay 48 = .ok (.goto 4, 3) := by decide +kernel
theorem d_X_openWay_51 : decode b_X_openWay 51 = .ok (.iconst 0, 1) := by decide +kernel
theorem d_X_openWay_52 : decode b_X_openWay 52 = .ok (.invokestatic 153, 3) := by decide +kernel
theorem d_X_openWay_55 : decode b_X_openWay 55 = .ok (.invokevirtual 147, 3) := by decide +kernel
theorem d_X_openWay_58 : decode b_X_openWay 58 = .ok (.istore 5, 2) := by decide +kernel
theorem d_X_openWay_60 : decode b_X_openWay 60 = .ok (.aload_n 0, 1) := by decide +kernel
theorem d_X_openWay_61 : decode b_X_openWay 61 = .ok (.getfield 26, 3) := by decide +kernel
theorem d_X_openWay_64 : decode b_X_openWay 64 = .ok (.aload_n 0, 1) := by decide +kernel
theorem d_X_openWay_65 : decode b_X_openWay 65 = .ok (.iload_n 1, 1) := by decide +kernel
theorem d_X_openWay_66 : decode b_X_openWay 66 = .ok (.iload_n 2, 1) := by decide +kernel
theorem d_X_openWay_67 : decode b_X_openWay 67 = .ok (.iload_n 3, 1) := by decide +kernel
theorem d_X_openWay_68 : decode b_X_openWay 68 = .ok (.iload 4, 2) := by decide +kernel
theorem d_X_openWay_70 : decode b_X_openWay 70 = .ok (.invokevirtual 104, 3) := by decide +kernel
theorem d_X_openWay_73 : decode b_X_openWay 73 = .ok (.iload 5, 2) := by decide +kernel
theorem d_X_openWay_75 : decode b_X_openWay 75 = .ok (.invokevirtual 78, 3) := by decide +kernel
theorem d_X_openWay_78 : decode b_X_openWay 78 = .ok (.iconst 2, 1) := by decide +kernel
theorem d_X_openWay_79 : decode b_X_openWay 79 = .ok (.ireturn, 1) := by decide +kernel
theorem d_X_levelOfGap_0 : decode b_X_levelOfGap 0 = .ok (.aload_n 0, 1) := by decide +kernel
theorem d_X_levelOfGap_1 : decode b_X_levelOfGap 1 = .ok (.getfield 26, 3) := by decide +kernel
theorem d_X_levelOfGap_4 : decode b_X_levelOfGap 4 = .ok (.iload_n 1, 1) := by decide +kernel
theorem d_X_levelOfGap_5 : decode b_X_levelOfGap 5 = .ok (.invokevirtual 75, 3) := by decide +kernel
theorem d_X_levelOfGap_8 : decode b_X_levelOfGap 8 = .ok (.istore 4, 2) := by decide +kernel
theorem d_X_levelOfGap_10 : decode b_X_levelOfGap 10 = .ok (.iload_n 2, 1) := by decide +kernel
theorem d_X_levelOfGap_11 : decode b_X_levelOfGap 11 = .ok (.invokestatic 157, 3) := by decide +kernel
theorem d_X_levelOfGap_14 : decode b_X_levelOfGap 14 = .ok (.istore 5, 2) := by decide +kernel
theorem d_X_levelOfGap_16 : decode b_X_levelOfGap 16 = .ok (.iload 5, 2) := by decide +kernel
theorem d_X_levelOfGap_18 : decode b_X_levelOfGap 18 = .ok (.ifCond .le 37, 3) := by decide +kernel
theorem d_X_levelOfGap_21 : decode b_X_levelOfGap 21 = .ok (.aload_n 0, 1) := by decide +kernel
theorem d_X_levelOfGap_22 : decode b_X_levelOfGap 22 = .ok (.getfield 26, 3) := by decide +kernel
theorem d_X_levelOfGap_25 : decode b_X_levelOfGap 25 = .ok (.iload 4, 2) := by decide +kernel
theorem d_X_levelOfGap_27 : decode b_X_levelOfGap 27 = .ok (.iconst 1, 1) := by decide +kernel
theorem d_X_levelOfGap_28 : decode b_X_levelOfGap 28 = .ok (.iadd, 1) := by decide +kernel
theorem d_X_levelOfGap_29 : decode b_X_levelOfGap 29 = .ok (.iload_n 3, 1) := by decide +kernel
theorem d_X_levelOfGap_30 : decode b_X_levelOfGap 30 = .ok (.iload 5, 2) := by decide +kernel
theorem d_X_levelOfGap_32 : decode b_X_levelOfGap 32 = .ok (.invokestatic 160, 3) := by decide +kernel
theorem d_X_levelOfGap_35 : decode b_X_levelOfGap 35 = .ok (.iadd, 1) := by decide +kernel
theorem d_X_levelOfGap_36 : decode b_X_levelOfGap 36 = .ok (.invokevirtual 68, 3) := by decide +kernel
theorem d_X_levelOfGap_39 : decode b_X_levelOfGap 39 = .ok (.istore 4, 2) := by decide +kernel
theorem d_X_levelOfGap_41 : decode b_X_levelOfGap 41 = .ok (.iload 4, 2) := by decide +kernel
theorem d_X_levelOfGap_43 : decode b_X_levelOfGap 43 = .ok (.ifCond .ne 6, 3) := by decide +kernel
theorem d_X_levelOfGap_46 : decode b_X_levelOfGap 46 = .ok (.iload 5, 2) := by decide +kernel
theorem d_X_levelOfGap_48 : decode b_X_levelOfGap 48 = .ok (.ireturn, 1) := by decide +kernel
theorem d_X_levelOfGap_49 : decode b_X_levelOfGap 49 = .ok (.iinc 5 (-1), 3) := by decide +kernel
theorem d_X_levelOfGap_52 : decode b_X_levelOfGap 52 = .ok (.goto (-36), 3) := by decide +kernel
theorem d_X_levelOfGap_55 : decode b_X_levelOfGap 55 = .ok (.iconst 0, 1) := by decide +kernel
theorem d_X_levelOfGap_56 : decode b_X_levelOfGap 56 = .ok (.ireturn, 1) := by decide +kernel
theorem d_X_cellOnWay_0 : decode b_X_cellOnWay 0 = .ok (.aload_n 0, 1) := by decide +kernel
theorem d_X_cellOnWay_1 : decode b_X_cellOnWay 1 = .ok (.getfield 26, 3) := by decide +kernel
theorem d_X_cellOnWay_4 : decode b_X_cellOnWay 4 = .ok (.iload_n 1, 1) := by decide +kernel
theorem d_X_cellOnWay_5 : decode b_X_cellOnWay 5 = .ok (.invokevirtual 75, 3) := by decide +kernel
theorem d_X_cellOnWay_8 : decode b_X_cellOnWay 8 = .ok (.istore 5, 2) := by decide +kernel
theorem d_X_cellOnWay_10 : decode b_X_cellOnWay 10 = .ok (.iload_n 2, 1) := by decide +kernel
theorem d_X_cellOnWay_11 : decode b_X_cellOnWay 11 = .ok (.invokestatic 157, 3) := by decide +kernel
theorem d_X_cellOnWay_14 : decode b_X_cellOnWay 14 = .ok (.istore 6, 2) := by decide +kernel
theorem d_X_cellOnWay_16 : decode b_X_cellOnWay 16 = .ok (.iload 6, 2) := by decide +kernel
theorem d_X_cellOnWay_18 : decode b_X_cellOnWay 18 = .ok (.iload 4, 2) := by decide +kernel
theorem d_X_cellOnWay_20 : decode b_X_cellOnWay 20 = .ok (.if_icmp .le 29, 3) := by decide +kernel
theorem d_X_cellOnWay_23 : decode b_X_cellOnWay 23 = .ok (.aload_n 0, 1) := by decide +kernel
theorem d_X_cellOnWay_24 : decode b_X_cellOnWay 24 = .ok (.getfield 26, 3) := by decide +kernel
theorem d_X_cellOnWay_27 : decode b_X_cellOnWay 27 = .ok (.iload 5, 2) := by decide +kernel
theorem d_X_cellOnWay_29 : decode b_X_cellOnWay 29 = .ok (.iconst 1, 1) := by decide +kernel
theorem d_X_cellOnWay_30 : decode b_X_cellOnWay 30 = .ok (.iadd, 1) := by decide +kernel
theorem d_X_cellOnWay_31 : decode b_X_cellOnWay 31 = .ok (.iload_n 3, 1) := by decide +kernel
theorem d_X_cellOnWay_32 : decode b_X_cellOnWay 32 = .ok (.iload 6, 2) := by decide +kernel
theorem d_X_cellOnWay_34 : decode b_X_cellOnWay 34 = .ok (.invokestatic 160, 3) := by decide +kernel
theorem d_X_cellOnWay_37 : decode b_X_cellOnWay 37 = .ok (.iadd, 1) := by decide +kernel
theorem d_X_cellOnWay_38 : decode b_X_cellOnWay 38 = .ok (.invokevirtual 68, 3) := by decide +kernel
theorem d_X_cellOnWay_41 : decode b_X_cellOnWay 41 = .ok (.istore 5, 2) := by decide +kernel
theorem d_X_cellOnWay_43 : decode b_X_cellOnWay 43 = .ok (.iinc 6 (-1), 3) := by decide +kernel
theorem d_X_cellOnWay_46 : decode b_X_cellOnWay 46 = .ok (.goto (-30), 3) := by decide +kernel
theorem d_X_cellOnWay_49 : decode b_X_cellOnWay 49 = .ok (.iload 5, 2) := by decide +kernel
theorem d_X_cellOnWay_51 : decode b_X_cellOnWay 51 = .ok (.iconst 1, 1) := by decide +kernel
theorem d_X_cellOnWay_52 : decode b_X_cellOnWay 52 = .ok (.iadd, 1) := by decide +kernel
theorem d_X_cellOnWay_53 : decode b_X_cellOnWay 53 = .ok (.iload_n 3, 1) := by decide +kernel
theorem d_X_cellOnWay_54 : decode b_X_cellOnWay 54 = .ok (.iload 4, 2) := by decide +kernel
theorem d_X_cellOnWay_56 : decode b_X_cellOnWay 56 = .ok (.invokestatic 160, 3) := by decide +kernel
theorem d_X_cellOnWay_59 : decode b_X_cellOnWay 59 = .ok (.iadd, 1) := by decide +kernel
theorem d_X_cellOnWay_60 : decode b_X_cellOnWay 60 = .ok (.ireturn, 1) := by decide +kernel
theorem d_X_slot_0 : decode b_X_slot 0 = .ok (.iload_n 1, 1) := by decide +kernel
theorem d_X_slot_1 : decode b_X_slot 1 = .ok (.ifCond .ne 7, 3) := by decide +kernel
theorem d_X_slot_4 : decode b_X_slot 4 = .ok (.iload_n 0, 1) := by decide +kernel
theorem d_X_slot_5 : decode b_X_slot 5 = .ok (.goto 20, 3) := by decide +kernel
theorem d_X_slot_8 : decode b_X_slot 8 = .ok (.iload_n 1, 1) := by decide +kernel
theorem d_X_slot_9 : decode b_X_slot 9 = .ok (.iconst 1, 1) := by decide +kernel
theorem d_X_slot_10 : decode b_X_slot 10 = .ok (.if_icmp .ne 10, 3) := by decide +kernel
theorem d_X_slot_13 : decode b_X_slot 13 = .ok (.iload_n 0, 1) := by decide +kernel
theorem d_X_slot_14 : decode b_X_slot 14 = .ok (.bipush 15, 2) := by decide +kernel
theorem d_X_slot_16 : decode b_X_slot 16 = .ok (.idiv, 1) := by decide +kernel
theorem d_X_slot_17 : decode b_X_slot 17 = .ok (.goto 8, 3) := by decide +kernel
theorem d_X_slot_20 : decode b_X_slot 20 = .ok (.iload_n 0, 1) := by decide +kernel
theorem d_X_slot_21 : decode b_X_slot 21 = .ok (.sipush 225, 3) := by decide +kernel
theorem d_X_slot_24 : decode b_X_slot 24 = .ok (.idiv, 1) := by decide +kernel
theorem d_X_slot_25 : decode b_X_slot 25 = .ok (.istore_n 2, 1) := by decide +kernel
theorem d_X_slot_26 : decode b_X_slot 26 = .ok (.iload_n 2, 1) := by decide +kernel
theorem d_X_slot_27 : decode b_X_slot 27 = .ok (.bipush 15, 2) := by decide +kernel
theorem d_X_slot_29 : decode b_X_slot 29 = .ok (.irem, 1) := by decide +kernel
theorem d_X_slot_30 : decode b_X_slot 30 = .ok (.ireturn, 1) := by decide +kernel
end
section
/-! ===== decode rows of StepHeap$Cells ===== -/
theorem d_C_init_0 : decode b_C_init 0 = .ok (.aload_n 0, 1) := by decide +kernel
theorem d_C_init_1 : decode b_C_init 1 = .ok (.invokespecial 1, 3) := by decide +kernel
theorem d_C_init_4 : decode b_C_init 4 = .ok (.aload_n 0, 1) := by decide +kernel
theorem d_C_init_5 : decode b_C_init 5 = .ok (.iconst 0, 1) := by decide +kernel
theorem d_C_init_6 : decode b_C_init 6 = .ok (.putfield 7, 3) := by decide +kernel
theorem d_C_init_9 : decode b_C_init 9 = .ok (.aload_n 0, 1) := by decide +kernel
theorem d_C_init_10 : decode b_C_init 10 = .ok (.iconst 1, 1) := by decide +kernel
theorem d_C_init_11 : decode b_C_init 11 = .ok (.putfield 13, 3) := by decide +kernel
theorem d_C_init_14 : decode b_C_init 14 = .ok (.aload_n 0, 1) := by decide +kernel
theorem d_C_init_15 : decode b_C_init 15 = .ok (.iload_n 1, 1) := by decide +kernel
theorem d_C_init_16 : decode b_C_init 16 = .ok (.putfield 17, 3) := by decide +kernel
theorem d_C_init_19 : decode b_C_init 19 = .ok (.aload_n 0, 1) := by decide +kernel
theorem d_C_init_20 : decode b_C_init 20 = .ok (.iload_n 2, 1) := by decide +kernel
theorem d_C_init_21 : decode b_C_init 21 = .ok (.putfield 20, 3) := by decide +kernel
theorem d_C_init_24 : decode b_C_init 24 = .ok (.aload_n 0, 1) := by decide +kernel
theorem d_C_init_25 : decode b_C_init 25 = .ok (.iload_n 1, 1) := by decide +kernel
theorem d_C_init_26 : decode b_C_init 26 = .ok (.bipush 10, 2) := by decide +kernel
theorem d_C_init_28 : decode b_C_init 28 = .ok (.ishr, 1) := by decide +kernel
theorem d_C_init_29 : decode b_C_init 29 = .ok (.iconst 1, 1) := by decide +kernel
theorem d_C_init_30 : decode b_C_init 30 = .ok (.iadd, 1) := by decide +kernel
theorem d_C_init_31 : decode b_C_init 31 = .ok (.anewarray 23, 3) := by decide +kernel
theorem d_C_init_34 : decode b_C_init 34 = .ok (.putfield 25, 3) := by decide +kernel
theorem d_C_init_37 : decode b_C_init 37 = .ok (.return_, 1) := by decide +kernel
theorem d_C_startCall_0 : decode b_C_startCall 0 = .ok (.aload_n 0, 1) := by decide +kernel
theorem d_C_startCall_1 : decode b_C_startCall 1 = .ok (.iconst 0, 1) := by decide +kernel
theorem d_C_startCall_2 : decode b_C_startCall 2 = .ok (.putfield 7, 3) := by decide +kernel
theorem d_C_startCall_5 : decode b_C_startCall 5 = .ok (.return_, 1) := by decide +kernel
theorem d_C_read_0 : decode b_C_read 0 = .ok (.aload_n 0, 1) := by decide +kernel
theorem d_C_read_1 : decode b_C_read 1 = .ok (.invokevirtual 29, 3) := by decide +kernel
theorem d_C_read_4 : decode b_C_read 4 = .ok (.iload_n 1, 1) := by decide +kernel
theorem d_C_read_5 : decode b_C_read 5 = .ok (.iconst 1, 1) := by decide +kernel
theorem d_C_read_6 : decode b_C_read 6 = .ok (.if_icmp .lt 11, 3) := by decide +kernel
theorem d_C_read_9 : decode b_C_read 9 = .ok (.iload_n 1, 1) := by decide +kernel
theorem d_C_read_10 : decode b_C_read 10 = .ok (.aload_n 0, 1) := by decide +kernel
theorem d_C_read_11 : decode b_C_read 11 = .ok (.getfield 17, 3) := by decide +kernel
theorem d_C_read_14 : decode b_C_read 14 = .ok (.if_icmp .le 5, 3) := by decide +kernel
theorem d_C_read_17 : decode b_C_read 17 = .ok (.iconst 0, 1) := by decide +kernel
theorem d_C_read_18 : decode b_C_read 18 = .ok (.ireturn, 1) := by decide +kernel
theorem d_C_read_19 : decode b_C_read 19 = .ok (.aload_n 0, 1) := by decide +kernel
theorem d_C_read_20 : decode b_C_read 20 = .ok (.getfield 25, 3) := by decide +kernel
theorem d_C_read_23 : decode b_C_read 23 = .ok (.iload_n 1, 1) := by decide +kernel
theorem d_C_read_24 : decode b_C_read 24 = .ok (.bipush 10, 2) := by decide +kernel
theorem d_C_read_26 : decode b_C_read 26 = .ok (.ishr, 1) := by decide +kernel
theorem d_C_read_27 : decode b_C_read 27 = .ok (.aaload, 1) := by decide +kernel
theorem d_C_read_28 : decode b_C_read 28 = .ok (.astore_n 2, 1) := by decide +kernel
theorem d_C_read_29 : decode b_C_read 29 = .ok (.aload_n 2, 1) := by decide +kernel
theorem d_C_read_30 : decode b_C_read 30 = .ok (.ifnonnull 7, 3) := by decide +kernel
theorem d_C_read_33 : decode b_C_read 33 = .ok (.iconst 0, 1) := by decide +kernel
theorem d_C_read_34 : decode b_C_read 34 = .ok (.goto 13, 3) := by decide +kernel
theorem d_C_read_37 : decode b_C_read 37 = .ok (.aload_n 2, 1) := by decide +kernel
theorem d_C_read_38 : decode b_C_read 38 = .ok (.getfield 32, 3) := by decide +kernel
theorem d_C_read_41 : decode b_C_read 41 = .ok (.iload_n 1, 1) := by decide +kernel
theorem d_C_read_42 : decode b_C_read 42 = .ok (.sipush 1023, 3) := by decide +kernel
theorem d_C_read_45 : decode b_C_read 45 = .ok (.iand, 1) := by decide +kernel
theorem d_C_read_46 : decode b_C_read 46 = .ok (.iaload, 1) := by decide +kernel
theorem d_C_read_47 : decode b_C_read 47 = .ok (.ireturn, 1) := by decide +kernel
theorem d_C_write_0 : decode b_C_write 0 = .ok (.aload_n 0, 1) := by decide +kernel
theorem d_C_write_1 : decode b_C_write 1 = .ok (.invokevirtual 29, 3) := by decide +kernel
theorem d_C_write_4 : decode b_C_write 4 = .ok (.iload_n 1, 1) := by decide +kernel
theorem d_C_write_5 : decode b_C_write 5 = .ok (.iconst 1, 1) := by decide +kernel
theorem d_C_write_6 : decode b_C_write 6 = .ok (.if_icmp .lt 11, 3) := by decide +kernel
theorem d_C_write_9 : decode b_C_write 9 = .ok (.iload_n 1, 1) := by decide +kernel
theorem d_C_write_10 : decode b_C_write 10 = .ok (.aload_n 0, 1) := by decide +kernel
theorem d_C_write_11 : decode b_C_write 11 = .ok (.getfield 17, 3) := by decide +kernel
theorem d_C_write_14 : decode b_C_write 14 = .ok (.if_icmp .le 4, 3) := by decide +kernel
theorem d_C_write_17 : decode b_C_write 17 = .ok (.return_, 1) := by decide +kernel
theorem d_C_write_18 : decode b_C_write 18 = .ok (.aload_n 0, 1) := by decide +kernel
theorem d_C_write_19 : decode b_C_write 19 = .ok (.getfield 25, 3) := by decide +kernel
theorem d_C_write_22 : decode b_C_write 22 = .ok (.iload_n 1, 1) := by decide +kernel
theorem d_C_write_23 : decode b_C_write 23 = .ok (.bipush 10, 2) := by decide +kernel
theorem d_C_write_25 : decode b_C_write 25 = .ok (.ishr, 1) := by decide +kernel
theorem d_C_write_26 : decode b_C_write 26 = .ok (.aaload, 1) := by decide +kernel
theorem d_C_write_27 : decode b_C_write 27 = .ok (.astore_n 3, 1) := by decide +kernel
theorem d_C_write_28 : decode b_C_write 28 = .ok (.aload_n 3, 1) := by decide +kernel
theorem d_C_write_29 : decode b_C_write 29 = .ok (.ifnonnull 21, 3) := by decide +kernel
theorem d_C_write_32 : decode b_C_write 32 = .ok (.new 23, 3) := by decide +kernel
theorem d_C_write_35 : decode b_C_write 35 = .ok (.dup, 1) := by decide +kernel
theorem d_C_write_36 : decode b_C_write 36 = .ok (.invokespecial 36, 3) := by decide +kernel
theorem d_C_write_39 : decode b_C_write 39 = .ok (.astore_n 3, 1) := by decide +kernel
theorem d_C_write_40 : decode b_C_write 40 = .ok (.aload_n 0, 1) := by decide +kernel
theorem d_C_write_41 : decode b_C_write 41 = .ok (.getfield 25, 3) := by decide +kernel
theorem d_C_write_44 : decode b_C_write 44 = .ok (.iload_n 1, 1) := by decide +kernel
theorem d_C_write_45 : decode b_C_write 45 = .ok (.bipush 10, 2) := by decide +kernel
theorem d_C_write_47 : decode b_C_write 47 = .ok (.ishr, 1) := by decide +kernel
theorem d_C_write_48 : decode b_C_write 48 = .ok (.aload_n 3, 1) := by decide +kernel
theorem d_C_write_49 : decode b_C_write 49 = .ok (.aastore, 1) := by decide +kernel
theorem d_C_write_50 : decode b_C_write 50 = .ok (.aload_n 3, 1) := by decide +kernel
theorem d_C_write_51 : decode b_C_write 51 = .ok (.getfield 32, 3) := by decide +kernel
theorem d_C_write_54 : decode b_C_write 54 = .ok (.iload_n 1, 1) := by decide +kernel
theorem d_C_write_55 : decode b_C_write 55 = .ok (.sipush 1023, 3) := by decide +kernel
theorem d_C_write_58 : decode b_C_write 58 = .ok (.iand, 1) := by decide +kernel
theorem d_C_write_59 : decode b_C_write 59 = .ok (.iload_n 2, 1) := by decide +kernel
theorem d_C_write_60 : decode b_C_write 60 = .ok (.iastore, 1) := by decide +kernel
theorem d_C_write_61 : decode b_C_write 61 = .ok (.return_, 1) := by decide +kernel
theorem d_C_touch_0 : decode b_C_touch 0 = .ok (.aload_n 0, 1) := by decide +kernel
theorem d_C_touch_1 : decode b_C_touch 1 = .ok (.dup, 1) := by decide +kernel
theorem d_C_touch_2 : decode b_C_touch 2 = .ok (.getfield 7, 3) := by decide +kernel
theorem d_C_touch_5 : decode b_C_touch 5 = .ok (.iconst 1, 1) := by decide +kernel
theorem d_C_touch_6 : decode b_C_touch 6 = .ok (.iadd, 1) := by decide +kernel
theorem d_C_touch_7 : decode b_C_touch 7 = .ok (.putfield 7, 3) := by decide +kernel
theorem d_C_touch_10 : decode b_C_touch 10 = .ok (.aload_n 0, 1) := by decide +kernel
theorem d_C_touch_11 : decode b_C_touch 11 = .ok (.getfield 7, 3) := by decide +kernel
theorem d_C_touch_14 : decode b_C_touch 14 = .ok (.aload_n 0, 1) := by decide +kernel
theorem d_C_touch_15 : decode b_C_touch 15 = .ok (.getfield 20, 3) := by decide +kernel
theorem d_C_touch_18 : decode b_C_touch 18 = .ok (.if_icmp .le 8, 3) := by decide +kernel
theorem d_C_touch_21 : decode b_C_touch 21 = .ok (.aload_n 0, 1) := by decide +kernel
theorem d_C_touch_22 : decode b_C_touch 22 = .ok (.iconst 0, 1) := by decide +kernel
theorem d_C_touch_23 : decode b_C_touch 23 = .ok (.putfield 13, 3) := by decide +kernel
theorem d_C_touch_26 : decode b_C_touch 26 = .ok (.return_, 1) := by decide +kernel
end
section
/-! ===== decode rows of StepHeap$Head ===== -/
theorem d_H_ofObject_0 : decode b_H_ofObject 0 = .ok (.iconst 1, 1) := by decide +kernel
theorem d_H_ofObject_1 : decode b_H_ofObject 1 = .ok (.iload_n 0, 1) := by decide +kernel
theorem d_H_ofObject_2 : decode b_H_ofObject 2 = .ok (.iconst 1, 1) := by decide +kernel
theorem d_H_ofObject_3 : decode b_H_ofObject 3 = .ok (.ishl, 1) := by decide +kernel
theorem d_H_ofObject_4 : decode b_H_ofObject 4 = .ok (.ior, 1) := by decide +kernel
theorem d_H_ofObject_5 : decode b_H_ofObject 5 = .ok (.iload_n 1, 1) := by decide +kernel
theorem d_H_ofObject_6 : decode b_H_ofObject 6 = .ok (.iconst 5, 1) := by decide +kernel
theorem d_H_ofObject_7 : decode b_H_ofObject 7 = .ok (.ishl, 1) := by decide +kernel
theorem d_H_ofObject_8 : decode b_H_ofObject 8 = .ok (.ior, 1) := by decide +kernel
theorem d_H_ofObject_9 : decode b_H_ofObject 9 = .ok (.ireturn, 1) := by decide +kernel
theorem d_H_ofNode_0 : decode b_H_ofNode 0 = .ok (.iload_n 0, 1) := by decide +kernel
theorem d_H_ofNode_1 : decode b_H_ofNode 1 = .ok (.ifCond .eq 12, 3) := by decide +kernel
theorem d_H_ofNode_4 : decode b_H_ofNode 4 = .ok (.bipush 15, 2) := by decide +kernel
theorem d_H_ofNode_6 : decode b_H_ofNode 6 = .ok (.iconst 0, 1) := by decide +kernel
theorem d_H_ofNode_7 : decode b_H_ofNode 7 = .ok (.invokestatic 11, 3) := by decide +kernel
theorem d_H_ofNode_10 : decode b_H_ofNode 10 = .ok (.goto 9, 3) := by decide +kernel
theorem d_H_ofNode_13 : decode b_H_ofNode 13 = .ok (.iconst 0, 1) := by decide +kernel
theorem d_H_ofNode_14 : decode b_H_ofNode 14 = .ok (.bipush 15, 2) := by decide +kernel
theorem d_H_ofNode_16 : decode b_H_ofNode 16 = .ok (.invokestatic 11, 3) := by decide +kernel
theorem d_H_ofNode_19 : decode b_H_ofNode 19 = .ok (.ireturn, 1) := by decide +kernel
theorem d_H_ofArray_0 : decode b_H_ofArray 0 = .ok (.iload_n 1, 1) := by decide +kernel
theorem d_H_ofArray_1 : decode b_H_ofArray 1 = .ok (.ifCond .ne 9, 3) := by decide +kernel
theorem d_H_ofArray_4 : decode b_H_ofArray 4 = .ok (.iload_n 0, 1) := by decide +kernel
theorem d_H_ofArray_5 : decode b_H_ofArray 5 = .ok (.bipush 15, 2) := by decide +kernel
theorem d_H_ofArray_7 : decode b_H_ofArray 7 = .ok (.if_icmp .le 7, 3) := by decide +kernel
theorem d_H_ofArray_10 : decode b_H_ofArray 10 = .ok (.iconst 1, 1) := by decide +kernel
theorem d_H_ofArray_11 : decode b_H_ofArray 11 = .ok (.goto 4, 3) := by decide +kernel
theorem d_H_ofArray_14 : decode b_H_ofArray 14 = .ok (.iconst 0, 1) := by decide +kernel
theorem d_H_ofArray_15 : decode b_H_ofArray 15 = .ok (.invokestatic 15, 3) := by decide +kernel
theorem d_H_ofArray_18 : decode b_H_ofArray 18 = .ok (.istore_n 2, 1) := by decide +kernel
theorem d_H_ofArray_19 : decode b_H_ofArray 19 = .ok (.iload_n 2, 1) := by decide +kernel
theorem d_H_ofArray_20 : decode b_H_ofArray 20 = .ok (.sipush 512, 3) := by decide +kernel
theorem d_H_ofArray_23 : decode b_H_ofArray 23 = .ok (.ior, 1) := by decide +kernel
theorem d_H_ofArray_24 : decode b_H_ofArray 24 = .ok (.iload_n 1, 1) := by decide +kernel
theorem d_H_ofArray_25 : decode b_H_ofArray 25 = .ok (.ifCond .eq 9, 3) := by decide +kernel
theorem d_H_ofArray_28 : decode b_H_ofArray 28 = .ok (.sipush 1024, 3) := by decide +kernel
theorem d_H_ofArray_31 : decode b_H_ofArray 31 = .ok (.goto 4, 3) := by decide +kernel
theorem d_H_ofArray_34 : decode b_H_ofArray 34 = .ok (.iconst 0, 1) := by decide +kernel
theorem d_H_ofArray_35 : decode b_H_ofArray 35 = .ok (.ior, 1) := by decide +kernel
theorem d_H_ofArray_36 : decode b_H_ofArray 36 = .ok (.iload_n 0, 1) := by decide +kernel
theorem d_H_ofArray_37 : decode b_H_ofArray 37 = .ok (.bipush 11, 2) := by decide +kernel
theorem d_H_ofArray_39 : decode b_H_ofArray 39 = .ok (.ishl, 1) := by decide +kernel
theorem d_H_ofArray_40 : decode b_H_ofArray 40 = .ok (.ior, 1) := by decide +kernel
theorem d_H_ofArray_41 : decode b_H_ofArray 41 = .ok (.ireturn, 1) := by decide +kernel
theorem d_H_traced_0 : decode b_H_traced 0 = .ok (.iload_n 0, 1) := by decide +kernel
theorem d_H_traced_1 : decode b_H_traced 1 = .ok (.iconst 1, 1) := by decide +kernel
theorem d_H_traced_2 : decode b_H_traced 2 = .ok (.ishr, 1) := by decide +kernel
theorem d_H_traced_3 : decode b_H_traced 3 = .ok (.bipush 15, 2) := by decide +kernel
theorem d_H_traced_5 : decode b_H_traced 5 = .ok (.iand, 1) := by decide +kernel
theorem d_H_traced_6 : decode b_H_traced 6 = .ok (.ireturn, 1) := by decide +kernel
theorem d_H_plain_0 : decode b_H_plain 0 = .ok (.iload_n 0, 1) := by decide +kernel
theorem d_H_plain_1 : decode b_H_plain 1 = .ok (.iconst 5, 1) := by decide +kernel
theorem d_H_plain_2 : decode b_H_plain 2 = .ok (.ishr, 1) := by decide +kernel
theorem d_H_plain_3 : decode b_H_plain 3 = .ok (.bipush 15, 2) := by decide +kernel
theorem d_H_plain_5 : decode b_H_plain 5 = .ok (.iand, 1) := by decide +kernel
theorem d_H_plain_6 : decode b_H_plain 6 = .ok (.ireturn, 1) := by decide +kernel
theorem d_H_cells_0 : decode b_H_cells 0 = .ok (.iconst 1, 1) := by decide +kernel
theorem d_H_cells_1 : decode b_H_cells 1 = .ok (.iload_n 0, 1) := by decide +kernel
theorem d_H_cells_2 : decode b_H_cells 2 = .ok (.invokestatic 19, 3) := by decide +kernel
theorem d_H_cells_5 : decode b_H_cells 5 = .ok (.iadd, 1) := by decide +kernel
theorem d_H_cells_6 : decode b_H_cells 6 = .ok (.iload_n 0, 1) := by decide +kernel
theorem d_H_cells_7 : decode b_H_cells 7 = .ok (.invokestatic 23, 3) := by decide +kernel
theorem d_H_cells_10 : decode b_H_cells 10 = .ok (.iadd, 1) := by decide +kernel
theorem d_H_cells_11 : decode b_H_cells 11 = .ok (.ireturn, 1) := by decide +kernel
theorem d_H_isArray_0 : decode b_H_isArray 0 = .ok (.iload_n 0, 1) := by decide +kernel
theorem d_H_isArray_1 : decode b_H_isArray 1 = .ok (.sipush 512, 3) := by decide +kernel
theorem d_H_isArray_4 : decode b_H_isArray 4 = .ok (.iand, 1) := by decide +kernel
theorem d_H_isArray_5 : decode b_H_isArray 5 = .ok (.ifCond .eq 7, 3) := by decide +kernel
theorem d_H_isArray_8 : decode b_H_isArray 8 = .ok (.iconst 1, 1) := by decide +kernel
theorem d_H_isArray_9 : decode b_H_isArray 9 = .ok (.goto 4, 3) := by decide +kernel
theorem d_H_isArray_12 : decode b_H_isArray 12 = .ok (.iconst 0, 1) := by decide +kernel
theorem d_H_isArray_13 : decode b_H_isArray 13 = .ok (.ireturn, 1) := by decide +kernel
theorem d_H_hasReferenceItems_0 : decode b_H_hasReferenceItems 0 = .ok (.iload_n 0, 1) := by decide +kernel
theorem d_H_hasReferenceItems_1 : decode b_H_hasReferenceItems 1 = .ok (.sipush 1024, 3) := by decide +kernel
theorem d_H_hasReferenceItems_4 : decode b_H_hasReferenceItems 4 = .ok (.iand, 1) := by decide +kernel
theorem d_H_hasReferenceItems_5 : decode b_H_hasReferenceItems 5 = .ok (.ifCond .eq 7, 3) := by decide +kernel
theorem d_H_hasReferenceItems_8 : decode b_H_hasReferenceItems 8 = .ok (.iconst 1, 1) := by decide +kernel
theorem d_H_hasReferenceItems_9 : decode b_H_hasReferenceItems 9 = .ok (.goto 4, 3) := by decide +kernel
theorem d_H_hasReferenceItems_12 : decode b_H_hasReferenceItems 12 = .ok (.iconst 0, 1) := by decide +kernel
theorem d_H_hasReferenceItems_13 : decode b_H_hasReferenceItems 13 = .ok (.ireturn, 1) := by decide +kernel
theorem d_H_references_0 : decode b_H_references 0 = .ok (.iload_n 0, 1) := by decide +kernel
theorem d_H_references_1 : decode b_H_references 1 = .ok (.invokestatic 26, 3) := by decide +kernel
theorem d_H_references_4 : decode b_H_references 4 = .ok (.ifCond .eq 7, 3) := by decide +kernel
theorem d_H_references_7 : decode b_H_references 7 = .ok (.iconst 0, 1) := by decide +kernel
theorem d_H_references_8 : decode b_H_references 8 = .ok (.goto 7, 3) := by decide +kernel
theorem d_H_references_11 : decode b_H_references 11 = .ok (.iload_n 0, 1) := by decide +kernel
theorem d_H_references_12 : decode b_H_references 12 = .ok (.invokestatic 19, 3) := by decide +kernel
theorem d_H_references_15 : decode b_H_references 15 = .ok (.ireturn, 1) := by decide +kernel
theorem d_H_ints_0 : decode b_H_ints 0 = .ok (.iload_n 0, 1) := by decide +kernel
theorem d_H_ints_1 : decode b_H_ints 1 = .ok (.invokestatic 26, 3) := by decide +kernel
theorem d_H_ints_4 : decode b_H_ints 4 = .ok (.ifCond .eq 7, 3) := by decide +kernel
theorem d_H_ints_7 : decode b_H_ints 7 = .ok (.iconst 0, 1) := by decide +kernel
theorem d_H_ints_8 : decode b_H_ints 8 = .ok (.goto 7, 3) := by decide +kernel
theorem d_H_ints_11 : decode b_H_ints 11 = .ok (.iload_n 0, 1) := by decide +kernel
theorem d_H_ints_12 : decode b_H_ints 12 = .ok (.invokestatic 23, 3) := by decide +kernel
theorem d_H_ints_15 : decode b_H_ints 15 = .ok (.ireturn, 1) := by decide +kernel
theorem d_H_length_0 : decode b_H_length 0 = .ok (.iload_n 0, 1) := by decide +kernel
theorem d_H_length_1 : decode b_H_length 1 = .ok (.bipush 11, 2) := by decide +kernel
theorem d_H_length_3 : decode b_H_length 3 = .ok (.ishr, 1) := by decide +kernel
theorem d_H_length_4 : decode b_H_length 4 = .ok (.ireturn, 1) := by decide +kernel
theorem d_H_items_0 : decode b_H_items 0 = .ok (.iload_n 0, 1) := by decide +kernel
theorem d_H_items_1 : decode b_H_items 1 = .ok (.invokestatic 26, 3) := by decide +kernel
theorem d_H_items_4 : decode b_H_items 4 = .ok (.ifCond .eq 18, 3) := by decide +kernel
theorem d_H_items_7 : decode b_H_items 7 = .ok (.iload_n 0, 1) := by decide +kernel
theorem d_H_items_8 : decode b_H_items 8 = .ok (.invokestatic 30, 3) := by decide +kernel
theorem d_H_items_11 : decode b_H_items 11 = .ok (.iload_n 1, 1) := by decide +kernel
theorem d_H_items_12 : decode b_H_items 12 = .ok (.if_icmp .ne 10, 3) := by decide +kernel
theorem d_H_items_15 : decode b_H_items 15 = .ok (.iload_n 0, 1) := by decide +kernel
theorem d_H_items_16 : decode b_H_items 16 = .ok (.invokestatic 33, 3) := by decide +kernel
theorem d_H_items_19 : decode b_H_items 19 = .ok (.goto 4, 3) := by decide +kernel
theorem d_H_items_22 : decode b_H_items 22 = .ok (.iconst 0, 1) := by decide +kernel
theorem d_H_items_23 : decode b_H_items 23 = .ok (.ireturn, 1) := by decide +kernel
theorem d_H_height_0 : decode b_H_height 0 = .ok (.iload_n 0, 1) := by decide +kernel
theorem d_H_height_1 : decode b_H_height 1 = .ok (.invokestatic 33, 3) := by decide +kernel
theorem d_H_height_4 : decode b_H_height 4 = .ok (.istore_n 1, 1) := by decide +kernel
theorem d_H_height_5 : decode b_H_height 5 = .ok (.iload_n 1, 1) := by decide +kernel
theorem d_H_height_6 : decode b_H_height 6 = .ok (.sipush 225, 3) := by decide +kernel
theorem d_H_height_9 : decode b_H_height 9 = .ok (.if_icmp .le 7, 3) := by decide +kernel
theorem d_H_height_12 : decode b_H_height 12 = .ok (.iconst 2, 1) := by decide +kernel
theorem d_H_height_13 : decode b_H_height 13 = .ok (.goto 14, 3) := by decide +kernel
theorem d_H_height_16 : decode b_H_height 16 = .ok (.iload_n 1, 1) := by decide +kernel
theorem d_H_height_17 : decode b_H_height 17 = .ok (.bipush 15, 2) := by decide +kernel
theorem d_H_height_19 : decode b_H_height 19 = .ok (.if_icmp .le 7, 3) := by decide +kernel
theorem d_H_height_22 : decode b_H_height 22 = .ok (.iconst 1, 1) := by decide +kernel
theorem d_H_height_23 : decode b_H_height 23 = .ok (.goto 4, 3) := by decide +kernel
theorem d_H_height_26 : decode b_H_height 26 = .ok (.iconst 0, 1) := by decide +kernel
theorem d_H_height_27 : decode b_H_height 27 = .ok (.ireturn, 1) := by decide +kernel
end
section
/-! ===== decode rows of StepHeap$Mover ===== -/
theorem d_M_init_0 : decode b_M_init 0 = .ok (.aload_n 0, 1) := by decide +kernel
theorem d_M_init_1 : decode b_M_init 1 = .ok (.invokespecial 3, 3) := by decide +kernel
theorem d_M_init_4 : decode b_M_init 4 = .ok (.aload_n 0, 1) := by decide +kernel
theorem d_M_init_5 : decode b_M_init 5 = .ok (.bipush 8, 2) := by decide +kernel
theorem d_M_init_7 : decode b_M_init 7 = .ok (.newarray .int, 2) := by decide +kernel
theorem d_M_init_9 : decode b_M_init 9 = .ok (.putfield 9, 3) := by decide +kernel
theorem d_M_init_12 : decode b_M_init 12 = .ok (.aload_n 0, 1) := by decide +kernel
theorem d_M_init_13 : decode b_M_init 13 = .ok (.iconst 0, 1) := by decide +kernel
theorem d_M_init_14 : decode b_M_init 14 = .ok (.putfield 15, 3) := by decide +kernel
theorem d_M_init_17 : decode b_M_init 17 = .ok (.aload_n 0, 1) := by decide +kernel
theorem d_M_init_18 : decode b_M_init 18 = .ok (.iconst 0, 1) := by decide +kernel
theorem d_M_init_19 : decode b_M_init 19 = .ok (.putfield 19, 3) := by decide +kernel
theorem d_M_init_22 : decode b_M_init 22 = .ok (.aload_n 0, 1) := by decide +kernel
theorem d_M_init_23 : decode b_M_init 23 = .ok (.new 22, 3) := by decide +kernel
theorem d_M_init_26 : decode b_M_init 26 = .ok (.dup, 1) := by decide +kernel
theorem d_M_init_27 : decode b_M_init 27 = .ok (.iconst 2, 1) := by decide +kernel
theorem d_M_init_28 : decode b_M_init 28 = .ok (.iload_n 1, 1) := by decide +kernel
theorem d_M_init_29 : decode b_M_init 29 = .ok (.imul, 1) := by decide +kernel
theorem d_M_init_30 : decode b_M_init 30 = .ok (.sipush 700, 3) := by decide +kernel
theorem d_M_init_33 : decode b_M_init 33 = .ok (.iload_n 2, 1) := by decide +kernel
theorem d_M_init_34 : decode b_M_init 34 = .ok (.imul, 1) := by decide +kernel
theorem d_M_init_35 : decode b_M_init 35 = .ok (.sipush 200, 3) := by decide +kernel
theorem d_M_init_38 : decode b_M_init 38 = .ok (.iadd, 1) := by decide +kernel
theorem d_M_init_39 : decode b_M_init 39 = .ok (.invokespecial 24, 3) := by decide +kernel
theorem d_M_init_42 : decode b_M_init 42 = .ok (.putfield 27, 3) := by decide +kernel
theorem d_M_init_45 : decode b_M_init 45 = .ok (.aload_n 0, 1) := by decide +kernel
theorem d_M_init_46 : decode b_M_init 46 = .ok (.iload_n 1, 1) := by decide +kernel
theorem d_M_init_47 : decode b_M_init 47 = .ok (.putfield 31, 3) := by decide +kernel
theorem d_M_init_50 : decode b_M_init 50 = .ok (.aload_n 0, 1) := by decide +kernel
theorem d_M_init_51 : decode b_M_init 51 = .ok (.iload_n 2, 1) := by decide +kernel
theorem d_M_init_52 : decode b_M_init 52 = .ok (.putfield 34, 3) := by decide +kernel
theorem d_M_init_55 : decode b_M_init 55 = .ok (.aload_n 0, 1) := by decide +kernel
theorem d_M_init_56 : decode b_M_init 56 = .ok (.iload_n 3, 1) := by decide +kernel
theorem d_M_init_57 : decode b_M_init 57 = .ok (.putfield 37, 3) := by decide +kernel
theorem d_M_init_60 : decode b_M_init 60 = .ok (.aload_n 0, 1) := by decide +kernel
theorem d_M_init_61 : decode b_M_init 61 = .ok (.iconst 1, 1) := by decide +kernel
theorem d_M_init_62 : decode b_M_init 62 = .ok (.invokevirtual 40, 3) := by decide +kernel
theorem d_M_init_65 : decode b_M_init 65 = .ok (.return_, 1) := by decide +kernel
theorem d_M_register_0 : decode b_M_register 0 = .ok (.iload_n 1, 1) := by decide +kernel
theorem d_M_register_1 : decode b_M_register 1 = .ok (.invokestatic 44, 3) := by decide +kernel
theorem d_M_register_4 : decode b_M_register 4 = .ok (.ifCond .eq 12, 3) := by decide +kernel
theorem d_M_register_7 : decode b_M_register 7 = .ok (.aload_n 0, 1) := by decide +kernel
theorem d_M_register_8 : decode b_M_register 8 = .ok (.getfield 9, 3) := by decide +kernel
theorem d_M_register_11 : decode b_M_register 11 = .ok (.iload_n 1, 1) := by decide +kernel
theorem d_M_register_12 : decode b_M_register 12 = .ok (.iaload, 1) := by decide +kernel
theorem d_M_register_13 : decode b_M_register 13 = .ok (.goto 4, 3) := by decide +kernel
theorem d_M_register_16 : decode b_M_register 16 = .ok (.iconst 0, 1) := by decide +kernel
theorem d_M_register_17 : decode b_M_register 17 = .ok (.ireturn, 1) := by decide +kernel
theorem d_M_setRegister_0 : decode b_M_setRegister 0 = .ok (.iload_n 1, 1) := by decide +kernel
theorem d_M_setRegister_1 : decode b_M_setRegister 1 = .ok (.invokestatic 44, 3) := by decide +kernel
theorem d_M_setRegister_4 : decode b_M_setRegister 4 = .ok (.ifCond .eq 10, 3) := by decide +kernel
theorem d_M_setRegister_7 : decode b_M_setRegister 7 = .ok (.aload_n 0, 1) := by decide +kernel
theorem d_M_setRegister_8 : decode b_M_setRegister 8 = .ok (.getfield 9, 3) := by decide +kernel
theorem d_M_setRegister_11 : decode b_M_setRegister 11 = .ok (.iload_n 1, 1) := by decide +kernel
theorem d_M_setRegister_12 : decode b_M_setRegister 12 = .ok (.iload_n 2, 1) := by decide +kernel
theorem d_M_setRegister_13 : decode b_M_setRegister 13 = .ok (.iastore, 1) := by decide +kernel
theorem d_M_setRegister_14 : decode b_M_setRegister 14 = .ok (.return_, 1) := by decide +kernel
theorem d_M_moved_0 : decode b_M_moved 0 = .ok (.aload_n 0, 1) := by decide +kernel
theorem d_M_moved_1 : decode b_M_moved 1 = .ok (.getfield 48, 3) := by decide +kernel
theorem d_M_moved_4 : decode b_M_moved 4 = .ok (.aload_n 0, 1) := by decide +kernel
theorem d_M_moved_5 : decode b_M_moved 5 = .ok (.getfield 51, 3) := by decide +kernel
theorem d_M_moved_8 : decode b_M_moved 8 = .ok (.isub, 1) := by decide +kernel
theorem d_M_moved_9 : decode b_M_moved 9 = .ok (.ireturn, 1) := by decide +kernel
theorem d_M_isDone_0 : decode b_M_isDone 0 = .ok (.aload_n 0, 1) := by decide +kernel
theorem d_M_isDone_1 : decode b_M_isDone 1 = .ok (.getfield 54, 3) := by decide +kernel
theorem d_M_isDone_4 : decode b_M_isDone 4 = .ok (.aload_n 0, 1) := by decide +kernel
theorem d_M_isDone_5 : decode b_M_isDone 5 = .ok (.getfield 48, 3) := by decide +kernel
theorem d_M_isDone_8 : decode b_M_isDone 8 = .ok (.if_icmp .ne 23, 3) := by decide +kernel
theorem d_M_isDone_11 : decode b_M_isDone 11 = .ok (.aload_n 0, 1) := by decide +kernel
theorem d_M_isDone_12 : decode b_M_isDone 12 = .ok (.getfield 34, 3) := by decide +kernel
theorem d_M_isDone_15 : decode b_M_isDone 15 = .ok (.aload_n 0, 1) := by decide +kernel
theorem d_M_isDone_16 : decode b_M_isDone 16 = .ok (.getfield 15, 3) := by decide +kernel
theorem d_M_isDone_19 : decode b_M_isDone 19 = .ok (.imul, 1) := by decide +kernel
theorem d_M_isDone_20 : decode b_M_isDone 20 = .ok (.aload_n 0, 1) := by decide +kernel
theorem d_M_isDone_21 : decode b_M_isDone 21 = .ok (.invokevirtual 57, 3) := by decide +kernel
theorem d_M_isDone_24 : decode b_M_isDone 24 = .ok (.if_icmp .lt 7, 3) := by decide +kernel
theorem d_M_isDone_27 : decode b_M_isDone 27 = .ok (.iconst 1, 1) := by decide +kernel
theorem d_M_isDone_28 : decode b_M_isDone 28 = .ok (.goto 4, 3) := by decide +kernel
theorem d_M_isDone_31 : decode b_M_isDone 31 = .ok (.iconst 0, 1) := by decide +kernel
theorem d_M_isDone_32 : decode b_M_isDone 32 = .ok (.ireturn, 1) := by decide +kernel
theorem d_M_hasRoom_0 : decode b_M_hasRoom 0 = .ok (.aload_n 0, 1) := by decide +kernel
theorem d_M_hasRoom_1 : decode b_M_hasRoom 1 = .ok (.invokevirtual 61, 3) := by decide +kernel
theorem d_M_hasRoom_4 : decode b_M_hasRoom 4 = .ok (.ifCond .ne 5, 3) := by decide +kernel
theorem d_M_hasRoom_7 : decode b_M_hasRoom 7 = .ok (.iconst 1, 1) := by decide +kernel
theorem d_M_hasRoom_8 : decode b_M_hasRoom 8 = .ok (.ireturn, 1) := by decide +kernel
theorem d_M_hasRoom_9 : decode b_M_hasRoom 9 = .ok (.aload_n 0, 1) := by decide +kernel
theorem d_M_hasRoom_10 : decode b_M_hasRoom 10 = .ok (.invokevirtual 57, 3) := by decide +kernel
theorem d_M_hasRoom_13 : decode b_M_hasRoom 13 = .ok (.aload_n 0, 1) := by decide +kernel
theorem d_M_hasRoom_14 : decode b_M_hasRoom 14 = .ok (.getfield 37, 3) := by decide +kernel
theorem d_M_hasRoom_17 : decode b_M_hasRoom 17 = .ok (.if_icmp .le 5, 3) := by decide +kernel
theorem d_M_hasRoom_20 : decode b_M_hasRoom 20 = .ok (.iconst 0, 1) := by decide +kernel
theorem d_M_hasRoom_21 : decode b_M_hasRoom 21 = .ok (.ireturn, 1) := by decide +kernel
theorem d_M_hasRoom_22 : decode b_M_hasRoom 22 = .ok (.aload_n 0, 1) := by decide +kernel
theorem d_M_hasRoom_23 : decode b_M_hasRoom 23 = .ok (.invokevirtual 57, 3) := by decide +kernel
theorem d_M_hasRoom_26 : decode b_M_hasRoom 26 = .ok (.aload_n 0, 1) := by decide +kernel
theorem d_M_hasRoom_27 : decode b_M_hasRoom 27 = .ok (.getfield 15, 3) := by decide +kernel
theorem d_M_hasRoom_30 : decode b_M_hasRoom 30 = .ok (.iadd, 1) := by decide +kernel
theorem d_M_hasRoom_31 : decode b_M_hasRoom 31 = .ok (.iload_n 1, 1) := by decide +kernel
theorem d_M_hasRoom_32 : decode b_M_hasRoom 32 = .ok (.iadd, 1) := by decide +kernel
theorem d_M_hasRoom_33 : decode b_M_hasRoom 33 = .ok (.aload_n 0, 1) := by decide +kernel
theorem d_M_hasRoom_34 : decode b_M_hasRoom 34 = .ok (.getfield 37, 3) := by decide +kernel
theorem d_M_hasRoom_37 : decode b_M_hasRoom 37 = .ok (.if_icmp .le 7, 3) := by decide +kernel
theorem d_M_hasRoom_40 : decode b_M_hasRoom 40 = .ok (.aload_n 0, 1) := by decide +kernel
theorem d_M_hasRoom_41 : decode b_M_hasRoom 41 = .ok (.invokevirtual 65, 3) := by decide +kernel
theorem d_M_hasRoom_44 : decode b_M_hasRoom 44 = .ok (.iconst 1, 1) := by decide +kernel
theorem d_M_hasRoom_45 : decode b_M_hasRoom 45 = .ok (.ireturn, 1) := by decide +kernel
theorem d_M_place_0 : decode b_M_place 0 = .ok (.iload_n 1, 1) := by decide +kernel
theorem d_M_place_1 : decode b_M_place 1 = .ok (.invokestatic 68, 3) := by decide +kernel
theorem d_M_place_4 : decode b_M_place 4 = .ok (.istore_n 2, 1) := by decide +kernel
theorem d_M_place_5 : decode b_M_place 5 = .ok (.aload_n 0, 1) := by decide +kernel
theorem d_M_place_6 : decode b_M_place 6 = .ok (.dup, 1) := by decide +kernel
theorem d_M_place_7 : decode b_M_place 7 = .ok (.getfield 73, 3) := by decide +kernel
theorem d_M_place_10 : decode b_M_place 10 = .ok (.iload_n 2, 1) := by decide +kernel
theorem d_M_place_11 : decode b_M_place 11 = .ok (.isub, 1) := by decide +kernel
theorem d_M_place_12 : decode b_M_place 12 = .ok (.putfield 73, 3) := by decide +kernel
theorem d_M_place_15 : decode b_M_place 15 = .ok (.aload_n 0, 1) := by decide +kernel
theorem d_M_place_16 : decode b_M_place 16 = .ok (.getfield 27, 3) := by decide +kernel
theorem d_M_place_19 : decode b_M_place 19 = .ok (.aload_n 0, 1) := by decide +kernel
theorem d_M_place_20 : decode b_M_place 20 = .ok (.getfield 73, 3) := by decide +kernel
theorem d_M_place_23 : decode b_M_place 23 = .ok (.iload_n 1, 1) := by decide +kernel
theorem d_M_place_24 : decode b_M_place 24 = .ok (.invokevirtual 76, 3) := by decide +kernel
theorem d_M_place_27 : decode b_M_place 27 = .ok (.iconst 1, 1) := by decide +kernel
theorem d_M_place_28 : decode b_M_place 28 = .ok (.istore_n 3, 1) := by decide +kernel
theorem d_M_place_29 : decode b_M_place 29 = .ok (.iload_n 3, 1) := by decide +kernel
theorem d_M_place_30 : decode b_M_place 30 = .ok (.iload_n 2, 1) := by decide +kernel
theorem d_M_place_31 : decode b_M_place 31 = .ok (.if_icmp .ge 23, 3) := by decide +kernel
theorem d_M_place_34 : decode b_M_place 34 = .ok (.aload_n 0, 1) := by decide +kernel
theorem d_M_place_35 : decode b_M_place 35 = .ok (.getfield 27, 3) := by decide +kernel
theorem d_M_place_38 : decode b_M_place 38 = .ok (.aload_n 0, 1) := by decide +kernel
theorem d_M_place_39 : decode b_M_place 39 = .ok (.getfield 73, 3) := by decide +kernel
theorem d_M_place_42 : decode b_M_place 42 = .ok (.iload_n 3, 1) := by decide +kernel
theorem d_M_place_43 : decode b_M_place 43 = .ok (.iadd, 1) := by decide +kernel
theorem d_M_place_44 : decode b_M_place 44 = .ok (.iconst 0, 1) := by decide +kernel
theorem d_M_place_45 : decode b_M_place 45 = .ok (.invokevirtual 76, 3) := by decide +kernel
theorem d_M_place_48 : decode b_M_place 48 = .ok (.iinc 3 1, 3) := by decide +kernel
theorem d_M_place_51 : decode b_M_place 51 = .ok (.goto (-22), 3) := by decide +kernel
theorem d_M_place_54 : decode b_M_place 54 = .ok (.aload_n 0, 1) := by decide +kernel
theorem d_M_place_55 : decode b_M_place 55 = .ok (.dup, 1) := by decide +kernel
theorem d_M_place_56 : decode b_M_place 56 = .ok (.getfield 15, 3) := by decide +kernel
theorem d_M_place_59 : decode b_M_place 59 = .ok (.iload_n 2, 1) := by decide +kernel
theorem d_M_place_60 : decode b_M_place 60 = .ok (.iadd, 1) := by decide +kernel
theorem d_M_place_61 : decode b_M_place 61 = .ok (.putfield 15, 3) := by decide +kernel
theorem d_M_place_64 : decode b_M_place 64 = .ok (.aload_n 0, 1) := by decide +kernel
theorem d_M_place_65 : decode b_M_place 65 = .ok (.invokevirtual 79, 3) := by decide +kernel
theorem d_M_place_68 : decode b_M_place 68 = .ok (.aload_n 0, 1) := by decide +kernel
theorem d_M_place_69 : decode b_M_place 69 = .ok (.getfield 73, 3) := by decide +kernel
theorem d_M_place_72 : decode b_M_place 72 = .ok (.ireturn, 1) := by decide +kernel
theorem d_M_follow_0 : decode b_M_follow 0 = .ok (.aload_n 0, 1) := by decide +kernel
theorem d_M_follow_1 : decode b_M_follow 1 = .ok (.aload_n 0, 1) := by decide +kernel
theorem d_M_follow_2 : decode b_M_follow 2 = .ok (.getfield 27, 3) := by decide +kernel
theorem d_M_follow_5 : decode b_M_follow 5 = .ok (.iload_n 1, 1) := by decide +kernel
theorem d_M_follow_6 : decode b_M_follow 6 = .ok (.invokevirtual 82, 3) := by decide +kernel
theorem d_M_follow_9 : decode b_M_follow 9 = .ok (.invokevirtual 85, 3) := by decide +kernel
theorem d_M_follow_12 : decode b_M_follow 12 = .ok (.ireturn, 1) := by decide +kernel
theorem d_M_link_0 : decode b_M_link 0 = .ok (.aload_n 0, 1) := by decide +kernel
theorem d_M_link_1 : decode b_M_link 1 = .ok (.iload_n 1, 1) := by decide +kernel
theorem d_M_link_2 : decode b_M_link 2 = .ok (.invokevirtual 88, 3) := by decide +kernel
theorem d_M_link_5 : decode b_M_link 5 = .ok (.pop, 1) := by decide +kernel
theorem d_M_link_6 : decode b_M_link 6 = .ok (.aload_n 0, 1) := by decide +kernel
theorem d_M_link_7 : decode b_M_link 7 = .ok (.getfield 27, 3) := by decide +kernel
theorem d_M_link_10 : decode b_M_link 10 = .ok (.iload_n 1, 1) := by decide +kernel
theorem d_M_link_11 : decode b_M_link 11 = .ok (.iload_n 2, 1) := by decide +kernel
theorem d_M_link_12 : decode b_M_link 12 = .ok (.invokevirtual 76, 3) := by decide +kernel
theorem d_M_link_15 : decode b_M_link 15 = .ok (.return_, 1) := by decide +kernel
theorem d_M_useHalf_0 : decode b_M_useHalf 0 = .ok (.aload_n 0, 1) := by decide +kernel
theorem d_M_useHalf_1 : decode b_M_useHalf 1 = .ok (.iload_n 1, 1) := by decide +kernel
theorem d_M_useHalf_2 : decode b_M_useHalf 2 = .ok (.putfield 51, 3) := by decide +kernel
theorem d_M_useHalf_5 : decode b_M_useHalf 5 = .ok (.aload_n 0, 1) := by decide +kernel
theorem d_M_useHalf_6 : decode b_M_useHalf 6 = .ok (.iload_n 1, 1) := by decide +kernel
theorem d_M_useHalf_7 : decode b_M_useHalf 7 = .ok (.putfield 48, 3) := by decide +kernel
theorem d_M_useHalf_10 : decode b_M_useHalf 10 = .ok (.aload_n 0, 1) := by decide +kernel
theorem d_M_useHalf_11 : decode b_M_useHalf 11 = .ok (.iload_n 1, 1) := by decide +kernel
theorem d_M_useHalf_12 : decode b_M_useHalf 12 = .ok (.aload_n 0, 1) := by decide +kernel
theorem d_M_useHalf_13 : decode b_M_useHalf 13 = .ok (.getfield 31, 3) := by decide +kernel
theorem d_M_useHalf_16 : decode b_M_useHalf 16 = .ok (.iadd, 1) := by decide +kernel
theorem d_M_useHalf_17 : decode b_M_useHalf 17 = .ok (.putfield 73, 3) := by decide +kernel
theorem d_M_useHalf_20 : decode b_M_useHalf 20 = .ok (.aload_n 0, 1) := by decide +kernel
theorem d_M_useHalf_21 : decode b_M_useHalf 21 = .ok (.iload_n 1, 1) := by decide +kernel
theorem d_M_useHalf_22 : decode b_M_useHalf 22 = .ok (.putfield 54, 3) := by decide +kernel
theorem d_M_useHalf_25 : decode b_M_useHalf 25 = .ok (.aload_n 0, 1) := by decide +kernel
theorem d_M_useHalf_26 : decode b_M_useHalf 26 = .ok (.iload_n 1, 1) := by decide +kernel
theorem d_M_useHalf_27 : decode b_M_useHalf 27 = .ok (.putfield 91, 3) := by decide +kernel
theorem d_M_useHalf_30 : decode b_M_useHalf 30 = .ok (.aload_n 0, 1) := by decide +kernel
theorem d_M_useHalf_31 : decode b_M_useHalf 31 = .ok (.iload_n 1, 1) := by decide +kernel
theorem d_M_useHalf_32 : decode b_M_useHalf 32 = .ok (.putfield 94, 3) := by decide +kernel
theorem d_M_useHalf_35 : decode b_M_useHalf 35 = .ok (.return_, 1) := by decide +kernel
theorem d_M_beginCycle_0 : decode b_M_beginCycle 0 = .ok (.aload_n 0, 1) := by decide +kernel
theorem d_M_beginCycle_1 : decode b_M_beginCycle 1 = .ok (.aload_n 0, 1) := by decide +kernel
theorem d_M_beginCycle_2 : decode b_M_beginCycle 2 = .ok (.getfield 51, 3) := by decide +kernel
theorem d_M_beginCycle_5 : decode b_M_beginCycle 5 = .ok (.iconst 1, 1) := by decide +kernel
theorem d_M_beginCycle_6 : decode b_M_beginCycle 6 = .ok (.if_icmp .ne 12, 3) := by decide +kernel
theorem d_M_beginCycle_9 : decode b_M_beginCycle 9 = .ok (.iconst 1, 1) := by decide +kernel
theorem d_M_beginCycle_10 : decode b_M_beginCycle 10 = .ok (.aload_n 0, 1) := by decide +kernel
theorem d_M_beginCycle_11 : decode b_M_beginCycle 11 = .ok (.getfield 31, 3) := by decide +kernel
theorem d_M_beginCycle_14 : decode b_M_beginCycle 14 = .ok (.iadd, 1) := by decide +kernel
theorem d_M_beginCycle_15 : decode b_M_beginCycle 15 = .ok (.goto 4, 3) := by decide +kernel
theorem d_M_beginCycle_18 : decode b_M_beginCycle 18 = .ok (.iconst 1, 1) := by decide +kernel
theorem d_M_beginCycle_19 : decode b_M_beginCycle 19 = .ok (.invokevirtual 40, 3) := by decide +kernel
theorem d_M_beginCycle_22 : decode b_M_beginCycle 22 = .ok (.aload_n 0, 1) := by decide +kernel
theorem d_M_beginCycle_23 : decode b_M_beginCycle 23 = .ok (.iconst 0, 1) := by decide +kernel
theorem d_M_beginCycle_24 : decode b_M_beginCycle 24 = .ok (.putfield 15, 3) := by decide +kernel
theorem d_M_beginCycle_27 : decode b_M_beginCycle 27 = .ok (.aload_n 0, 1) := by decide +kernel
theorem d_M_beginCycle_28 : decode b_M_beginCycle 28 = .ok (.dup, 1) := by decide +kernel
theorem d_M_beginCycle_29 : decode b_M_beginCycle 29 = .ok (.getfield 19, 3) := by decide +kernel
theorem d_M_beginCycle_32 : decode b_M_beginCycle 32 = .ok (.iconst 1, 1) := by decide +kernel
theorem d_M_beginCycle_33 : decode b_M_beginCycle 33 = .ok (.iadd, 1) := by decide +kernel
theorem d_M_beginCycle_34 : decode b_M_beginCycle 34 = .ok (.putfield 19, 3) := by decide +kernel
theorem d_M_beginCycle_37 : decode b_M_beginCycle 37 = .ok (.iconst 0, 1) := by decide +kernel
theorem d_M_beginCycle_38 : decode b_M_beginCycle 38 = .ok (.istore_n 1, 1) := by decide +kernel
theorem d_M_beginCycle_39 : decode b_M_beginCycle 39 = .ok (.iload_n 1, 1) := by decide +kernel
theorem d_M_beginCycle_40 : decode b_M_beginCycle 40 = .ok (.aload_n 0, 1) := by decide +kernel
theorem d_M_beginCycle_41 : decode b_M_beginCycle 41 = .ok (.getfield 9, 3) := by decide +kernel
theorem d_M_beginCycle_44 : decode b_M_beginCycle 44 = .ok (.arraylength, 1) := by decide +kernel
theorem d_M_beginCycle_45 : decode b_M_beginCycle 45 = .ok (.if_icmp .ge 25, 3) := by decide +kernel
theorem d_M_beginCycle_48 : decode b_M_beginCycle 48 = .ok (.aload_n 0, 1) := by decide +kernel
theorem d_M_beginCycle_49 : decode b_M_beginCycle 49 = .ok (.getfield 9, 3) := by decide +kernel
theorem d_M_beginCycle_52 : decode b_M_beginCycle 52 = .ok (.iload_n 1, 1) := by decide +kernel
theorem d_M_beginCycle_53 : decode b_M_beginCycle 53 = .ok (.aload_n 0, 1) := by decide +kernel
theorem d_M_beginCycle_54 : decode b_M_beginCycle 54 = .ok (.aload_n 0, 1) := by decide +kernel
theorem d_M_beginCycle_55 : decode b_M_beginCycle 55 = .ok (.getfield 9, 3) := by decide +kernel
theorem d_M_beginCycle_58 : decode b_M_beginCycle 58 = .ok (.iload_n 1, 1) := by decide +kernel
theorem d_M_beginCycle_59 : decode b_M_beginCycle 59 = .ok (.iaload, 1) := by decide +kernel
theorem d_M_beginCycle_60 : decode b_M_beginCycle 60 = .ok (.invokevirtual 85, 3) := by decide +kernel
theorem d_M_beginCycle_63 : decode b_M_beginCycle 63 = .ok (.iastore, 1) := by decide +kernel
theorem d_M_beginCycle_64 : decode b_M_beginCycle 64 = .ok (.iinc 1 1, 3) := by decide +kernel
theorem d_M_beginCycle_67 : decode b_M_beginCycle 67 = .ok (.goto (-28), 3) := by decide +kernel
theorem d_M_beginCycle_70 : decode b_M_beginCycle 70 = .ok (.return_, 1) := by decide +kernel
theorem d_M_isOld_0 : decode b_M_isOld 0 = .ok (.iload_n 1, 1) := by decide +kernel
theorem d_M_isOld_1 : decode b_M_isOld 1 = .ok (.ifCond .eq 28, 3) := by decide +kernel
theorem d_M_isOld_4 : decode b_M_isOld 4 = .ok (.iload_n 1, 1) := by decide +kernel
theorem d_M_isOld_5 : decode b_M_isOld 5 = .ok (.aload_n 0, 1) := by decide +kernel
theorem d_M_isOld_6 : decode b_M_isOld 6 = .ok (.getfield 51, 3) := by decide +kernel
theorem d_M_isOld_9 : decode b_M_isOld 9 = .ok (.if_icmp .lt 16, 3) := by decide +kernel
theorem d_M_isOld_12 : decode b_M_isOld 12 = .ok (.iload_n 1, 1) := by decide +kernel
theorem d_M_isOld_13 : decode b_M_isOld 13 = .ok (.aload_n 0, 1) := by decide +kernel
theorem d_M_isOld_14 : decode b_M_isOld 14 = .ok (.getfield 51, 3) := by decide +kernel
theorem d_M_isOld_17 : decode b_M_isOld 17 = .ok (.aload_n 0, 1) := by decide +kernel
theorem d_M_isOld_18 : decode b_M_isOld 18 = .ok (.getfield 31, 3) := by decide +kernel
theorem d_M_isOld_21 : decode b_M_isOld 21 = .ok (.iadd, 1) := by decide +kernel
theorem d_M_isOld_22 : decode b_M_isOld 22 = .ok (.if_icmp .lt 7, 3) := by decide +kernel
theorem d_M_isOld_25 : decode b_M_isOld 25 = .ok (.iconst 1, 1) := by decide +kernel
theorem d_M_isOld_26 : decode b_M_isOld 26 = .ok (.goto 4, 3) := by decide +kernel
theorem d_M_isOld_29 : decode b_M_isOld 29 = .ok (.iconst 0, 1) := by decide +kernel
theorem d_M_isOld_30 : decode b_M_isOld 30 = .ok (.ireturn, 1) := by decide +kernel
theorem d_M_placeInUse_0 : decode b_M_placeInUse 0 = .ok (.aload_n 0, 1) := by decide +kernel
theorem d_M_placeInUse_1 : decode b_M_placeInUse 1 = .ok (.iload_n 1, 1) := by decide +kernel
theorem d_M_placeInUse_2 : decode b_M_placeInUse 2 = .ok (.invokevirtual 97, 3) := by decide +kernel
theorem d_M_placeInUse_5 : decode b_M_placeInUse 5 = .ok (.ifCond .ne 5, 3) := by decide +kernel
theorem d_M_placeInUse_8 : decode b_M_placeInUse 8 = .ok (.iload_n 1, 1) := by decide +kernel
theorem d_M_placeInUse_9 : decode b_M_placeInUse 9 = .ok (.ireturn, 1) := by decide +kernel
theorem d_M_placeInUse_10 : decode b_M_placeInUse 10 = .ok (.aload_n 0, 1) := by decide +kernel
theorem d_M_placeInUse_11 : decode b_M_placeInUse 11 = .ok (.getfield 27, 3) := by decide +kernel
theorem d_M_placeInUse_14 : decode b_M_placeInUse 14 = .ok (.iload_n 1, 1) := by decide +kernel
theorem d_M_placeInUse_15 : decode b_M_placeInUse 15 = .ok (.invokevirtual 82, 3) := by decide +kernel
theorem d_M_placeInUse_18 : decode b_M_placeInUse 18 = .ok (.istore_n 2, 1) := by decide +kernel
theorem d_M_placeInUse_19 : decode b_M_placeInUse 19 = .ok (.iload_n 2, 1) := by decide +kernel
theorem d_M_placeInUse_20 : decode b_M_placeInUse 20 = .ok (.ifCond .ge 6, 3) := by decide +kernel
theorem d_M_placeInUse_23 : decode b_M_placeInUse 23 = .ok (.iload_n 2, 1) := by decide +kernel
theorem d_M_placeInUse_24 : decode b_M_placeInUse 24 = .ok (.ineg, 1) := by decide +kernel
theorem d_M_placeInUse_25 : decode b_M_placeInUse 25 = .ok (.ireturn, 1) := by decide +kernel
theorem d_M_placeInUse_26 : decode b_M_placeInUse 26 = .ok (.aload_n 0, 1) := by decide +kernel
theorem d_M_placeInUse_27 : decode b_M_placeInUse 27 = .ok (.getfield 48, 3) := by decide +kernel
theorem d_M_placeInUse_30 : decode b_M_placeInUse 30 = .ok (.istore_n 3, 1) := by decide +kernel
theorem d_M_placeInUse_31 : decode b_M_placeInUse 31 = .ok (.iload_n 2, 1) := by decide +kernel
theorem d_M_placeInUse_32 : decode b_M_placeInUse 32 = .ok (.invokestatic 68, 3) := by decide +kernel
theorem d_M_placeInUse_35 : decode b_M_placeInUse 35 = .ok (.istore 4, 2) := by decide +kernel
theorem d_M_placeInUse_37 : decode b_M_placeInUse 37 = .ok (.aload_n 0, 1) := by decide +kernel
theorem d_M_placeInUse_38 : decode b_M_placeInUse 38 = .ok (.getfield 27, 3) := by decide +kernel
theorem d_M_placeInUse_41 : decode b_M_placeInUse 41 = .ok (.iload_n 3, 1) := by decide +kernel
theorem d_M_placeInUse_42 : decode b_M_placeInUse 42 = .ok (.iload_n 2, 1) := by decide +kernel
theorem d_M_placeInUse_43 : decode b_M_placeInUse 43 = .ok (.invokevirtual 76, 3) := by decide +kernel
theorem d_M_placeInUse_46 : decode b_M_placeInUse 46 = .ok (.iconst 1, 1) := by decide +kernel
theorem d_M_placeInUse_47 : decode b_M_placeInUse 47 = .ok (.istore 5, 2) := by decide +kernel
theorem d_M_placeInUse_49 : decode b_M_placeInUse 49 = .ok (.iload 5, 2) := by decide +kernel
theorem d_M_placeInUse_51 : decode b_M_placeInUse 51 = .ok (.iload 4, 2) := by decide +kernel
theorem d_M_placeInUse_53 : decode b_M_placeInUse 53 = .ok (.if_icmp .ge 31, 3) := by decide +kernel
theorem d_M_placeInUse_56 : decode b_M_placeInUse 56 = .ok (.aload_n 0, 1) := by decide +kernel
theorem d_M_placeInUse_57 : decode b_M_placeInUse 57 = .ok (.getfield 27, 3) := by decide +kernel
theorem d_M_placeInUse_60 : decode b_M_placeInUse 60 = .ok (.iload_n 3, 1) := by decide +kernel
theorem d_M_placeInUse_61 : decode b_M_placeInUse 61 = .ok (.iload 5, 2) := by decide +kernel
theorem d_M_placeInUse_63 : decode b_M_placeInUse 63 = .ok (.iadd, 1) := by decide +kernel
theorem d_M_placeInUse_64 : decode b_M_placeInUse 64 = .ok (.aload_n 0, 1) := by decide +kernel
theorem d_M_placeInUse_65 : decode b_M_placeInUse 65 = .ok (.getfield 27, 3) := by decide +kernel
theorem d_M_placeInUse_68 : decode b_M_placeInUse 68 = .ok (.iload_n 1, 1) := by decide +kernel
theorem d_M_placeInUse_69 : decode b_M_placeInUse 69 = .ok (.iload 5, 2) := by decide +kernel
theorem d_M_placeInUse_71 : decode b_M_placeInUse 71 = .ok (.iadd, 1) := by decide +kernel
theorem d_M_placeInUse_72 : decode b_M_placeInUse 72 = .ok (.invokevirtual 82, 3) := by decide +kernel
theorem d_M_placeInUse_75 : decode b_M_placeInUse 75 = .ok (.invokevirtual 76, 3) := by decide +kernel
theorem d_M_placeInUse_78 : decode b_M_placeInUse 78 = .ok (.iinc 5 1, 3) := by decide +kernel
theorem d_M_placeInUse_81 : decode b_M_placeInUse 81 = .ok (.goto (-32), 3) := by decide +kernel
theorem d_M_placeInUse_84 : decode b_M_placeInUse 84 = .ok (.aload_n 0, 1) := by decide +kernel
theorem d_M_placeInUse_85 : decode b_M_placeInUse 85 = .ok (.getfield 27, 3) := by decide +kernel
theorem d_M_placeInUse_88 : decode b_M_placeInUse 88 = .ok (.iload_n 1, 1) := by decide +kernel
theorem d_M_placeInUse_89 : decode b_M_placeInUse 89 = .ok (.iload_n 3, 1) := by decide +kernel
theorem d_M_placeInUse_90 : decode b_M_placeInUse 90 = .ok (.ineg, 1) := by decide +kernel
theorem d_M_placeInUse_91 : decode b_M_placeInUse 91 = .ok (.invokevirtual 76, 3) := by decide +kernel
theorem d_M_placeInUse_94 : decode b_M_placeInUse 94 = .ok (.aload_n 0, 1) := by decide +kernel
theorem d_M_placeInUse_95 : decode b_M_placeInUse 95 = .ok (.dup, 1) := by decide +kernel
theorem d_M_placeInUse_96 : decode b_M_placeInUse 96 = .ok (.getfield 48, 3) := by decide +kernel
theorem d_M_placeInUse_99 : decode b_M_placeInUse 99 = .ok (.iload 4, 2) := by decide +kernel
theorem d_M_placeInUse_101 : decode b_M_placeInUse 101 = .ok (.iadd, 1) := by decide +kernel
theorem d_M_placeInUse_102 : decode b_M_placeInUse 102 = .ok (.putfield 48, 3) := by decide +kernel
theorem d_M_placeInUse_105 : decode b_M_placeInUse 105 = .ok (.iload_n 3, 1) := by decide +kernel
theorem d_M_placeInUse_106 : decode b_M_placeInUse 106 = .ok (.ireturn, 1) := by decide +kernel
theorem d_M_work_0 : decode b_M_work 0 = .ok (.aload_n 0, 1) := by decide +kernel
theorem d_M_work_1 : decode b_M_work 1 = .ok (.getfield 51, 3) := by decide +kernel
theorem d_M_work_4 : decode b_M_work 4 = .ok (.aload_n 0, 1) := by decide +kernel
theorem d_M_work_5 : decode b_M_work 5 = .ok (.getfield 34, 3) := by decide +kernel
theorem d_M_work_8 : decode b_M_work 8 = .ok (.aload_n 0, 1) := by decide +kernel
theorem d_M_work_9 : decode b_M_work 9 = .ok (.getfield 15, 3) := by decide +kernel
theorem d_M_work_12 : decode b_M_work 12 = .ok (.imul, 1) := by decide +kernel
theorem d_M_work_13 : decode b_M_work 13 = .ok (.iadd, 1) := by decide +kernel
theorem d_M_work_14 : decode b_M_work 14 = .ok (.istore_n 1, 1) := by decide +kernel
theorem d_M_work_15 : decode b_M_work 15 = .ok (.iconst 0, 1) := by decide +kernel
theorem d_M_work_16 : decode b_M_work 16 = .ok (.istore_n 2, 1) := by decide +kernel
theorem d_M_work_17 : decode b_M_work 17 = .ok (.iload_n 2, 1) := by decide +kernel
theorem d_M_work_18 : decode b_M_work 18 = .ok (.aload_n 0, 1) := by decide +kernel
theorem d_M_work_19 : decode b_M_work 19 = .ok (.getfield 34, 3) := by decide +kernel
theorem d_M_work_22 : decode b_M_work 22 = .ok (.bipush 16, 2) := by decide +kernel
theorem d_M_work_24 : decode b_M_work 24 = .ok (.imul, 1) := by decide +kernel
theorem d_M_work_25 : decode b_M_work 25 = .ok (.if_icmp .ge 137, 3) := by decide +kernel
theorem d_M_work_28 : decode b_M_work 28 = .ok (.aload_n 0, 1) := by decide +kernel
theorem d_M_work_29 : decode b_M_work 29 = .ok (.getfield 54, 3) := by decide +kernel
theorem d_M_work_32 : decode b_M_work 32 = .ok (.aload_n 0, 1) := by decide +kernel
theorem d_M_work_33 : decode b_M_work 33 = .ok (.getfield 48, 3) := by decide +kernel
theorem d_M_work_36 : decode b_M_work 36 = .ok (.if_icmp .ge 126, 3) := by decide +kernel
theorem d_M_work_39 : decode b_M_work 39 = .ok (.aload_n 0, 1) := by decide +kernel
theorem d_M_work_40 : decode b_M_work 40 = .ok (.getfield 54, 3) := by decide +kernel
theorem d_M_work_43 : decode b_M_work 43 = .ok (.iload_n 1, 1) := by decide +kernel
theorem d_M_work_44 : decode b_M_work 44 = .ok (.if_icmp .ge 118, 3) := by decide +kernel
theorem d_M_work_47 : decode b_M_work 47 = .ok (.aload_n 0, 1) := by decide +kernel
theorem d_M_work_48 : decode b_M_work 48 = .ok (.getfield 27, 3) := by decide +kernel
theorem d_M_work_51 : decode b_M_work 51 = .ok (.aload_n 0, 1) := by decide +kernel
theorem d_M_work_52 : decode b_M_work 52 = .ok (.getfield 54, 3) := by decide +kernel
theorem d_M_work_55 : decode b_M_work 55 = .ok (.invokevirtual 82, 3) := by decide +kernel
theorem d_M_work_58 : decode b_M_work 58 = .ok (.istore_n 3, 1) := by decide +kernel
theorem d_M_work_59 : decode b_M_work 59 = .ok (.aload_n 0, 1) := by decide +kernel
theorem d_M_work_60 : decode b_M_work 60 = .ok (.getfield 54, 3) := by decide +kernel
theorem d_M_work_63 : decode b_M_work 63 = .ok (.aload_n 0, 1) := by decide +kernel
theorem d_M_work_64 : decode b_M_work 64 = .ok (.getfield 94, 3) := by decide +kernel
theorem d_M_work_67 : decode b_M_work 67 = .ok (.if_icmp .ne 34, 3) := by decide +kernel
theorem d_M_work_70 : decode b_M_work 70 = .ok (.aload_n 0, 1) := by decide +kernel
theorem d_M_work_71 : decode b_M_work 71 = .ok (.aload_n 0, 1) := by decide +kernel
theorem d_M_work_72 : decode b_M_work 72 = .ok (.getfield 54, 3) := by decide +kernel
theorem d_M_work_75 : decode b_M_work 75 = .ok (.iconst 1, 1) := by decide +kernel
theorem d_M_work_76 : decode b_M_work 76 = .ok (.iadd, 1) := by decide +kernel
theorem d_M_work_77 : decode b_M_work 77 = .ok (.iload_n 3, 1) := by decide +kernel
theorem d_M_work_78 : decode b_M_work 78 = .ok (.invokestatic 100, 3) := by decide +kernel
theorem d_M_work_81 : decode b_M_work 81 = .ok (.iadd, 1) := by decide +kernel
theorem d_M_work_82 : decode b_M_work 82 = .ok (.putfield 91, 3) := by decide +kernel
theorem d_M_work_85 : decode b_M_work 85 = .ok (.aload_n 0, 1) := by decide +kernel
theorem d_M_work_86 : decode b_M_work 86 = .ok (.aload_n 0, 1) := by decide +kernel
theorem d_M_work_87 : decode b_M_work 87 = .ok (.getfield 54, 3) := by decide +kernel
theorem d_M_work_90 : decode b_M_work 90 = .ok (.iload_n 3, 1) := by decide +kernel
theorem d_M_work_91 : decode b_M_work 91 = .ok (.invokestatic 68, 3) := by decide +kernel
theorem d_M_work_94 : decode b_M_work 94 = .ok (.iadd, 1) := by decide +kernel
theorem d_M_work_95 : decode b_M_work 95 = .ok (.putfield 94, 3) := by decide +kernel
theorem d_M_work_98 : decode b_M_work 98 = .ok (.goto 29, 3) := by decide +kernel
theorem d_M_work_101 : decode b_M_work 101 = .ok (.aload_n 0, 1) := by decide +kernel
theorem d_M_work_102 : decode b_M_work 102 = .ok (.iload_n 3, 1) := by decide +kernel
theorem d_M_work_103 : decode b_M_work 103 = .ok (.invokevirtual 85, 3) := by decide +kernel
theorem d_M_work_106 : decode b_M_work 106 = .ok (.istore 4, 2) := by decide +kernel
theorem d_M_work_108 : decode b_M_work 108 = .ok (.iload 4, 2) := by decide +kernel
theorem d_M_work_110 : decode b_M_work 110 = .ok (.iload_n 3, 1) := by decide +kernel
theorem d_M_work_111 : decode b_M_work 111 = .ok (.if_icmp .eq 16, 3) := by decide +kernel
theorem d_M_work_114 : decode b_M_work 114 = .ok (.aload_n 0, 1) := by decide +kernel
theorem d_M_work_115 : decode b_M_work 115 = .ok (.getfield 27, 3) := by decide +kernel
theorem d_M_work_118 : decode b_M_work 118 = .ok (.aload_n 0, 1) := by decide +kernel
theorem d_M_work_119 : decode b_M_work 119 = .ok (.getfield 54, 3) := by decide +kernel
theorem d_M_work_122 : decode b_M_work 122 = .ok (.iload 4, 2) := by decide +kernel
theorem d_M_work_124 : decode b_M_work 124 = .ok (.invokevirtual 76, 3) := by decide +kernel
theorem d_M_work_127 : decode b_M_work 127 = .ok (.aload_n 0, 1) := by decide +kernel
theorem d_M_work_128 : decode b_M_work 128 = .ok (.dup, 1) := by decide +kernel
theorem d_M_work_129 : decode b_M_work 129 = .ok (.getfield 54, 3) := by decide +kernel
theorem d_M_work_132 : decode b_M_work 132 = .ok (.iconst 1, 1) := by decide +kernel
theorem d_M_work_133 : decode b_M_work 133 = .ok (.iadd, 1) := by decide +kernel
theorem d_M_work_134 : decode b_M_work 134 = .ok (.putfield 54, 3) := by decide +kernel
theorem d_M_work_137 : decode b_M_work 137 = .ok (.aload_n 0, 1) := by decide +kernel
theorem d_M_work_138 : decode b_M_work 138 = .ok (.getfield 54, 3) := by decide +kernel
theorem d_M_work_141 : decode b_M_work 141 = .ok (.aload_n 0, 1) := by decide +kernel
theorem d_M_work_142 : decode b_M_work 142 = .ok (.getfield 91, 3) := by decide +kernel
theorem d_M_work_145 : decode b_M_work 145 = .ok (.if_icmp .ne 11, 3) := by decide +kernel
theorem d_M_work_148 : decode b_M_work 148 = .ok (.aload_n 0, 1) := by decide +kernel
theorem d_M_work_149 : decode b_M_work 149 = .ok (.aload_n 0, 1) := by decide +kernel
theorem d_M_work_150 : decode b_M_work 150 = .ok (.getfield 94, 3) := by decide +kernel
theorem d_M_work_153 : decode b_M_work 153 = .ok (.putfield 54, 3) := by decide +kernel
theorem d_M_work_156 : decode b_M_work 156 = .ok (.iinc 2 1, 3) := by decide +kernel
theorem d_M_work_159 : decode b_M_work 159 = .ok (.goto (-142), 3) := by decide +kernel
theorem d_M_work_162 : decode b_M_work 162 = .ok (.return_, 1) := by decide +kernel
end
section
/-! ===== decode rows of StepHeap$Page ===== -/
theorem d_P_init_0 : decode b_P_init 0 = .ok (.aload_n 0, 1) := by decide +kernel
theorem d_P_init_1 : decode b_P_init 1 = .ok (.invokespecial 3, 3) := by decide +kernel
theorem d_P_init_4 : decode b_P_init 4 = .ok (.aload_n 0, 1) := by decide +kernel
theorem d_P_init_5 : decode b_P_init 5 = .ok (.sipush 1024, 3) := by decide +kernel
theorem d_P_init_8 : decode b_P_init 8 = .ok (.newarray .int, 2) := by decide +kernel
theorem d_P_init_10 : decode b_P_init 10 = .ok (.putfield 9, 3) := by decide +kernel
theorem d_P_init_13 : decode b_P_init 13 = .ok (.return_, 1) := by decide +kernel
end
section
/-! ===== decode rows of StepHeapModel ===== -/
theorem d_R_init_0 : decode b_R_init 0 = .ok (.aload_n 0, 1) := by decide +kernel
theorem d_R_init_1 : decode b_R_init 1 = .ok (.invokespecial 1, 3) := by decide +kernel
theorem d_R_init_4 : decode b_R_init 4 = .ok (.aload_n 0, 1) := by decide +kernel
theorem d_R_init_5 : decode b_R_init 5 = .ok (.ldc 9, 2) := by decide +kernel
theorem d_R_init_7 : decode b_R_init 7 = .ok (.newarray .byte, 2) := by decide +kernel
theorem d_R_init_9 : decode b_R_init 9 = .ok (.putfield 10, 3) := by decide +kernel
theorem d_R_init_12 : decode b_R_init 12 = .ok (.aload_n 0, 1) := by decide +kernel
theorem d_R_init_13 : decode b_R_init 13 = .ok (.ldc 9, 2) := by decide +kernel
theorem d_R_init_15 : decode b_R_init 15 = .ok (.newarray .byte, 2) := by decide +kernel
theorem d_R_init_17 : decode b_R_init 17 = .ok (.putfield 14, 3) := by decide +kernel
theorem d_R_init_20 : decode b_R_init 20 = .ok (.aload_n 0, 1) := by decide +kernel
theorem d_R_init_21 : decode b_R_init 21 = .ok (.ldc 9, 2) := by decide +kernel
theorem d_R_init_23 : decode b_R_init 23 = .ok (.newarray .byte, 2) := by decide +kernel
theorem d_R_init_25 : decode b_R_init 25 = .ok (.putfield 17, 3) := by decide +kernel
theorem d_R_init_28 : decode b_R_init 28 = .ok (.aload_n 0, 1) := by decide +kernel
theorem d_R_init_29 : decode b_R_init 29 = .ok (.ldc 9, 2) := by decide +kernel
theorem d_R_init_31 : decode b_R_init 31 = .ok (.newarray .short, 2) := by decide +kernel
theorem d_R_init_33 : decode b_R_init 33 = .ok (.putfield 20, 3) := by decide +kernel
theorem d_R_init_36 : decode b_R_init 36 = .ok (.aload_n 0, 1) := by decide +kernel
theorem d_R_init_37 : decode b_R_init 37 = .ok (.ldc 9, 2) := by decide +kernel
theorem d_R_init_39 : decode b_R_init 39 = .ok (.newarray .boolean, 2) := by decide +kernel
theorem d_R_init_41 : decode b_R_init 41 = .ok (.putfield 24, 3) := by decide +kernel
theorem d_R_init_44 : decode b_R_init 44 = .ok (.aload_n 0, 1) := by decide +kernel
theorem d_R_init_45 : decode b_R_init 45 = .ok (.ldc 28, 2) := by decide +kernel
theorem d_R_init_47 : decode b_R_init 47 = .ok (.newarray .int, 2) := by decide +kernel
theorem d_R_init_49 : decode b_R_init 49 = .ok (.putfield 29, 3) := by decide +kernel
theorem d_R_init_52 : decode b_R_init 52 = .ok (.aload_n 0, 1) := by decide +kernel
theorem d_R_init_53 : decode b_R_init 53 = .ok (.ldc 9, 2) := by decide +kernel
theorem d_R_init_55 : decode b_R_init 55 = .ok (.newarray .int, 2) := by decide +kernel
theorem d_R_init_57 : decode b_R_init 57 = .ok (.putfield 33, 3) := by decide +kernel
theorem d_R_init_60 : decode b_R_init 60 = .ok (.aload_n 0, 1) := by decide +kernel
theorem d_R_init_61 : decode b_R_init 61 = .ok (.bipush 8, 2) := by decide +kernel
theorem d_R_init_63 : decode b_R_init 63 = .ok (.newarray .int, 2) := by decide +kernel
theorem d_R_init_65 : decode b_R_init 65 = .ok (.putfield 36, 3) := by decide +kernel
theorem d_R_init_68 : decode b_R_init 68 = .ok (.aload_n 0, 1) := by decide +kernel
theorem d_R_init_69 : decode b_R_init 69 = .ok (.ldc 9, 2) := by decide +kernel
theorem d_R_init_71 : decode b_R_init 71 = .ok (.newarray .boolean, 2) := by decide +kernel
theorem d_R_init_73 : decode b_R_init 73 = .ok (.putfield 39, 3) := by decide +kernel
theorem d_R_init_76 : decode b_R_init 76 = .ok (.aload_n 0, 1) := by decide +kernel
theorem d_R_init_77 : decode b_R_init 77 = .ok (.ldc 9, 2) := by decide +kernel
theorem d_R_init_79 : decode b_R_init 79 = .ok (.newarray .int, 2) := by decide +kernel
theorem d_R_init_81 : decode b_R_init 81 = .ok (.putfield 42, 3) := by decide +kernel
theorem d_R_init_84 : decode b_R_init 84 = .ok (.iload_n 1, 1) := by decide +kernel
theorem d_R_init_85 : decode b_R_init 85 = .ok (.sipush 1024, 3) := by decide +kernel
theorem d_R_init_88 : decode b_R_init 88 = .ok (.if_icmp .ge 9, 3) := by decide +kernel
theorem d_R_init_91 : decode b_R_init 91 = .ok (.sipush 1024, 3) := by decide +kernel
theorem d_R_init_94 : decode b_R_init 94 = .ok (.goto 15, 3) := by decide +kernel
theorem d_R_init_97 : decode b_R_init 97 = .ok (.iload_n 1, 1) := by decide +kernel
theorem d_R_init_98 : decode b_R_init 98 = .ok (.ldc 45, 2) := by decide +kernel
theorem d_R_init_100 : decode b_R_init 100 = .ok (.if_icmp .le 8, 3) := by decide +kernel
theorem d_R_init_103 : decode b_R_init 103 = .ok (.ldc 45, 2) := by decide +kernel
theorem d_R_init_105 : decode b_R_init 105 = .ok (.goto 4, 3) := by decide +kernel
theorem d_R_init_108 : decode b_R_init 108 = .ok (.iload_n 1, 1) := by decide +kernel
theorem d_R_init_109 : decode b_R_init 109 = .ok (.istore_n 3, 1) := by decide +kernel
theorem d_R_init_110 : decode b_R_init 110 = .ok (.aload_n 0, 1) := by decide +kernel
theorem d_R_init_111 : decode b_R_init 111 = .ok (.iload_n 2, 1) := by decide +kernel
theorem d_R_init_112 : decode b_R_init 112 = .ok (.iconst 1, 1) := by decide +kernel
theorem d_R_init_113 : decode b_R_init 113 = .ok (.if_icmp .ge 7, 3) := by decide +kernel
theorem d_R_init_116 : decode b_R_init 116 = .ok (.iconst 1, 1) := by decide +kernel
theorem d_R_init_117 : decode b_R_init 117 = .ok (.goto 15, 3) := by decide +kernel
theorem d_R_init_120 : decode b_R_init 120 = .ok (.iload_n 2, 1) := by decide +kernel
theorem d_R_init_121 : decode b_R_init 121 = .ok (.bipush 64, 2) := by decide +kernel
theorem d_R_init_123 : decode b_R_init 123 = .ok (.if_icmp .le 8, 3) := by decide +kernel
theorem d_R_init_126 : decode b_R_init 126 = .ok (.bipush 64, 2) := by decide +kernel
theorem d_R_init_128 : decode b_R_init 128 = .ok (.goto 4, 3) := by decide +kernel
theorem d_R_init_131 : decode b_R_init 131 = .ok (.iload_n 2, 1) := by decide +kernel
theorem d_R_init_132 : decode b_R_init 132 = .ok (.putfield 46, 3) := by decide +kernel
theorem d_R_init_135 : decode b_R_init 135 = .ok (.aload_n 0, 1) := by decide +kernel
theorem d_R_init_136 : decode b_R_init 136 = .ok (.iload_n 3, 1) := by decide +kernel
theorem d_R_init_137 : decode b_R_init 137 = .ok (.aload_n 0, 1) := by decide +kernel
theorem d_R_init_138 : decode b_R_init 138 = .ok (.getfield 46, 3) := by decide +kernel
theorem d_R_init_141 : decode b_R_init 141 = .ok (.imul, 1) := by decide +kernel
theorem d_R_init_142 : decode b_R_init 142 = .ok (.aload_n 0, 1) := by decide +kernel
theorem d_R_init_143 : decode b_R_init 143 = .ok (.getfield 46, 3) := by decide +kernel
theorem d_R_init_146 : decode b_R_init 146 = .ok (.iconst 1, 1) := by decide +kernel
theorem d_R_init_147 : decode b_R_init 147 = .ok (.iadd, 1) := by decide +kernel
theorem d_R_init_148 : decode b_R_init 148 = .ok (.idiv, 1) := by decide +kernel
theorem d_R_init_149 : decode b_R_init 149 = .ok (.putfield 50, 3) := by decide +kernel
theorem d_R_init_152 : decode b_R_init 152 = .ok (.return_, 1) := by decide +kernel
theorem d_R_isRegister_0 : decode b_R_isRegister 0 = .ok (.iload_n 0, 1) := by decide +kernel
theorem d_R_isRegister_1 : decode b_R_isRegister 1 = .ok (.ifCond .lt 13, 3) := by decide +kernel
theorem d_R_isRegister_4 : decode b_R_isRegister 4 = .ok (.iload_n 0, 1) := by decide +kernel
theorem d_R_isRegister_5 : decode b_R_isRegister 5 = .ok (.bipush 8, 2) := by decide +kernel
theorem d_R_isRegister_7 : decode b_R_isRegister 7 = .ok (.if_icmp .ge 7, 3) := by decide +kernel
theorem d_R_isRegister_10 : decode b_R_isRegister 10 = .ok (.iconst 1, 1) := by decide +kernel
theorem d_R_isRegister_11 : decode b_R_isRegister 11 = .ok (.goto 4, 3) := by decide +kernel
theorem d_R_isRegister_14 : decode b_R_isRegister 14 = .ok (.iconst 0, 1) := by decide +kernel
theorem d_R_isRegister_15 : decode b_R_isRegister 15 = .ok (.ireturn, 1) := by decide +kernel
theorem d_R_cells_0 : decode b_R_cells 0 = .ok (.aload_n 0, 1) := by decide +kernel
theorem d_R_cells_1 : decode b_R_cells 1 = .ok (.getfield 10, 3) := by decide +kernel
theorem d_R_cells_4 : decode b_R_cells 4 = .ok (.iload_n 1, 1) := by decide +kernel
theorem d_R_cells_5 : decode b_R_cells 5 = .ok (.baload, 1) := by decide +kernel
theorem d_R_cells_6 : decode b_R_cells 6 = .ok (.iconst 1, 1) := by decide +kernel
theorem d_R_cells_7 : decode b_R_cells 7 = .ok (.if_icmp .ne 21, 3) := by decide +kernel
theorem d_R_cells_10 : decode b_R_cells 10 = .ok (.iconst 1, 1) := by decide +kernel
theorem d_R_cells_11 : decode b_R_cells 11 = .ok (.aload_n 0, 1) := by decide +kernel
theorem d_R_cells_12 : decode b_R_cells 12 = .ok (.getfield 14, 3) := by decide +kernel
theorem d_R_cells_15 : decode b_R_cells 15 = .ok (.iload_n 1, 1) := by decide +kernel
theorem d_R_cells_16 : decode b_R_cells 16 = .ok (.baload, 1) := by decide +kernel
theorem d_R_cells_17 : decode b_R_cells 17 = .ok (.iadd, 1) := by decide +kernel
theorem d_R_cells_18 : decode b_R_cells 18 = .ok (.aload_n 0, 1) := by decide +kernel
theorem d_R_cells_19 : decode b_R_cells 19 = .ok (.getfield 17, 3) := by decide +kernel
theorem d_R_cells_22 : decode b_R_cells 22 = .ok (.iload_n 1, 1) := by decide +kernel
theorem d_R_cells_23 : decode b_R_cells 23 = .ok (.baload, 1) := by decide +kernel
theorem d_R_cells_24 : decode b_R_cells 24 = .ok (.iadd, 1) := by decide +kernel
theorem d_R_cells_25 : decode b_R_cells 25 = .ok (.goto 5, 3) := by decide +kernel
theorem d_R_cells_28 : decode b_R_cells 28 = .ok (.bipush 16, 2) := by decide +kernel
theorem d_R_cells_30 : decode b_R_cells 30 = .ok (.ireturn, 1) := by decide +kernel
theorem d_R_reach_0 : decode b_R_reach 0 = .ok (.iload_n 1, 1) := by decide +kernel
theorem d_R_reach_1 : decode b_R_reach 1 = .ok (.ifCond .eq 45, 3) := by decide +kernel
theorem d_R_reach_4 : decode b_R_reach 4 = .ok (.aload_n 0, 1) := by decide +kernel
theorem d_R_reach_5 : decode b_R_reach 5 = .ok (.getfield 39, 3) := by decide +kernel
theorem d_R_reach_8 : decode b_R_reach 8 = .ok (.iload_n 1, 1) := by decide +kernel
theorem d_R_reach_9 : decode b_R_reach 9 = .ok (.iconst 1, 1) := by decide +kernel
theorem d_R_reach_10 : decode b_R_reach 10 = .ok (.isub, 1) := by decide +kernel
theorem d_R_reach_11 : decode b_R_reach 11 = .ok (.baload, 1) := by decide +kernel
theorem d_R_reach_12 : decode b_R_reach 12 = .ok (.ifCond .ne 34, 3) := by decide +kernel
theorem d_R_reach_15 : decode b_R_reach 15 = .ok (.aload_n 0, 1) := by decide +kernel
theorem d_R_reach_16 : decode b_R_reach 16 = .ok (.getfield 39, 3) := by decide +kernel
theorem d_R_reach_19 : decode b_R_reach 19 = .ok (.iload_n 1, 1) := by decide +kernel
theorem d_R_reach_20 : decode b_R_reach 20 = .ok (.iconst 1, 1) := by decide +kernel
theorem d_R_reach_21 : decode b_R_reach 21 = .ok (.isub, 1) := by decide +kernel
theorem d_R_reach_22 : decode b_R_reach 22 = .ok (.iconst 1, 1) := by decide +kernel
theorem d_R_reach_23 : decode b_R_reach 23 = .ok (.bastore, 1) := by decide +kernel
theorem d_R_reach_24 : decode b_R_reach 24 = .ok (.aload_n 0, 1) := by decide +kernel
theorem d_R_reach_25 : decode b_R_reach 25 = .ok (.getfield 42, 3) := by decide +kernel
theorem d_R_reach_28 : decode b_R_reach 28 = .ok (.aload_n 0, 1) := by decide +kernel
theorem d_R_reach_29 : decode b_R_reach 29 = .ok (.getfield 53, 3) := by decide +kernel
theorem d_R_reach_32 : decode b_R_reach 32 = .ok (.iload_n 1, 1) := by decide +kernel
theorem d_R_reach_33 : decode b_R_reach 33 = .ok (.iconst 1, 1) := by decide +kernel
theorem d_R_reach_34 : decode b_R_reach 34 = .ok (.isub, 1) := by decide +kernel
theorem d_R_reach_35 : decode b_R_reach 35 = .ok (.iastore, 1) := by decide +kernel
theorem d_R_reach_36 : decode b_R_reach 36 = .ok (.aload_n 0, 1) := by decide +kernel
theorem d_R_reach_37 : decode b_R_reach 37 = .ok (.dup, 1) := by decide +kernel
theorem d_R_reach_38 : decode b_R_reach 38 = .ok (.getfield 53, 3) := by decide +kernel
theorem d_R_reach_41 : decode b_R_reach 41 = .ok (.iconst 1, 1) := by decide +kernel
theorem d_R_reach_42 : decode b_R_reach 42 = .ok (.iadd, 1) := by decide +kernel
theorem d_R_reach_43 : decode b_R_reach 43 = .ok (.putfield 53, 3) := by decide +kernel
theorem d_R_reach_46 : decode b_R_reach 46 = .ok (.return_, 1) := by decide +kernel
theorem d_R_goOver_0 : decode b_R_goOver 0 = .ok (.aload_n 0, 1) := by decide +kernel
theorem d_R_goOver_1 : decode b_R_goOver 1 = .ok (.iconst 0, 1) := by decide +kernel
theorem d_R_goOver_2 : decode b_R_goOver 2 = .ok (.putfield 53, 3) := by decide +kernel
theorem d_R_goOver_5 : decode b_R_goOver 5 = .ok (.iconst 0, 1) := by decide +kernel
theorem d_R_goOver_6 : decode b_R_goOver 6 = .ok (.istore_n 1, 1) := by decide +kernel
theorem d_R_goOver_7 : decode b_R_goOver 7 = .ok (.iload_n 1, 1) := by decide +kernel
theorem d_R_goOver_8 : decode b_R_goOver 8 = .ok (.bipush 8, 2) := by decide +kernel
theorem d_R_goOver_10 : decode b_R_goOver 10 = .ok (.if_icmp .ge 19, 3) := by decide +kernel
theorem d_R_goOver_13 : decode b_R_goOver 13 = .ok (.aload_n 0, 1) := by decide +kernel
theorem d_R_goOver_14 : decode b_R_goOver 14 = .ok (.aload_n 0, 1) := by decide +kernel
theorem d_R_goOver_15 : decode b_R_goOver 15 = .ok (.getfield 36, 3) := by decide +kernel
theorem d_R_goOver_18 : decode b_R_goOver 18 = .ok (.iload_n 1, 1) := by decide +kernel
theorem d_R_goOver_19 : decode b_R_goOver 19 = .ok (.iaload, 1) := by decide +kernel
theorem d_R_goOver_20 : decode b_R_goOver 20 = .ok (.invokevirtual 56, 3) := by decide +kernel
theorem d_R_goOver_23 : decode b_R_goOver 23 = .ok (.iinc 1 1, 3) := by decide +kernel
theorem d_R_goOver_26 : decode b_R_goOver 26 = .ok (.goto (-19), 3) := by decide +kernel
theorem d_R_goOver_29 : decode b_R_goOver 29 = .ok (.iconst 0, 1) := by decide +kernel
theorem d_R_goOver_30 : decode b_R_goOver 30 = .ok (.istore_n 1, 1) := by decide +kernel
theorem d_R_goOver_31 : decode b_R_goOver 31 = .ok (.iconst 0, 1) := by decide +kernel
theorem d_R_goOver_32 : decode b_R_goOver 32 = .ok (.istore_n 2, 1) := by decide +kernel
theorem d_R_goOver_33 : decode b_R_goOver 33 = .ok (.iload_n 2, 1) := by decide +kernel
theorem d_R_goOver_34 : decode b_R_goOver 34 = .ok (.aload_n 0, 1) := by decide +kernel
theorem d_R_goOver_35 : decode b_R_goOver 35 = .ok (.getfield 53, 3) := by decide +kernel
theorem d_R_goOver_38 : decode b_R_goOver 38 = .ok (.if_icmp .ge 60, 3) := by decide +kernel
theorem d_R_goOver_41 : decode b_R_goOver 41 = .ok (.aload_n 0, 1) := by decide +kernel
theorem d_R_goOver_42 : decode b_R_goOver 42 = .ok (.getfield 42, 3) := by decide +kernel
theorem d_R_goOver_45 : decode b_R_goOver 45 = .ok (.iload_n 2, 1) := by decide +kernel
theorem d_R_goOver_46 : decode b_R_goOver 46 = .ok (.iaload, 1) := by decide +kernel
theorem d_R_goOver_47 : decode b_R_goOver 47 = .ok (.istore_n 3, 1) := by decide +kernel
theorem d_R_goOver_48 : decode b_R_goOver 48 = .ok (.iload_n 1, 1) := by decide +kernel
theorem d_R_goOver_49 : decode b_R_goOver 49 = .ok (.aload_n 0, 1) := by decide +kernel
theorem d_R_goOver_50 : decode b_R_goOver 50 = .ok (.iload_n 3, 1) := by decide +kernel
theorem d_R_goOver_51 : decode b_R_goOver 51 = .ok (.invokevirtual 60, 3) := by decide +kernel
theorem d_R_goOver_54 : decode b_R_goOver 54 = .ok (.iadd, 1) := by decide +kernel
theorem d_R_goOver_55 : decode b_R_goOver 55 = .ok (.istore_n 1, 1) := by decide +kernel
theorem d_R_goOver_56 : decode b_R_goOver 56 = .ok (.iconst 0, 1) := by decide +kernel
theorem d_R_goOver_57 : decode b_R_goOver 57 = .ok (.istore 4, 2) := by decide +kernel
theorem d_R_goOver_59 : decode b_R_goOver 59 = .ok (.iload 4, 2) := by decide +kernel
theorem d_R_goOver_61 : decode b_R_goOver 61 = .ok (.aload_n 0, 1) := by decide +kernel
theorem d_R_goOver_62 : decode b_R_goOver 62 = .ok (.getfield 14, 3) := by decide +kernel
theorem d_R_goOver_65 : decode b_R_goOver 65 = .ok (.iload_n 3, 1) := by decide +kernel
theorem d_R_goOver_66 : decode b_R_goOver 66 = .ok (.baload, 1) := by decide +kernel
theorem d_R_goOver_67 : decode b_R_goOver 67 = .ok (.if_icmp .ge 25, 3) := by decide +kernel
theorem d_R_goOver_70 : decode b_R_goOver 70 = .ok (.aload_n 0, 1) := by decide +kernel
theorem d_R_goOver_71 : decode b_R_goOver 71 = .ok (.aload_n 0, 1) := by decide +kernel
theorem d_R_goOver_72 : decode b_R_goOver 72 = .ok (.getfield 29, 3) := by decide +kernel
theorem d_R_goOver_75 : decode b_R_goOver 75 = .ok (.iload_n 3, 1) := by decide +kernel
theorem d_R_goOver_76 : decode b_R_goOver 76 = .ok (.bipush 16, 2) := by decide +kernel
theorem d_R_goOver_78 : decode b_R_goOver 78 = .ok (.imul, 1) := by decide +kernel
theorem d_R_goOver_79 : decode b_R_goOver 79 = .ok (.iload 4, 2) := by decide +kernel
theorem d_R_goOver_81 : decode b_R_goOver 81 = .ok (.iadd, 1) := by decide +kernel
theorem d_R_goOver_82 : decode b_R_goOver 82 = .ok (.iaload, 1) := by decide +kernel
theorem d_R_goOver_83 : decode b_R_goOver 83 = .ok (.invokevirtual 56, 3) := by decide +kernel
theorem d_R_goOver_86 : decode b_R_goOver 86 = .ok (.iinc 4 1, 3) := by decide +kernel
theorem d_R_goOver_89 : decode b_R_goOver 89 = .ok (.goto (-30), 3) := by decide +kernel
theorem d_R_goOver_92 : decode b_R_goOver 92 = .ok (.iinc 2 1, 3) := by decide +kernel
theorem d_R_goOver_95 : decode b_R_goOver 95 = .ok (.goto (-62), 3) := by decide +kernel
theorem d_R_goOver_98 : decode b_R_goOver 98 = .ok (.iconst 0, 1) := by decide +kernel
theorem d_R_goOver_99 : decode b_R_goOver 99 = .ok (.istore_n 2, 1) := by decide +kernel
theorem d_R_goOver_100 : decode b_R_goOver 100 = .ok (.iload_n 2, 1) := by decide +kernel
theorem d_R_goOver_101 : decode b_R_goOver 101 = .ok (.aload_n 0, 1) := by decide +kernel
theorem d_R_goOver_102 : decode b_R_goOver 102 = .ok (.getfield 64, 3) := by decide +kernel
theorem d_R_goOver_105 : decode b_R_goOver 105 = .ok (.if_icmp .ge 61, 3) := by decide +kernel
theorem d_R_goOver_108 : decode b_R_goOver 108 = .ok (.aload_n 0, 1) := by decide +kernel
theorem d_R_goOver_109 : decode b_R_goOver 109 = .ok (.getfield 39, 3) := by decide +kernel
theorem d_R_goOver_112 : decode b_R_goOver 112 = .ok (.iload_n 2, 1) := by decide +kernel
theorem d_R_goOver_113 : decode b_R_goOver 113 = .ok (.baload, 1) := by decide +kernel
theorem d_R_goOver_114 : decode b_R_goOver 114 = .ok (.ifCond .ne 39, 3) := by decide +kernel
theorem d_R_goOver_117 : decode b_R_goOver 117 = .ok (.aload_n 0, 1) := by decide +kernel
theorem d_R_goOver_118 : decode b_R_goOver 118 = .ok (.getfield 10, 3) := by decide +kernel
theorem d_R_goOver_121 : decode b_R_goOver 121 = .ok (.iload_n 2, 1) := by decide +kernel
theorem d_R_goOver_122 : decode b_R_goOver 122 = .ok (.baload, 1) := by decide +kernel
theorem d_R_goOver_123 : decode b_R_goOver 123 = .ok (.ifCond .eq 30, 3) := by decide +kernel
theorem d_R_goOver_126 : decode b_R_goOver 126 = .ok (.aload_n 0, 1) := by decide +kernel
theorem d_R_goOver_127 : decode b_R_goOver 127 = .ok (.getfield 10, 3) := by decide +kernel
theorem d_R_goOver_130 : decode b_R_goOver 130 = .ok (.iload_n 2, 1) := by decide +kernel
theorem d_R_goOver_131 : decode b_R_goOver 131 = .ok (.iconst 0, 1) := by decide +kernel
theorem d_R_goOver_132 : decode b_R_goOver 132 = .ok (.bastore, 1) := by decide +kernel
theorem d_R_goOver_133 : decode b_R_goOver 133 = .ok (.aload_n 0, 1) := by decide +kernel
theorem d_R_goOver_134 : decode b_R_goOver 134 = .ok (.getfield 33, 3) := by decide +kernel
theorem d_R_goOver_137 : decode b_R_goOver 137 = .ok (.aload_n 0, 1) := by decide +kernel
theorem d_R_goOver_138 : decode b_R_goOver 138 = .ok (.getfield 67, 3) := by decide +kernel
theorem d_R_goOver_141 : decode b_R_goOver 141 = .ok (.iload_n 2, 1) := by decide +kernel
theorem d_R_goOver_142 : decode b_R_goOver 142 = .ok (.iastore, 1) := by decide +kernel
theorem d_R_goOver_143 : decode b_R_goOver 143 = .ok (.aload_n 0, 1) := by decide +kernel
theorem d_R_goOver_144 : decode b_R_goOver 144 = .ok (.dup, 1) := by decide +kernel
theorem d_R_goOver_145 : decode b_R_goOver 145 = .ok (.getfield 67, 3) := by decide +kernel
theorem d_R_goOver_148 : decode b_R_goOver 148 = .ok (.iconst 1, 1) := by decide +kernel
theorem d_R_goOver_149 : decode b_R_goOver 149 = .ok (.iadd, 1) := by decide +kernel
theorem d_R_goOver_150 : decode b_R_goOver 150 = .ok (.putfield 67, 3) := by decide +kernel
theorem d_R_goOver_153 : decode b_R_goOver 153 = .ok (.aload_n 0, 1) := by decide +kernel
theorem d_R_goOver_154 : decode b_R_goOver 154 = .ok (.getfield 39, 3) := by decide +kernel
theorem d_R_goOver_157 : decode b_R_goOver 157 = .ok (.iload_n 2, 1) := by decide +kernel
theorem d_R_goOver_158 : decode b_R_goOver 158 = .ok (.iconst 0, 1) := by decide +kernel
theorem d_R_goOver_159 : decode b_R_goOver 159 = .ok (.bastore, 1) := by decide +kernel
theorem d_R_goOver_160 : decode b_R_goOver 160 = .ok (.iinc 2 1, 3) := by decide +kernel
theorem d_R_goOver_163 : decode b_R_goOver 163 = .ok (.goto (-63), 3) := by decide +kernel
theorem d_R_goOver_166 : decode b_R_goOver 166 = .ok (.iload_n 1, 1) := by decide +kernel
theorem d_R_goOver_167 : decode b_R_goOver 167 = .ok (.ireturn, 1) := by decide +kernel
theorem d_R_isDone_0 : decode b_R_isDone 0 = .ok (.aload_n 0, 1) := by decide +kernel
theorem d_R_isDone_1 : decode b_R_isDone 1 = .ok (.getfield 46, 3) := by decide +kernel
theorem d_R_isDone_4 : decode b_R_isDone 4 = .ok (.i2l, 1) := by decide +kernel
theorem d_R_isDone_5 : decode b_R_isDone 5 = .ok (.aload_n 0, 1) := by decide +kernel
theorem d_R_isDone_6 : decode b_R_isDone 6 = .ok (.getfield 70, 3) := by decide +kernel
theorem d_R_isDone_9 : decode b_R_isDone 9 = .ok (.lmul, 1) := by decide +kernel
theorem d_R_isDone_10 : decode b_R_isDone 10 = .ok (.aload_n 0, 1) := by decide +kernel
theorem d_R_isDone_11 : decode b_R_isDone 11 = .ok (.getfield 74, 3) := by decide +kernel
theorem d_R_isDone_14 : decode b_R_isDone 14 = .ok (.i2l, 1) := by decide +kernel
theorem d_R_isDone_15 : decode b_R_isDone 15 = .ok (.lcmp, 1) := by decide +kernel
theorem d_R_isDone_16 : decode b_R_isDone 16 = .ok (.ifCond .lt 7, 3) := by decide +kernel
theorem d_R_isDone_19 : decode b_R_isDone 19 = .ok (.iconst 1, 1) := by decide +kernel
theorem d_R_isDone_20 : decode b_R_isDone 20 = .ok (.goto 4, 3) := by decide +kernel
theorem d_R_isDone_23 : decode b_R_isDone 23 = .ok (.iconst 0, 1) := by decide +kernel
theorem d_R_isDone_24 : decode b_R_isDone 24 = .ok (.ireturn, 1) := by decide +kernel
theorem d_R_hasRoom_0 : decode b_R_hasRoom 0 = .ok (.aload_n 0, 1) := by decide +kernel
theorem d_R_hasRoom_1 : decode b_R_hasRoom 1 = .ok (.invokevirtual 77, 3) := by decide +kernel
theorem d_R_hasRoom_4 : decode b_R_hasRoom 4 = .ok (.ifCond .eq 61, 3) := by decide +kernel
theorem d_R_hasRoom_7 : decode b_R_hasRoom 7 = .ok (.aload_n 0, 1) := by decide +kernel
theorem d_R_hasRoom_8 : decode b_R_hasRoom 8 = .ok (.getfield 74, 3) := by decide +kernel
theorem d_R_hasRoom_11 : decode b_R_hasRoom 11 = .ok (.aload_n 0, 1) := by decide +kernel
theorem d_R_hasRoom_12 : decode b_R_hasRoom 12 = .ok (.getfield 50, 3) := by decide +kernel
theorem d_R_hasRoom_15 : decode b_R_hasRoom 15 = .ok (.if_icmp .le 5, 3) := by decide +kernel
theorem d_R_hasRoom_18 : decode b_R_hasRoom 18 = .ok (.iconst 0, 1) := by decide +kernel
theorem d_R_hasRoom_19 : decode b_R_hasRoom 19 = .ok (.ireturn, 1) := by decide +kernel
theorem d_R_hasRoom_20 : decode b_R_hasRoom 20 = .ok (.aload_n 0, 1) := by decide +kernel
theorem d_R_hasRoom_21 : decode b_R_hasRoom 21 = .ok (.getfield 74, 3) := by decide +kernel
theorem d_R_hasRoom_24 : decode b_R_hasRoom 24 = .ok (.i2l, 1) := by decide +kernel
theorem d_R_hasRoom_25 : decode b_R_hasRoom 25 = .ok (.aload_n 0, 1) := by decide +kernel
theorem d_R_hasRoom_26 : decode b_R_hasRoom 26 = .ok (.getfield 70, 3) := by decide +kernel
theorem d_R_hasRoom_29 : decode b_R_hasRoom 29 = .ok (.ladd, 1) := by decide +kernel
theorem d_R_hasRoom_30 : decode b_R_hasRoom 30 = .ok (.iload_n 1, 1) := by decide +kernel
theorem d_R_hasRoom_31 : decode b_R_hasRoom 31 = .ok (.i2l, 1) := by decide +kernel
theorem d_R_hasRoom_32 : decode b_R_hasRoom 32 = .ok (.ladd, 1) := by decide +kernel
theorem d_R_hasRoom_33 : decode b_R_hasRoom 33 = .ok (.aload_n 0, 1) := by decide +kernel
theorem d_R_hasRoom_34 : decode b_R_hasRoom 34 = .ok (.getfield 50, 3) := by decide +kernel
theorem d_R_hasRoom_37 : decode b_R_hasRoom 37 = .ok (.i2l, 1) := by decide +kernel
theorem d_R_hasRoom_38 : decode b_R_hasRoom 38 = .ok (.lcmp, 1) := by decide +kernel
theorem d_R_hasRoom_39 : decode b_R_hasRoom 39 = .ok (.ifCond .le 26, 3) := by decide +kernel
theorem d_R_hasRoom_42 : decode b_R_hasRoom 42 = .ok (.aload_n 0, 1) := by decide +kernel
theorem d_R_hasRoom_43 : decode b_R_hasRoom 43 = .ok (.dup, 1) := by decide +kernel
theorem d_R_hasRoom_44 : decode b_R_hasRoom 44 = .ok (.getfield 81, 3) := by decide +kernel
theorem d_R_hasRoom_47 : decode b_R_hasRoom 47 = .ok (.iconst 1, 1) := by decide +kernel
theorem d_R_hasRoom_48 : decode b_R_hasRoom 48 = .ok (.iadd, 1) := by decide +kernel
theorem d_R_hasRoom_49 : decode b_R_hasRoom 49 = .ok (.putfield 81, 3) := by decide +kernel
theorem d_R_hasRoom_52 : decode b_R_hasRoom 52 = .ok (.aload_n 0, 1) := by decide +kernel
theorem d_R_hasRoom_53 : decode b_R_hasRoom 53 = .ok (.aload_n 0, 1) := by decide +kernel
theorem d_R_hasRoom_54 : decode b_R_hasRoom 54 = .ok (.invokevirtual 84, 3) := by decide +kernel
theorem d_R_hasRoom_57 : decode b_R_hasRoom 57 = .ok (.putfield 74, 3) := by decide +kernel
theorem d_R_hasRoom_60 : decode b_R_hasRoom 60 = .ok (.aload_n 0, 1) := by decide +kernel
theorem d_R_hasRoom_61 : decode b_R_hasRoom 61 = .ok (.lconst 0, 1) := by decide +kernel
theorem d_R_hasRoom_62 : decode b_R_hasRoom 62 = .ok (.putfield 70, 3) := by decide +kernel
theorem d_R_hasRoom_65 : decode b_R_hasRoom 65 = .ok (.aload_n 0, 1) := by decide +kernel
theorem d_R_hasRoom_66 : decode b_R_hasRoom 66 = .ok (.dup, 1) := by decide +kernel
theorem d_R_hasRoom_67 : decode b_R_hasRoom 67 = .ok (.getfield 70, 3) := by decide +kernel
theorem d_R_hasRoom_70 : decode b_R_hasRoom 70 = .ok (.iload_n 1, 1) := by decide +kernel
theorem d_R_hasRoom_71 : decode b_R_hasRoom 71 = .ok (.i2l, 1) := by decide +kernel
theorem d_R_hasRoom_72 : decode b_R_hasRoom 72 = .ok (.ladd, 1) := by decide +kernel
theorem d_R_hasRoom_73 : decode b_R_hasRoom 73 = .ok (.putfield 70, 3) := by decide +kernel
theorem d_R_hasRoom_76 : decode b_R_hasRoom 76 = .ok (.iconst 1, 1) := by decide +kernel
theorem d_R_hasRoom_77 : decode b_R_hasRoom 77 = .ok (.ireturn, 1) := by decide +kernel
theorem d_R_add_0 : decode b_R_add 0 = .ok (.aload_n 0, 1) := by decide +kernel
theorem d_R_add_1 : decode b_R_add 1 = .ok (.getfield 64, 3) := by decide +kernel
theorem d_R_add_4 : decode b_R_add 4 = .ok (.istore 4, 2) := by decide +kernel
theorem d_R_add_6 : decode b_R_add 6 = .ok (.aload_n 0, 1) := by decide +kernel
theorem d_R_add_7 : decode b_R_add 7 = .ok (.getfield 67, 3) := by decide +kernel
theorem d_R_add_10 : decode b_R_add 10 = .ok (.ifCond .le 27, 3) := by decide +kernel
theorem d_R_add_13 : decode b_R_add 13 = .ok (.aload_n 0, 1) := by decide +kernel
theorem d_R_add_14 : decode b_R_add 14 = .ok (.dup, 1) := by decide +kernel
theorem d_R_add_15 : decode b_R_add 15 = .ok (.getfield 67, 3) := by decide +kernel
theorem d_R_add_18 : decode b_R_add 18 = .ok (.iconst 1, 1) := by decide +kernel
theorem d_R_add_19 : decode b_R_add 19 = .ok (.isub, 1) := by decide +kernel
theorem d_R_add_20 : decode b_R_add 20 = .ok (.putfield 67, 3) := by decide +kernel
theorem d_R_add_23 : decode b_R_add 23 = .ok (.aload_n 0, 1) := by decide +kernel
theorem d_R_add_24 : decode b_R_add 24 = .ok (.getfield 33, 3) := by decide +kernel
theorem d_R_add_27 : decode b_R_add 27 = .ok (.aload_n 0, 1) := by decide +kernel
theorem d_R_add_28 : decode b_R_add 28 = .ok (.getfield 67, 3) := by decide +kernel
theorem d_R_add_31 : decode b_R_add 31 = .ok (.iaload, 1) := by decide +kernel
theorem d_R_add_32 : decode b_R_add 32 = .ok (.istore 4, 2) := by decide +kernel
theorem d_R_add_34 : decode b_R_add 34 = .ok (.goto 13, 3) := by decide +kernel
theorem d_R_add_37 : decode b_R_add 37 = .ok (.aload_n 0, 1) := by decide +kernel
theorem d_R_add_38 : decode b_R_add 38 = .ok (.dup, 1) := by decide +kernel
theorem d_R_add_39 : decode b_R_add 39 = .ok (.getfield 64, 3) := by decide +kernel
theorem d_R_add_42 : decode b_R_add 42 = .ok (.iconst 1, 1) := by decide +kernel
theorem d_R_add_43 : decode b_R_add 43 = .ok (.iadd, 1) := by decide +kernel
theorem d_R_add_44 : decode b_R_add 44 = .ok (.putfield 64, 3) := by decide +kernel
theorem d_R_add_47 : decode b_R_add 47 = .ok (.aload_n 0, 1) := by decide +kernel
theorem d_R_add_48 : decode b_R_add 48 = .ok (.getfield 10, 3) := by decide +kernel
theorem d_R_add_51 : decode b_R_add 51 = .ok (.iload 4, 2) := by decide +kernel
theorem d_R_add_53 : decode b_R_add 53 = .ok (.iload_n 1, 1) := by decide +kernel
theorem d_R_add_54 : decode b_R_add 54 = .ok (.i2b, 1) := by decide +kernel
theorem d_R_add_55 : decode b_R_add 55 = .ok (.bastore, 1) := by decide +kernel
theorem d_R_add_56 : decode b_R_add 56 = .ok (.aload_n 0, 1) := by decide +kernel
theorem d_R_add_57 : decode b_R_add 57 = .ok (.getfield 14, 3) := by decide +kernel
theorem d_R_add_60 : decode b_R_add 60 = .ok (.iload 4, 2) := by decide +kernel
theorem d_R_add_62 : decode b_R_add 62 = .ok (.iload_n 2, 1) := by decide +kernel
theorem d_R_add_63 : decode b_R_add 63 = .ok (.i2b, 1) := by decide +kernel
theorem d_R_add_64 : decode b_R_add 64 = .ok (.bastore, 1) := by decide +kernel
theorem d_R_add_65 : decode b_R_add 65 = .ok (.aload_n 0, 1) := by decide +kernel
theorem d_R_add_66 : decode b_R_add 66 = .ok (.getfield 17, 3) := by decide +kernel
theorem d_R_add_69 : decode b_R_add 69 = .ok (.iload 4, 2) := by decide +kernel
theorem d_R_add_71 : decode b_R_add 71 = .ok (.iload_n 3, 1) := by decide +kernel
theorem d_R_add_72 : decode b_R_add 72 = .ok (.i2b, 1) := by decide +kernel
theorem d_R_add_73 : decode b_R_add 73 = .ok (.bastore, 1) := by decide +kernel
theorem d_R_add_74 : decode b_R_add 74 = .ok (.iconst 0, 1) := by decide +kernel
theorem d_R_add_75 : decode b_R_add 75 = .ok (.istore 5, 2) := by decide +kernel
theorem d_R_add_77 : decode b_R_add 77 = .ok (.iload 5, 2) := by decide +kernel
theorem d_R_add_79 : decode b_R_add 79 = .ok (.bipush 16, 2) := by decide +kernel
theorem d_R_add_81 : decode b_R_add 81 = .ok (.if_icmp .ge 23, 3) := by decide +kernel
theorem d_R_add_84 : decode b_R_add 84 = .ok (.aload_n 0, 1) := by decide +kernel
theorem d_R_add_85 : decode b_R_add 85 = .ok (.getfield 29, 3) := by decide +kernel
theorem d_R_add_88 : decode b_R_add 88 = .ok (.iload 4, 2) := by decide +kernel
theorem d_R_add_90 : decode b_R_add 90 = .ok (.bipush 16, 2) := by decide +kernel
theorem d_R_add_92 : decode b_R_add 92 = .ok (.imul, 1) := by decide +kernel
theorem d_R_add_93 : decode b_R_add 93 = .ok (.iload 5, 2) := by decide +kernel
theorem d_R_add_95 : decode b_R_add 95 = .ok (.iadd, 1) := by decide +kernel
theorem d_R_add_96 : decode b_R_add 96 = .ok (.iconst 0, 1) := by decide +kernel
theorem d_R_add_97 : decode b_R_add 97 = .ok (.iastore, 1) := by decide +kernel
theorem d_R_add_98 : decode b_R_add 98 = .ok (.iinc 5 1, 3) := by decide +kernel
theorem d_R_add_101 : decode b_R_add 101 = .ok (.goto (-24), 3) := by decide +kernel
theorem d_R_add_104 : decode b_R_add 104 = .ok (.iload 4, 2) := by decide +kernel
theorem d_R_add_106 : decode b_R_add 106 = .ok (.ireturn, 1) := by decide +kernel
theorem d_R_make_0 : decode b_R_make 0 = .ok (.iload_n 1, 1) := by decide +kernel
theorem d_R_make_1 : decode b_R_make 1 = .ok (.invokestatic 88, 3) := by decide +kernel
theorem d_R_make_4 : decode b_R_make 4 = .ok (.ifCond .eq 25, 3) := by decide +kernel
theorem d_R_make_7 : decode b_R_make 7 = .ok (.iload_n 2, 1) := by decide +kernel
theorem d_R_make_8 : decode b_R_make 8 = .ok (.ifCond .lt 21, 3) := by decide +kernel
theorem d_R_make_11 : decode b_R_make 11 = .ok (.iload_n 3, 1) := by decide +kernel
theorem d_R_make_12 : decode b_R_make 12 = .ok (.ifCond .lt 17, 3) := by decide +kernel
theorem d_R_make_15 : decode b_R_make 15 = .ok (.iload_n 2, 1) := by decide +kernel
theorem d_R_make_16 : decode b_R_make 16 = .ok (.bipush 15, 2) := by decide +kernel
theorem d_R_make_18 : decode b_R_make 18 = .ok (.if_icmp .gt 11, 3) := by decide +kernel
theorem d_R_make_21 : decode b_R_make 21 = .ok (.iload_n 3, 1) := by decide +kernel
theorem d_R_make_22 : decode b_R_make 22 = .ok (.bipush 15, 2) := by decide +kernel
theorem d_R_make_24 : decode b_R_make 24 = .ok (.iload_n 2, 1) := by decide +kernel
theorem d_R_make_25 : decode b_R_make 25 = .ok (.isub, 1) := by decide +kernel
theorem d_R_make_26 : decode b_R_make 26 = .ok (.if_icmp .le 5, 3) := by decide +kernel
theorem d_R_make_29 : decode b_R_make 29 = .ok (.iconst (-1), 1) := by decide +kernel
theorem d_R_make_30 : decode b_R_make 30 = .ok (.ireturn, 1) := by decide +kernel
theorem d_R_make_31 : decode b_R_make 31 = .ok (.aload_n 0, 1) := by decide +kernel
theorem d_R_make_32 : decode b_R_make 32 = .ok (.iconst 1, 1) := by decide +kernel
theorem d_R_make_33 : decode b_R_make 33 = .ok (.iload_n 2, 1) := by decide +kernel
theorem d_R_make_34 : decode b_R_make 34 = .ok (.iadd, 1) := by decide +kernel
theorem d_R_make_35 : decode b_R_make 35 = .ok (.iload_n 3, 1) := by decide +kernel
theorem d_R_make_36 : decode b_R_make 36 = .ok (.iadd, 1) := by decide +kernel
theorem d_R_make_37 : decode b_R_make 37 = .ok (.invokevirtual 92, 3) := by decide +kernel
theorem d_R_make_40 : decode b_R_make 40 = .ok (.ifCond .ne 5, 3) := by decide +kernel
theorem d_R_make_43 : decode b_R_make 43 = .ok (.iconst 0, 1) := by decide +kernel
theorem d_R_make_44 : decode b_R_make 44 = .ok (.ireturn, 1) := by decide +kernel
theorem d_R_make_45 : decode b_R_make 45 = .ok (.aload_n 0, 1) := by decide +kernel
theorem d_R_make_46 : decode b_R_make 46 = .ok (.getfield 36, 3) := by decide +kernel
theorem d_R_make_49 : decode b_R_make 49 = .ok (.iload_n 1, 1) := by decide +kernel
theorem d_R_make_50 : decode b_R_make 50 = .ok (.aload_n 0, 1) := by decide +kernel
theorem d_R_make_51 : decode b_R_make 51 = .ok (.iconst 1, 1) := by decide +kernel
theorem d_R_make_52 : decode b_R_make 52 = .ok (.iload_n 2, 1) := by decide +kernel
theorem d_R_make_53 : decode b_R_make 53 = .ok (.iload_n 3, 1) := by decide +kernel
theorem d_R_make_54 : decode b_R_make 54 = .ok (.invokevirtual 95, 3) := by decide +kernel
theorem d_R_make_57 : decode b_R_make 57 = .ok (.iconst 1, 1) := by decide +kernel
theorem d_R_make_58 : decode b_R_make 58 = .ok (.iadd, 1) := by decide +kernel
theorem d_R_make_59 : decode b_R_make 59 = .ok (.iastore, 1) := by decide +kernel
theorem d_R_make_60 : decode b_R_make 60 = .ok (.iconst 1, 1) := by decide +kernel
theorem d_R_make_61 : decode b_R_make 61 = .ok (.ireturn, 1) := by decide +kernel
theorem d_R_levels_0 : decode b_R_levels 0 = .ok (.iload_n 0, 1) := by decide +kernel
theorem d_R_levels_1 : decode b_R_levels 1 = .ok (.bipush 15, 2) := by decide +kernel
theorem d_R_levels_3 : decode b_R_levels 3 = .ok (.if_icmp .gt 7, 3) := by decide +kernel
theorem d_R_levels_6 : decode b_R_levels 6 = .ok (.iconst 1, 1) := by decide +kernel
theorem d_R_levels_7 : decode b_R_levels 7 = .ok (.goto 15, 3) := by decide +kernel
theorem d_R_levels_10 : decode b_R_levels 10 = .ok (.iload_n 0, 1) := by decide +kernel
theorem d_R_levels_11 : decode b_R_levels 11 = .ok (.sipush 225, 3) := by decide +kernel
theorem d_R_levels_14 : decode b_R_levels 14 = .ok (.if_icmp .gt 7, 3) := by decide +kernel
theorem d_R_levels_17 : decode b_R_levels 17 = .ok (.iconst 2, 1) := by decide +kernel
theorem d_R_levels_18 : decode b_R_levels 18 = .ok (.goto 4, 3) := by decide +kernel
theorem d_R_levels_21 : decode b_R_levels 21 = .ok (.iconst 3, 1) := by decide +kernel
theorem d_R_levels_22 : decode b_R_levels 22 = .ok (.ireturn, 1) := by decide +kernel
theorem d_R_array_0 : decode b_R_array 0 = .ok (.iload_n 1, 1) := by decide +kernel
theorem d_R_array_1 : decode b_R_array 1 = .ok (.invokestatic 88, 3) := by decide +kernel
theorem d_R_array_4 : decode b_R_array 4 = .ok (.ifCond .eq 14, 3) := by decide +kernel
theorem d_R_array_7 : decode b_R_array 7 = .ok (.iload_n 2, 1) := by decide +kernel
theorem d_R_array_8 : decode b_R_array 8 = .ok (.ifCond .lt 10, 3) := by decide +kernel
theorem d_R_array_11 : decode b_R_array 11 = .ok (.iload_n 2, 1) := by decide +kernel
theorem d_R_array_12 : decode b_R_array 12 = .ok (.sipush 3375, 3) := by decide +kernel
theorem d_R_array_15 : decode b_R_array 15 = .ok (.if_icmp .le 5, 3) := by decide +kernel
theorem d_R_array_18 : decode b_R_array 18 = .ok (.iconst (-1), 1) := by decide +kernel
theorem d_R_array_19 : decode b_R_array 19 = .ok (.ireturn, 1) := by decide +kernel
theorem d_R_array_20 : decode b_R_array 20 = .ok (.aload_n 0, 1) := by decide +kernel
theorem d_R_array_21 : decode b_R_array 21 = .ok (.bipush 16, 2) := by decide +kernel
theorem d_R_array_23 : decode b_R_array 23 = .ok (.invokevirtual 92, 3) := by decide +kernel
theorem d_R_array_26 : decode b_R_array 26 = .ok (.ifCond .ne 5, 3) := by decide +kernel
theorem d_R_array_29 : decode b_R_array 29 = .ok (.iconst 0, 1) := by decide +kernel
theorem d_R_array_30 : decode b_R_array 30 = .ok (.ireturn, 1) := by decide +kernel
theorem d_R_array_31 : decode b_R_array 31 = .ok (.iload_n 3, 1) := by decide +kernel
theorem d_R_array_32 : decode b_R_array 32 = .ok (.ifCond .ne 11, 3) := by decide +kernel
theorem d_R_array_35 : decode b_R_array 35 = .ok (.iload_n 2, 1) := by decide +kernel
theorem d_R_array_36 : decode b_R_array 36 = .ok (.invokestatic 99, 3) := by decide +kernel
theorem d_R_array_39 : decode b_R_array 39 = .ok (.iconst 1, 1) := by decide +kernel
theorem d_R_array_40 : decode b_R_array 40 = .ok (.if_icmp .le 7, 3) := by decide +kernel
theorem d_R_array_43 : decode b_R_array 43 = .ok (.iconst 1, 1) := by decide +kernel
theorem d_R_array_44 : decode b_R_array 44 = .ok (.goto 4, 3) := by decide +kernel
theorem d_R_array_47 : decode b_R_array 47 = .ok (.iconst 0, 1) := by decide +kernel
theorem d_R_array_48 : decode b_R_array 48 = .ok (.istore 4, 2) := by decide +kernel
theorem d_R_array_50 : decode b_R_array 50 = .ok (.aload_n 0, 1) := by decide +kernel
theorem d_R_array_51 : decode b_R_array 51 = .ok (.iconst 2, 1) := by decide +kernel
theorem d_R_array_52 : decode b_R_array 52 = .ok (.iload 4, 2) := by decide +kernel
theorem d_R_array_54 : decode b_R_array 54 = .ok (.ifCond .eq 8, 3) := by decide +kernel
theorem d_R_array_57 : decode b_R_array 57 = .ok (.bipush 15, 2) := by decide +kernel
theorem d_R_array_59 : decode b_R_array 59 = .ok (.goto 4, 3) := by decide +kernel
theorem d_R_array_62 : decode b_R_array 62 = .ok (.iconst 0, 1) := by decide +kernel
theorem d_R_array_63 : decode b_R_array 63 = .ok (.iload 4, 2) := by decide +kernel
theorem d_R_array_65 : decode b_R_array 65 = .ok (.ifCond .eq 7, 3) := by decide +kernel
theorem d_R_array_68 : decode b_R_array 68 = .ok (.iconst 0, 1) := by decide +kernel
theorem d_R_array_69 : decode b_R_array 69 = .ok (.goto 5, 3) := by decide +kernel
theorem d_R_array_72 : decode b_R_array 72 = .ok (.bipush 15, 2) := by decide +kernel
theorem d_R_array_74 : decode b_R_array 74 = .ok (.invokevirtual 95, 3) := by decide +kernel
theorem d_R_array_77 : decode b_R_array 77 = .ok (.istore 5, 2) := by decide +kernel
theorem d_R_array_79 : decode b_R_array 79 = .ok (.aload_n 0, 1) := by decide +kernel
theorem d_R_array_80 : decode b_R_array 80 = .ok (.getfield 20, 3) := by decide +kernel
theorem d_R_array_83 : decode b_R_array 83 = .ok (.iload 5, 2) := by decide +kernel
theorem d_R_array_85 : decode b_R_array 85 = .ok (.iload_n 2, 1) := by decide +kernel
theorem d_R_array_86 : decode b_R_array 86 = .ok (.i2s, 1) := by decide +kernel
theorem d_R_array_87 : decode b_R_array 87 = .ok (.sastore, 1) := by decide +kernel
theorem d_R_array_88 : decode b_R_array 88 = .ok (.aload_n 0, 1) := by decide +kernel
theorem d_R_array_89 : decode b_R_array 89 = .ok (.getfield 24, 3) := by decide +kernel
theorem d_R_array_92 : decode b_R_array 92 = .ok (.iload 5, 2) := by decide +kernel
theorem d_R_array_94 : decode b_R_array 94 = .ok (.iload_n 3, 1) := by decide +kernel
theorem d_R_array_95 : decode b_R_array 95 = .ok (.bastore, 1) := by decide +kernel
theorem d_R_array_96 : decode b_R_array 96 = .ok (.aload_n 0, 1) := by decide +kernel
theorem d_R_array_97 : decode b_R_array 97 = .ok (.getfield 36, 3) := by decide +kernel
theorem d_R_array_100 : decode b_R_array 100 = .ok (.iload_n 1, 1) := by decide +kernel
theorem d_R_array_101 : decode b_R_array 101 = .ok (.iload 5, 2) := by decide +kernel
theorem d_R_array_103 : decode b_R_array 103 = .ok (.iconst 1, 1) := by decide +kernel
theorem d_R_array_104 : decode b_R_array 104 = .ok (.iadd, 1) := by decide +kernel
theorem d_R_array_105 : decode b_R_array 105 = .ok (.iastore, 1) := by decide +kernel
theorem d_R_array_106 : decode b_R_array 106 = .ok (.iconst 1, 1) := by decide +kernel
theorem d_R_array_107 : decode b_R_array 107 = .ok (.ireturn, 1) := by decide +kernel
theorem d_R_field_0 : decode b_R_field 0 = .ok (.iload_n 1, 1) := by decide +kernel
theorem d_R_field_1 : decode b_R_field 1 = .ok (.invokestatic 88, 3) := by decide +kernel
theorem d_R_field_4 : decode b_R_field 4 = .ok (.ifCond .eq 29, 3) := by decide +kernel
theorem d_R_field_7 : decode b_R_field 7 = .ok (.aload_n 0, 1) := by decide +kernel
theorem d_R_field_8 : decode b_R_field 8 = .ok (.getfield 36, 3) := by decide +kernel
theorem d_R_field_11 : decode b_R_field 11 = .ok (.iload_n 1, 1) := by decide +kernel
theorem d_R_field_12 : decode b_R_field 12 = .ok (.iaload, 1) := by decide +kernel
theorem d_R_field_13 : decode b_R_field 13 = .ok (.ifCond .eq 20, 3) := by decide +kernel
theorem d_R_field_16 : decode b_R_field 16 = .ok (.aload_n 0, 1) := by decide +kernel
theorem d_R_field_17 : decode b_R_field 17 = .ok (.getfield 10, 3) := by decide +kernel
theorem d_R_field_20 : decode b_R_field 20 = .ok (.aload_n 0, 1) := by decide +kernel
theorem d_R_field_21 : decode b_R_field 21 = .ok (.getfield 36, 3) := by decide +kernel
theorem d_R_field_24 : decode b_R_field 24 = .ok (.iload_n 1, 1) := by decide +kernel
theorem d_R_field_25 : decode b_R_field 25 = .ok (.iaload, 1) := by decide +kernel
theorem d_R_field_26 : decode b_R_field 26 = .ok (.iconst 1, 1) := by decide +kernel
theorem d_R_field_27 : decode b_R_field 27 = .ok (.isub, 1) := by decide +kernel
theorem d_R_field_28 : decode b_R_field 28 = .ok (.baload, 1) := by decide +kernel
theorem d_R_field_29 : decode b_R_field 29 = .ok (.iconst 1, 1) := by decide +kernel
theorem d_R_field_30 : decode b_R_field 30 = .ok (.if_icmp .eq 5, 3) := by decide +kernel
theorem d_R_field_33 : decode b_R_field 33 = .ok (.iconst (-1), 1) := by decide +kernel
theorem d_R_field_34 : decode b_R_field 34 = .ok (.ireturn, 1) := by decide +kernel
theorem d_R_field_35 : decode b_R_field 35 = .ok (.aload_n 0, 1) := by decide +kernel
theorem d_R_field_36 : decode b_R_field 36 = .ok (.getfield 36, 3) := by decide +kernel
theorem d_R_field_39 : decode b_R_field 39 = .ok (.iload_n 1, 1) := by decide +kernel
theorem d_R_field_40 : decode b_R_field 40 = .ok (.iaload, 1) := by decide +kernel
theorem d_R_field_41 : decode b_R_field 41 = .ok (.iconst 1, 1) := by decide +kernel
theorem d_R_field_42 : decode b_R_field 42 = .ok (.isub, 1) := by decide +kernel
theorem d_R_field_43 : decode b_R_field 43 = .ok (.istore 4, 2) := by decide +kernel
theorem d_R_field_45 : decode b_R_field 45 = .ok (.iload_n 2, 1) := by decide +kernel
theorem d_R_field_46 : decode b_R_field 46 = .ok (.ifCond .lt 28, 3) := by decide +kernel
theorem d_R_field_49 : decode b_R_field 49 = .ok (.iload_n 2, 1) := by decide +kernel
theorem d_R_field_50 : decode b_R_field 50 = .ok (.iload_n 3, 1) := by decide +kernel
theorem d_R_field_51 : decode b_R_field 51 = .ok (.ifCond .eq 13, 3) := by decide +kernel
theorem d_R_field_54 : decode b_R_field 54 = .ok (.aload_n 0, 1) := by decide +kernel
theorem d_R_field_55 : decode b_R_field 55 = .ok (.getfield 14, 3) := by decide +kernel
theorem d_R_field_58 : decode b_R_field 58 = .ok (.iload 4, 2) := by decide +kernel
theorem d_R_field_60 : decode b_R_field 60 = .ok (.baload, 1) := by decide +kernel
theorem d_R_field_61 : decode b_R_field 61 = .ok (.goto 10, 3) := by decide +kernel
theorem d_R_field_64 : decode b_R_field 64 = .ok (.aload_n 0, 1) := by decide +kernel
theorem d_R_field_65 : decode b_R_field 65 = .ok (.getfield 17, 3) := by decide +kernel
theorem d_R_field_68 : decode b_R_field 68 = .ok (.iload 4, 2) := by decide +kernel
theorem d_R_field_70 : decode b_R_field 70 = .ok (.baload, 1) := by decide +kernel
theorem d_R_field_71 : decode b_R_field 71 = .ok (.if_icmp .lt 5, 3) := by decide +kernel
theorem d_R_field_74 : decode b_R_field 74 = .ok (.iconst (-1), 1) := by decide +kernel
theorem d_R_field_75 : decode b_R_field 75 = .ok (.ireturn, 1) := by decide +kernel
theorem d_R_field_76 : decode b_R_field 76 = .ok (.iload 4, 2) := by decide +kernel
theorem d_R_field_78 : decode b_R_field 78 = .ok (.bipush 16, 2) := by decide +kernel
theorem d_R_field_80 : decode b_R_field 80 = .ok (.imul, 1) := by decide +kernel
theorem d_R_field_81 : decode b_R_field 81 = .ok (.iload_n 3, 1) := by decide +kernel
theorem d_R_field_82 : decode b_R_field 82 = .ok (.ifCond .eq 7, 3) := by decide +kernel
theorem d_R_field_85 : decode b_R_field 85 = .ok (.iload_n 2, 1) := by decide +kernel
theorem d_R_field_86 : decode b_R_field 86 = .ok (.goto 12, 3) := by decide +kernel
theorem d_R_field_89 : decode b_R_field 89 = .ok (.aload_n 0, 1) := by decide +kernel
theorem d_R_field_90 : decode b_R_field 90 = .ok (.getfield 14, 3) := by decide +kernel
theorem d_R_field_93 : decode b_R_field 93 = .ok (.iload 4, 2) := by decide +kernel
theorem d_R_field_95 : decode b_R_field 95 = .ok (.baload, 1) := by decide +kernel
theorem d_R_field_96 : decode b_R_field 96 = .ok (.iload_n 2, 1) := by decide +kernel
theorem d_R_field_97 : decode b_R_field 97 = .ok (.iadd, 1) := by decide +kernel
theorem d_R_field_98 : decode b_R_field 98 = .ok (.iadd, 1) := by decide +kernel
theorem d_R_field_99 : decode b_R_field 99 = .ok (.ireturn, 1) := by decide +kernel
theorem d_R_get_0 : decode b_R_get 0 = .ok (.aload_n 0, 1) := by decide +kernel
theorem d_R_get_1 : decode b_R_get 1 = .ok (.iload_n 2, 1) := by decide +kernel
theorem d_R_get_2 : decode b_R_get 2 = .ok (.iload_n 3, 1) := by decide +kernel
theorem d_R_get_3 : decode b_R_get 3 = .ok (.iconst 1, 1) := by decide +kernel
theorem d_R_get_4 : decode b_R_get 4 = .ok (.invokevirtual 102, 3) := by decide +kernel
theorem d_R_get_7 : decode b_R_get 7 = .ok (.istore 4, 2) := by decide +kernel
theorem d_R_get_9 : decode b_R_get 9 = .ok (.iload_n 1, 1) := by decide +kernel
theorem d_R_get_10 : decode b_R_get 10 = .ok (.invokestatic 88, 3) := by decide +kernel
theorem d_R_get_13 : decode b_R_get 13 = .ok (.ifCond .eq 9, 3) := by decide +kernel
theorem d_R_get_16 : decode b_R_get 16 = .ok (.iload 4, 2) := by decide +kernel
theorem d_R_get_18 : decode b_R_get 18 = .ok (.iconst (-1), 1) := by decide +kernel
theorem d_R_get_19 : decode b_R_get 19 = .ok (.if_icmp .ne 5, 3) := by decide +kernel
theorem d_R_get_22 : decode b_R_get 22 = .ok (.iconst 0, 1) := by decide +kernel
theorem d_R_get_23 : decode b_R_get 23 = .ok (.ireturn, 1) := by decide +kernel
theorem d_R_get_24 : decode b_R_get 24 = .ok (.aload_n 0, 1) := by decide +kernel
theorem d_R_get_25 : decode b_R_get 25 = .ok (.getfield 36, 3) := by decide +kernel
theorem d_R_get_28 : decode b_R_get 28 = .ok (.iload_n 1, 1) := by decide +kernel
theorem d_R_get_29 : decode b_R_get 29 = .ok (.aload_n 0, 1) := by decide +kernel
theorem d_R_get_30 : decode b_R_get 30 = .ok (.getfield 29, 3) := by decide +kernel
theorem d_R_get_33 : decode b_R_get 33 = .ok (.iload 4, 2) := by decide +kernel
theorem d_R_get_35 : decode b_R_get 35 = .ok (.iaload, 1) := by decide +kernel
theorem d_R_get_36 : decode b_R_get 36 = .ok (.iastore, 1) := by decide +kernel
theorem d_R_get_37 : decode b_R_get 37 = .ok (.iconst 1, 1) := by decide +kernel
theorem d_R_get_38 : decode b_R_get 38 = .ok (.ireturn, 1) := by decide +kernel
theorem d_R_put_0 : decode b_R_put 0 = .ok (.aload_n 0, 1) := by decide +kernel
theorem d_R_put_1 : decode b_R_put 1 = .ok (.iload_n 1, 1) := by decide +kernel
theorem d_R_put_2 : decode b_R_put 2 = .ok (.iload_n 2, 1) := by decide +kernel
theorem d_R_put_3 : decode b_R_put 3 = .ok (.iconst 1, 1) := by decide +kernel
theorem d_R_put_4 : decode b_R_put 4 = .ok (.invokevirtual 102, 3) := by decide +kernel
theorem d_R_put_7 : decode b_R_put 7 = .ok (.istore 4, 2) := by decide +kernel
theorem d_R_put_9 : decode b_R_put 9 = .ok (.iload_n 3, 1) := by decide +kernel
theorem d_R_put_10 : decode b_R_put 10 = .ok (.invokestatic 88, 3) := by decide +kernel
theorem d_R_put_13 : decode b_R_put 13 = .ok (.ifCond .eq 9, 3) := by decide +kernel
theorem d_R_put_16 : decode b_R_put 16 = .ok (.iload 4, 2) := by decide +kernel
theorem d_R_put_18 : decode b_R_put 18 = .ok (.iconst (-1), 1) := by decide +kernel
theorem d_R_put_19 : decode b_R_put 19 = .ok (.if_icmp .ne 5, 3) := by decide +kernel
theorem d_R_put_22 : decode b_R_put 22 = .ok (.iconst 0, 1) := by decide +kernel
theorem d_R_put_23 : decode b_R_put 23 = .ok (.ireturn, 1) := by decide +kernel
theorem d_R_put_24 : decode b_R_put 24 = .ok (.aload_n 0, 1) := by decide +kernel
theorem d_R_put_25 : decode b_R_put 25 = .ok (.getfield 29, 3) := by decide +kernel
theorem d_R_put_28 : decode b_R_put 28 = .ok (.iload 4, 2) := by decide +kernel
theorem d_R_put_30 : decode b_R_put 30 = .ok (.aload_n 0, 1) := by decide +kernel
theorem d_R_put_31 : decode b_R_put 31 = .ok (.getfield 36, 3) := by decide +kernel
theorem d_R_put_34 : decode b_R_put 34 = .ok (.iload_n 3, 1) := by decide +kernel
theorem d_R_put_35 : decode b_R_put 35 = .ok (.iaload, 1) := by decide +kernel
theorem d_R_put_36 : decode b_R_put 36 = .ok (.iastore, 1) := by decide +kernel
theorem d_R_put_37 : decode b_R_put 37 = .ok (.iconst 1, 1) := by decide +kernel
theorem d_R_put_38 : decode b_R_put 38 = .ok (.ireturn, 1) := by decide +kernel
theorem d_R_look_0 : decode b_R_look 0 = .ok (.aload_n 0, 1) := by decide +kernel
theorem d_R_look_1 : decode b_R_look 1 = .ok (.iload_n 1, 1) := by decide +kernel
theorem d_R_look_2 : decode b_R_look 2 = .ok (.iload_n 2, 1) := by decide +kernel
theorem d_R_look_3 : decode b_R_look 3 = .ok (.iconst 0, 1) := by decide +kernel
theorem d_R_look_4 : decode b_R_look 4 = .ok (.invokevirtual 102, 3) := by decide +kernel
theorem d_R_look_7 : decode b_R_look 7 = .ok (.istore_n 3, 1) := by decide +kernel
theorem d_R_look_8 : decode b_R_look 8 = .ok (.iload_n 3, 1) := by decide +kernel
theorem d_R_look_9 : decode b_R_look 9 = .ok (.iconst (-1), 1) := by decide +kernel
theorem d_R_look_10 : decode b_R_look 10 = .ok (.if_icmp .ne 9, 3) := by decide +kernel
theorem d_R_look_13 : decode b_R_look 13 = .ok (.ldc2_w 108, 3) := by decide +kernel
theorem d_R_look_16 : decode b_R_look 16 = .ok (.goto 10, 3) := by decide +kernel
theorem d_R_look_19 : decode b_R_look 19 = .ok (.aload_n 0, 1) := by decide +kernel
theorem d_R_look_20 : decode b_R_look 20 = .ok (.getfield 29, 3) := by decide +kernel
theorem d_R_look_23 : decode b_R_look 23 = .ok (.iload_n 3, 1) := by decide +kernel
theorem d_R_look_24 : decode b_R_look 24 = .ok (.iaload, 1) := by decide +kernel
theorem d_R_look_25 : decode b_R_look 25 = .ok (.i2l, 1) := by decide +kernel
theorem d_R_look_26 : decode b_R_look 26 = .ok (.lreturn, 1) := by decide +kernel
theorem d_R_set_0 : decode b_R_set 0 = .ok (.aload_n 0, 1) := by decide +kernel
theorem d_R_set_1 : decode b_R_set 1 = .ok (.iload_n 1, 1) := by decide +kernel
theorem d_R_set_2 : decode b_R_set 2 = .ok (.iload_n 2, 1) := by decide +kernel
theorem d_R_set_3 : decode b_R_set 3 = .ok (.iconst 0, 1) := by decide +kernel
theorem d_R_set_4 : decode b_R_set 4 = .ok (.invokevirtual 102, 3) := by decide +kernel
theorem d_R_set_7 : decode b_R_set 7 = .ok (.istore 4, 2) := by decide +kernel
theorem d_R_set_9 : decode b_R_set 9 = .ok (.iload 4, 2) := by decide +kernel
theorem d_R_set_11 : decode b_R_set 11 = .ok (.iconst (-1), 1) := by decide +kernel
theorem d_R_set_12 : decode b_R_set 12 = .ok (.if_icmp .ne 5, 3) := by decide +kernel
theorem d_R_set_15 : decode b_R_set 15 = .ok (.iconst 0, 1) := by decide +kernel
theorem d_R_set_16 : decode b_R_set 16 = .ok (.ireturn, 1) := by decide +kernel
theorem d_R_set_17 : decode b_R_set 17 = .ok (.aload_n 0, 1) := by decide +kernel
theorem d_R_set_18 : decode b_R_set 18 = .ok (.getfield 29, 3) := by decide +kernel
theorem d_R_set_21 : decode b_R_set 21 = .ok (.iload 4, 2) := by decide +kernel
theorem d_R_set_23 : decode b_R_set 23 = .ok (.iload_n 3, 1) := by decide +kernel
theorem d_R_set_24 : decode b_R_set 24 = .ok (.iastore, 1) := by decide +kernel
theorem d_R_set_25 : decode b_R_set 25 = .ok (.iconst 1, 1) := by decide +kernel
theorem d_R_set_26 : decode b_R_set 26 = .ok (.ireturn, 1) := by decide +kernel
theorem d_R_hasItem_0 : decode b_R_hasItem 0 = .ok (.iload_n 1, 1) := by decide +kernel
theorem d_R_hasItem_1 : decode b_R_hasItem 1 = .ok (.invokestatic 88, 3) := by decide +kernel
theorem d_R_hasItem_4 : decode b_R_hasItem 4 = .ok (.ifCond .eq 12, 3) := by decide +kernel
theorem d_R_hasItem_7 : decode b_R_hasItem 7 = .ok (.aload_n 0, 1) := by decide +kernel
theorem d_R_hasItem_8 : decode b_R_hasItem 8 = .ok (.getfield 36, 3) := by decide +kernel
theorem d_R_hasItem_11 : decode b_R_hasItem 11 = .ok (.iload_n 1, 1) := by decide +kernel
theorem d_R_hasItem_12 : decode b_R_hasItem 12 = .ok (.iaload, 1) := by decide +kernel
theorem d_R_hasItem_13 : decode b_R_hasItem 13 = .ok (.ifCond .ne 5, 3) := by decide +kernel
theorem d_R_hasItem_16 : decode b_R_hasItem 16 = .ok (.iconst 0, 1) := by decide +kernel
theorem d_R_hasItem_17 : decode b_R_hasItem 17 = .ok (.ireturn, 1) := by decide +kernel
theorem d_R_hasItem_18 : decode b_R_hasItem 18 = .ok (.aload_n 0, 1) := by decide +kernel
theorem d_R_hasItem_19 : decode b_R_hasItem 19 = .ok (.getfield 36, 3) := by decide +kernel
theorem d_R_hasItem_22 : decode b_R_hasItem 22 = .ok (.iload_n 1, 1) := by decide +kernel
theorem d_R_hasItem_23 : decode b_R_hasItem 23 = .ok (.iaload, 1) := by decide +kernel
theorem d_R_hasItem_24 : decode b_R_hasItem 24 = .ok (.iconst 1, 1) := by decide +kernel
theorem d_R_hasItem_25 : decode b_R_hasItem 25 = .ok (.isub, 1) := by decide +kernel
theorem d_R_hasItem_26 : decode b_R_hasItem 26 = .ok (.istore 4, 2) := by decide +kernel
theorem d_R_hasItem_28 : decode b_R_hasItem 28 = .ok (.aload_n 0, 1) := by decide +kernel
theorem d_R_hasItem_29 : decode b_R_hasItem 29 = .ok (.getfield 10, 3) := by decide +kernel
theorem d_R_hasItem_32 : decode b_R_hasItem 32 = .ok (.iload 4, 2) := by decide +kernel
theorem d_R_hasItem_34 : decode b_R_hasItem 34 = .ok (.baload, 1) := by decide +kernel
theorem d_R_hasItem_35 : decode b_R_hasItem 35 = .ok (.iconst 2, 1) := by decide +kernel
theorem d_R_hasItem_36 : decode b_R_hasItem 36 = .ok (.if_icmp .ne 33, 3) := by decide +kernel
theorem d_R_hasItem_39 : decode b_R_hasItem 39 = .ok (.aload_n 0, 1) := by decide +kernel
theorem d_R_hasItem_40 : decode b_R_hasItem 40 = .ok (.getfield 24, 3) := by decide +kernel
theorem d_R_hasItem_43 : decode b_R_hasItem 43 = .ok (.iload 4, 2) := by decide +kernel
theorem d_R_hasItem_45 : decode b_R_hasItem 45 = .ok (.baload, 1) := by decide +kernel
theorem d_R_hasItem_46 : decode b_R_hasItem 46 = .ok (.iload_n 3, 1) := by decide +kernel
theorem d_R_hasItem_47 : decode b_R_hasItem 47 = .ok (.if_icmp .ne 22, 3) := by decide +kernel
theorem d_R_hasItem_50 : decode b_R_hasItem 50 = .ok (.iload_n 2, 1) := by decide +kernel
theorem d_R_hasItem_51 : decode b_R_hasItem 51 = .ok (.ifCond .lt 18, 3) := by decide +kernel
theorem d_R_hasItem_54 : decode b_R_hasItem 54 = .ok (.iload_n 2, 1) := by decide +kernel
theorem d_R_hasItem_55 : decode b_R_hasItem 55 = .ok (.aload_n 0, 1) := by decide +kernel
theorem d_R_hasItem_56 : decode b_R_hasItem 56 = .ok (.getfield 20, 3) := by decide +kernel
theorem d_R_hasItem_59 : decode b_R_hasItem 59 = .ok (.iload 4, 2) := by decide +kernel
theorem d_R_hasItem_61 : decode b_R_hasItem 61 = .ok (.saload, 1) := by decide +kernel
theorem d_R_hasItem_62 : decode b_R_hasItem 62 = .ok (.if_icmp .ge 7, 3) := by decide +kernel
theorem d_R_hasItem_65 : decode b_R_hasItem 65 = .ok (.iconst 1, 1) := by decide +kernel
theorem d_R_hasItem_66 : decode b_R_hasItem 66 = .ok (.goto 4, 3) := by decide +kernel
theorem d_R_hasItem_69 : decode b_R_hasItem 69 = .ok (.iconst 0, 1) := by decide +kernel
theorem d_R_hasItem_70 : decode b_R_hasItem 70 = .ok (.ireturn, 1) := by decide +kernel
theorem d_R_item_0 : decode b_R_item 0 = .ok (.aload_n 0, 1) := by decide +kernel
theorem d_R_item_1 : decode b_R_item 1 = .ok (.getfield 36, 3) := by decide +kernel
theorem d_R_item_4 : decode b_R_item 4 = .ok (.iload_n 1, 1) := by decide +kernel
theorem d_R_item_5 : decode b_R_item 5 = .ok (.iaload, 1) := by decide +kernel
theorem d_R_item_6 : decode b_R_item 6 = .ok (.iconst 1, 1) := by decide +kernel
theorem d_R_item_7 : decode b_R_item 7 = .ok (.isub, 1) := by decide +kernel
theorem d_R_item_8 : decode b_R_item 8 = .ok (.istore_n 3, 1) := by decide +kernel
theorem d_R_item_9 : decode b_R_item 9 = .ok (.aload_n 0, 1) := by decide +kernel
theorem d_R_item_10 : decode b_R_item 10 = .ok (.getfield 20, 3) := by decide +kernel
theorem d_R_item_13 : decode b_R_item 13 = .ok (.iload_n 3, 1) := by decide +kernel
theorem d_R_item_14 : decode b_R_item 14 = .ok (.saload, 1) := by decide +kernel
theorem d_R_item_15 : decode b_R_item 15 = .ok (.invokestatic 99, 3) := by decide +kernel
theorem d_R_item_18 : decode b_R_item 18 = .ok (.istore 4, 2) := by decide +kernel
theorem d_R_item_20 : decode b_R_item 20 = .ok (.iload 4, 2) := by decide +kernel
theorem d_R_item_22 : decode b_R_item 22 = .ok (.iconst 3, 1) := by decide +kernel
theorem d_R_item_23 : decode b_R_item 23 = .ok (.if_icmp .ne 9, 3) := by decide +kernel
theorem d_R_item_26 : decode b_R_item 26 = .ok (.sipush 225, 3) := by decide +kernel
theorem d_R_item_29 : decode b_R_item 29 = .ok (.goto 15, 3) := by decide +kernel
theorem d_R_item_32 : decode b_R_item 32 = .ok (.iload 4, 2) := by decide +kernel
theorem d_R_item_34 : decode b_R_item 34 = .ok (.iconst 2, 1) := by decide +kernel
theorem d_R_item_35 : decode b_R_item 35 = .ok (.if_icmp .ne 8, 3) := by decide +kernel
theorem d_R_item_38 : decode b_R_item 38 = .ok (.bipush 15, 2) := by decide +kernel
theorem d_R_item_40 : decode b_R_item 40 = .ok (.goto 4, 3) := by decide +kernel
theorem d_R_item_43 : decode b_R_item 43 = .ok (.iconst 1, 1) := by decide +kernel
theorem d_R_item_44 : decode b_R_item 44 = .ok (.istore 5, 2) := by decide +kernel
theorem d_R_item_46 : decode b_R_item 46 = .ok (.iload_n 2, 1) := by decide +kernel
theorem d_R_item_47 : decode b_R_item 47 = .ok (.istore 6, 2) := by decide +kernel
theorem d_R_item_49 : decode b_R_item 49 = .ok (.iload 5, 2) := by decide +kernel
theorem d_R_item_51 : decode b_R_item 51 = .ok (.iconst 1, 1) := by decide +kernel
theorem d_R_item_52 : decode b_R_item 52 = .ok (.if_icmp .le 75, 3) := by decide +kernel
theorem d_R_item_55 : decode b_R_item 55 = .ok (.iload_n 3, 1) := by decide +kernel
theorem d_R_item_56 : decode b_R_item 56 = .ok (.bipush 16, 2) := by decide +kernel
theorem d_R_item_58 : decode b_R_item 58 = .ok (.imul, 1) := by decide +kernel
theorem d_R_item_59 : decode b_R_item 59 = .ok (.iload 6, 2) := by decide +kernel
theorem d_R_item_61 : decode b_R_item 61 = .ok (.iload 5, 2) := by decide +kernel
theorem d_R_item_63 : decode b_R_item 63 = .ok (.idiv, 1) := by decide +kernel
theorem d_R_item_64 : decode b_R_item 64 = .ok (.iadd, 1) := by decide +kernel
theorem d_R_item_65 : decode b_R_item 65 = .ok (.istore 7, 2) := by decide +kernel
theorem d_R_item_67 : decode b_R_item 67 = .ok (.iload 6, 2) := by decide +kernel
theorem d_R_item_69 : decode b_R_item 69 = .ok (.iload 5, 2) := by decide +kernel
theorem d_R_item_71 : decode b_R_item 71 = .ok (.irem, 1) := by decide +kernel
theorem d_R_item_72 : decode b_R_item 72 = .ok (.istore 6, 2) := by decide +kernel
theorem d_R_item_74 : decode b_R_item 74 = .ok (.iload 5, 2) := by decide +kernel
theorem d_R_item_76 : decode b_R_item 76 = .ok (.bipush 15, 2) := by decide +kernel
theorem d_R_item_78 : decode b_R_item 78 = .ok (.idiv, 1) := by decide +kernel
theorem d_R_item_79 : decode b_R_item 79 = .ok (.istore 5, 2) := by decide +kernel
theorem d_R_item_81 : decode b_R_item 81 = .ok (.aload_n 0, 1) := by decide +kernel
theorem d_R_item_82 : decode b_R_item 82 = .ok (.getfield 29, 3) := by decide +kernel
theorem d_R_item_85 : decode b_R_item 85 = .ok (.iload 7, 2) := by decide +kernel
theorem d_R_item_87 : decode b_R_item 87 = .ok (.iaload, 1) := by decide +kernel
theorem d_R_item_88 : decode b_R_item 88 = .ok (.ifCond .ne 26, 3) := by decide +kernel
theorem d_R_item_91 : decode b_R_item 91 = .ok (.aload_n 0, 1) := by decide +kernel
theorem d_R_item_92 : decode b_R_item 92 = .ok (.iload 7, 2) := by decide +kernel
theorem d_R_item_94 : decode b_R_item 94 = .ok (.putfield 110, 3) := by decide +kernel
theorem d_R_item_97 : decode b_R_item 97 = .ok (.aload_n 0, 1) := by decide +kernel
theorem d_R_item_98 : decode b_R_item 98 = .ok (.iload 5, 2) := by decide +kernel
theorem d_R_item_100 : decode b_R_item 100 = .ok (.iconst 1, 1) := by decide +kernel
theorem d_R_item_101 : decode b_R_item 101 = .ok (.if_icmp .ne 7, 3) := by decide +kernel
theorem d_R_item_104 : decode b_R_item 104 = .ok (.iconst 1, 1) := by decide +kernel
theorem d_R_item_105 : decode b_R_item 105 = .ok (.goto 4, 3) := by decide +kernel
theorem d_R_item_108 : decode b_R_item 108 = .ok (.iconst 0, 1) := by decide +kernel
theorem d_R_item_109 : decode b_R_item 109 = .ok (.putfield 113, 3) := by decide +kernel
theorem d_R_item_112 : decode b_R_item 112 = .ok (.iconst (-1), 1) := by decide +kernel
theorem d_R_item_113 : decode b_R_item 113 = .ok (.ireturn, 1) := by decide +kernel
theorem d_R_item_114 : decode b_R_item 114 = .ok (.aload_n 0, 1) := by decide +kernel
theorem d_R_item_115 : decode b_R_item 115 = .ok (.getfield 29, 3) := by decide +kernel
theorem d_R_item_118 : decode b_R_item 118 = .ok (.iload 7, 2) := by decide +kernel
theorem d_R_item_120 : decode b_R_item 120 = .ok (.iaload, 1) := by decide +kernel
theorem d_R_item_121 : decode b_R_item 121 = .ok (.iconst 1, 1) := by decide +kernel
theorem d_R_item_122 : decode b_R_item 122 = .ok (.isub, 1) := by decide +kernel
theorem d_R_item_123 : decode b_R_item 123 = .ok (.istore_n 3, 1) := by decide +kernel
theorem d_R_item_124 : decode b_R_item 124 = .ok (.goto (-75), 3) := by decide +kernel
theorem d_R_item_127 : decode b_R_item 127 = .ok (.iload_n 3, 1) := by decide +kernel
theorem d_R_item_128 : decode b_R_item 128 = .ok (.bipush 16, 2) := by decide +kernel
theorem d_R_item_130 : decode b_R_item 130 = .ok (.imul, 1) := by decide +kernel
theorem d_R_item_131 : decode b_R_item 131 = .ok (.iload 6, 2) := by decide +kernel
theorem d_R_item_133 : decode b_R_item 133 = .ok (.iadd, 1) := by decide +kernel
theorem d_R_item_134 : decode b_R_item 134 = .ok (.ireturn, 1) := by decide +kernel
theorem d_R_fill_0 : decode b_R_fill 0 = .ok (.aload_n 0, 1) := by decide +kernel
theorem d_R_fill_1 : decode b_R_fill 1 = .ok (.bipush 16, 2) := by decide +kernel
theorem d_R_fill_3 : decode b_R_fill 3 = .ok (.invokevirtual 92, 3) := by decide +kernel
theorem d_R_fill_6 : decode b_R_fill 6 = .ok (.ifCond .ne 5, 3) := by decide +kernel
theorem d_R_fill_9 : decode b_R_fill 9 = .ok (.iconst 0, 1) := by decide +kernel
theorem d_R_fill_10 : decode b_R_fill 10 = .ok (.ireturn, 1) := by decide +kernel
theorem d_R_fill_11 : decode b_R_fill 11 = .ok (.iload_n 1, 1) := by decide +kernel
theorem d_R_fill_12 : decode b_R_fill 12 = .ok (.ifCond .ne 10, 3) := by decide +kernel
theorem d_R_fill_15 : decode b_R_fill 15 = .ok (.aload_n 0, 1) := by decide +kernel
theorem d_R_fill_16 : decode b_R_fill 16 = .ok (.getfield 113, 3) := by decide +kernel
theorem d_R_fill_19 : decode b_R_fill 19 = .ok (.ifCond .ne 7, 3) := by decide +kernel
theorem d_R_fill_22 : decode b_R_fill 22 = .ok (.iconst 1, 1) := by decide +kernel
theorem d_R_fill_23 : decode b_R_fill 23 = .ok (.goto 4, 3) := by decide +kernel
theorem d_R_fill_26 : decode b_R_fill 26 = .ok (.iconst 0, 1) := by decide +kernel
theorem d_R_fill_27 : decode b_R_fill 27 = .ok (.istore_n 2, 1) := by decide +kernel
theorem d_R_fill_28 : decode b_R_fill 28 = .ok (.aload_n 0, 1) := by decide +kernel
theorem d_R_fill_29 : decode b_R_fill 29 = .ok (.getfield 110, 3) := by decide +kernel
theorem d_R_fill_32 : decode b_R_fill 32 = .ok (.istore_n 3, 1) := by decide +kernel
theorem d_R_fill_33 : decode b_R_fill 33 = .ok (.aload_n 0, 1) := by decide +kernel
theorem d_R_fill_34 : decode b_R_fill 34 = .ok (.getfield 29, 3) := by decide +kernel
theorem d_R_fill_37 : decode b_R_fill 37 = .ok (.iload_n 3, 1) := by decide +kernel
theorem d_R_fill_38 : decode b_R_fill 38 = .ok (.aload_n 0, 1) := by decide +kernel
theorem d_R_fill_39 : decode b_R_fill 39 = .ok (.iconst 3, 1) := by decide +kernel
theorem d_R_fill_40 : decode b_R_fill 40 = .ok (.iload_n 2, 1) := by decide +kernel
theorem d_R_fill_41 : decode b_R_fill 41 = .ok (.ifCond .eq 8, 3) := by decide +kernel
theorem d_R_fill_44 : decode b_R_fill 44 = .ok (.bipush 15, 2) := by decide +kernel
theorem d_R_fill_46 : decode b_R_fill 46 = .ok (.goto 4, 3) := by decide +kernel
theorem d_R_fill_49 : decode b_R_fill 49 = .ok (.iconst 0, 1) := by decide +kernel
theorem d_R_fill_50 : decode b_R_fill 50 = .ok (.iload_n 2, 1) := by decide +kernel
theorem d_R_fill_51 : decode b_R_fill 51 = .ok (.ifCond .eq 7, 3) := by decide +kernel
theorem d_R_fill_54 : decode b_R_fill 54 = .ok (.iconst 0, 1) := by decide +kernel
theorem d_R_fill_55 : decode b_R_fill 55 = .ok (.goto 5, 3) := by decide +kernel
theorem d_R_fill_58 : decode b_R_fill 58 = .ok (.bipush 15, 2) := by decide +kernel
theorem d_R_fill_60 : decode b_R_fill 60 = .ok (.invokevirtual 95, 3) := by decide +kernel
theorem d_R_fill_63 : decode b_R_fill 63 = .ok (.iconst 1, 1) := by decide +kernel
theorem d_R_fill_64 : decode b_R_fill 64 = .ok (.iadd, 1) := by decide +kernel
theorem d_R_fill_65 : decode b_R_fill 65 = .ok (.iastore, 1) := by decide +kernel
theorem d_R_fill_66 : decode b_R_fill 66 = .ok (.iconst 2, 1) := by decide +kernel
theorem d_R_fill_67 : decode b_R_fill 67 = .ok (.ireturn, 1) := by decide +kernel
theorem d_R_getItem_0 : decode b_R_getItem 0 = .ok (.iload_n 1, 1) := by decide +kernel
theorem d_R_getItem_1 : decode b_R_getItem 1 = .ok (.invokestatic 88, 3) := by decide +kernel
theorem d_R_getItem_4 : decode b_R_getItem 4 = .ok (.ifCond .eq 13, 3) := by decide +kernel
theorem d_R_getItem_7 : decode b_R_getItem 7 = .ok (.aload_n 0, 1) := by decide +kernel
theorem d_R_getItem_8 : decode b_R_getItem 8 = .ok (.iload_n 2, 1) := by decide +kernel
theorem d_R_getItem_9 : decode b_R_getItem 9 = .ok (.iload_n 3, 1) := by decide +kernel
theorem d_R_getItem_10 : decode b_R_getItem 10 = .ok (.iconst 1, 1) := by decide +kernel
theorem d_R_getItem_11 : decode b_R_getItem 11 = .ok (.invokevirtual 117, 3) := by decide +kernel
theorem d_R_getItem_14 : decode b_R_getItem 14 = .ok (.ifCond .ne 5, 3) := by decide +kernel
theorem d_R_getItem_17 : decode b_R_getItem 17 = .ok (.iconst 0, 1) := by decide +kernel
theorem d_R_getItem_18 : decode b_R_getItem 18 = .ok (.ireturn, 1) := by decide +kernel
theorem d_R_getItem_19 : decode b_R_getItem 19 = .ok (.aload_n 0, 1) := by decide +kernel
theorem d_R_getItem_20 : decode b_R_getItem 20 = .ok (.iload_n 2, 1) := by decide +kernel
theorem d_R_getItem_21 : decode b_R_getItem 21 = .ok (.iload_n 3, 1) := by decide +kernel
theorem d_R_getItem_22 : decode b_R_getItem 22 = .ok (.invokevirtual 121, 3) := by decide +kernel
theorem d_R_getItem_25 : decode b_R_getItem 25 = .ok (.istore 4, 2) := by decide +kernel
theorem d_R_getItem_27 : decode b_R_getItem 27 = .ok (.aload_n 0, 1) := by decide +kernel
theorem d_R_getItem_28 : decode b_R_getItem 28 = .ok (.getfield 36, 3) := by decide +kernel
theorem d_R_getItem_31 : decode b_R_getItem 31 = .ok (.iload_n 1, 1) := by decide +kernel
theorem d_R_getItem_32 : decode b_R_getItem 32 = .ok (.iload 4, 2) := by decide +kernel
theorem d_R_getItem_34 : decode b_R_getItem 34 = .ok (.iconst (-1), 1) := by decide +kernel
theorem d_R_getItem_35 : decode b_R_getItem 35 = .ok (.if_icmp .ne 7, 3) := by decide +kernel
theorem d_R_getItem_38 : decode b_R_getItem 38 = .ok (.iconst 0, 1) := by decide +kernel
theorem d_R_getItem_39 : decode b_R_getItem 39 = .ok (.goto 10, 3) := by decide +kernel
theorem d_R_getItem_42 : decode b_R_getItem 42 = .ok (.aload_n 0, 1) := by decide +kernel
theorem d_R_getItem_43 : decode b_R_getItem 43 = .ok (.getfield 29, 3) := by decide +kernel
theorem d_R_getItem_46 : decode b_R_getItem 46 = .ok (.iload 4, 2) := by decide +kernel
theorem d_R_getItem_48 : decode b_R_getItem 48 = .ok (.iaload, 1) := by decide +kernel
theorem d_R_getItem_49 : decode b_R_getItem 49 = .ok (.iastore, 1) := by decide +kernel
theorem d_R_getItem_50 : decode b_R_getItem 50 = .ok (.iconst 1, 1) := by decide +kernel
theorem d_R_getItem_51 : decode b_R_getItem 51 = .ok (.ireturn, 1) := by decide +kernel
theorem d_R_putItem_0 : decode b_R_putItem 0 = .ok (.iload_n 3, 1) := by decide +kernel
theorem d_R_putItem_1 : decode b_R_putItem 1 = .ok (.invokestatic 88, 3) := by decide +kernel
theorem d_R_putItem_4 : decode b_R_putItem 4 = .ok (.ifCond .eq 13, 3) := by decide +kernel
theorem d_R_putItem_7 : decode b_R_putItem 7 = .ok (.aload_n 0, 1) := by decide +kernel
theorem d_R_putItem_8 : decode b_R_putItem 8 = .ok (.iload_n 1, 1) := by decide +kernel
theorem d_R_putItem_9 : decode b_R_putItem 9 = .ok (.iload_n 2, 1) := by decide +kernel
theorem d_R_putItem_10 : decode b_R_putItem 10 = .ok (.iconst 1, 1) := by decide +kernel
theorem d_R_putItem_11 : decode b_R_putItem 11 = .ok (.invokevirtual 117, 3) := by decide +kernel
theorem d_R_putItem_14 : decode b_R_putItem 14 = .ok (.ifCond .ne 5, 3) := by decide +kernel
theorem d_R_putItem_17 : decode b_R_putItem 17 = .ok (.iconst (-1), 1) := by decide +kernel
theorem d_R_putItem_18 : decode b_R_putItem 18 = .ok (.ireturn, 1) := by decide +kernel
theorem d_R_putItem_19 : decode b_R_putItem 19 = .ok (.aload_n 0, 1) := by decide +kernel
theorem d_R_putItem_20 : decode b_R_putItem 20 = .ok (.iload_n 1, 1) := by decide +kernel
theorem d_R_putItem_21 : decode b_R_putItem 21 = .ok (.iload_n 2, 1) := by decide +kernel
theorem d_R_putItem_22 : decode b_R_putItem 22 = .ok (.invokevirtual 121, 3) := by decide +kernel
theorem d_R_putItem_25 : decode b_R_putItem 25 = .ok (.istore 4, 2) := by decide +kernel
theorem d_R_putItem_27 : decode b_R_putItem 27 = .ok (.iload 4, 2) := by decide +kernel
theorem d_R_putItem_29 : decode b_R_putItem 29 = .ok (.iconst (-1), 1) := by decide +kernel
theorem d_R_putItem_30 : decode b_R_putItem 30 = .ok (.if_icmp .ne 9, 3) := by decide +kernel
theorem d_R_putItem_33 : decode b_R_putItem 33 = .ok (.aload_n 0, 1) := by decide +kernel
theorem d_R_putItem_34 : decode b_R_putItem 34 = .ok (.iconst 1, 1) := by decide +kernel
theorem d_R_putItem_35 : decode b_R_putItem 35 = .ok (.invokevirtual 125, 3) := by decide +kernel
theorem d_R_putItem_38 : decode b_R_putItem 38 = .ok (.ireturn, 1) := by decide +kernel
theorem d_R_putItem_39 : decode b_R_putItem 39 = .ok (.aload_n 0, 1) := by decide +kernel
theorem d_R_putItem_40 : decode b_R_putItem 40 = .ok (.getfield 29, 3) := by decide +kernel
theorem d_R_putItem_43 : decode b_R_putItem 43 = .ok (.iload 4, 2) := by decide +kernel
theorem d_R_putItem_45 : decode b_R_putItem 45 = .ok (.aload_n 0, 1) := by decide +kernel
theorem d_R_putItem_46 : decode b_R_putItem 46 = .ok (.getfield 36, 3) := by decide +kernel
theorem d_R_putItem_49 : decode b_R_putItem 49 = .ok (.iload_n 3, 1) := by decide +kernel
theorem d_R_putItem_50 : decode b_R_putItem 50 = .ok (.iaload, 1) := by decide +kernel
theorem d_R_putItem_51 : decode b_R_putItem 51 = .ok (.iastore, 1) := by decide +kernel
theorem d_R_putItem_52 : decode b_R_putItem 52 = .ok (.iconst 1, 1) := by decide +kernel
theorem d_R_putItem_53 : decode b_R_putItem 53 = .ok (.ireturn, 1) := by decide +kernel
theorem d_R_lookItem_0 : decode b_R_lookItem 0 = .ok (.aload_n 0, 1) := by decide +kernel
theorem d_R_lookItem_1 : decode b_R_lookItem 1 = .ok (.iload_n 1, 1) := by decide +kernel
theorem d_R_lookItem_2 : decode b_R_lookItem 2 = .ok (.iload_n 2, 1) := by decide +kernel
theorem d_R_lookItem_3 : decode b_R_lookItem 3 = .ok (.iconst 0, 1) := by decide +kernel
theorem d_R_lookItem_4 : decode b_R_lookItem 4 = .ok (.invokevirtual 117, 3) := by decide +kernel
theorem d_R_lookItem_7 : decode b_R_lookItem 7 = .ok (.ifCond .ne 7, 3) := by decide +kernel
theorem d_R_lookItem_10 : decode b_R_lookItem 10 = .ok (.ldc2_w 108, 3) := by decide +kernel
theorem d_R_lookItem_13 : decode b_R_lookItem 13 = .ok (.lreturn, 1) := by decide +kernel
theorem d_R_lookItem_14 : decode b_R_lookItem 14 = .ok (.aload_n 0, 1) := by decide +kernel
theorem d_R_lookItem_15 : decode b_R_lookItem 15 = .ok (.iload_n 1, 1) := by decide +kernel
theorem d_R_lookItem_16 : decode b_R_lookItem 16 = .ok (.iload_n 2, 1) := by decide +kernel
theorem d_R_lookItem_17 : decode b_R_lookItem 17 = .ok (.invokevirtual 121, 3) := by decide +kernel
theorem d_R_lookItem_20 : decode b_R_lookItem 20 = .ok (.istore_n 3, 1) := by decide +kernel
theorem d_R_lookItem_21 : decode b_R_lookItem 21 = .ok (.iload_n 3, 1) := by decide +kernel
theorem d_R_lookItem_22 : decode b_R_lookItem 22 = .ok (.iconst (-1), 1) := by decide +kernel
theorem d_R_lookItem_23 : decode b_R_lookItem 23 = .ok (.if_icmp .ne 7, 3) := by decide +kernel
theorem d_R_lookItem_26 : decode b_R_lookItem 26 = .ok (.lconst 0, 1) := by decide +kernel
theorem d_R_lookItem_27 : decode b_R_lookItem 27 = .ok (.goto 10, 3) := by decide +kernel
theorem d_R_lookItem_30 : decode b_R_lookItem 30 = .ok (.aload_n 0, 1) := by decide +kernel
theorem d_R_lookItem_31 : decode b_R_lookItem 31 = .ok (.getfield 29, 3) := by decide +kernel
theorem d_R_lookItem_34 : decode b_R_lookItem 34 = .ok (.iload_n 3, 1) := by decide +kernel
theorem d_R_lookItem_35 : decode b_R_lookItem 35 = .ok (.iaload, 1) := by decide +kernel
theorem d_R_lookItem_36 : decode b_R_lookItem 36 = .ok (.i2l, 1) := by decide +kernel
theorem d_R_lookItem_37 : decode b_R_lookItem 37 = .ok (.lreturn, 1) := by decide +kernel
theorem d_R_setItem_0 : decode b_R_setItem 0 = .ok (.aload_n 0, 1) := by decide +kernel
theorem d_R_setItem_1 : decode b_R_setItem 1 = .ok (.iload_n 1, 1) := by decide +kernel
theorem d_R_setItem_2 : decode b_R_setItem 2 = .ok (.iload_n 2, 1) := by decide +kernel
theorem d_R_setItem_3 : decode b_R_setItem 3 = .ok (.iconst 0, 1) := by decide +kernel
theorem d_R_setItem_4 : decode b_R_setItem 4 = .ok (.invokevirtual 117, 3) := by decide +kernel
theorem d_R_setItem_7 : decode b_R_setItem 7 = .ok (.ifCond .ne 5, 3) := by decide +kernel
theorem d_R_setItem_10 : decode b_R_setItem 10 = .ok (.iconst (-1), 1) := by decide +kernel
theorem d_R_setItem_11 : decode b_R_setItem 11 = .ok (.ireturn, 1) := by decide +kernel
theorem d_R_setItem_12 : decode b_R_setItem 12 = .ok (.aload_n 0, 1) := by decide +kernel
theorem d_R_setItem_13 : decode b_R_setItem 13 = .ok (.iload_n 1, 1) := by decide +kernel
theorem d_R_setItem_14 : decode b_R_setItem 14 = .ok (.iload_n 2, 1) := by decide +kernel
theorem d_R_setItem_15 : decode b_R_setItem 15 = .ok (.invokevirtual 121, 3) := by decide +kernel
theorem d_R_setItem_18 : decode b_R_setItem 18 = .ok (.istore 4, 2) := by decide +kernel
theorem d_R_setItem_20 : decode b_R_setItem 20 = .ok (.iload 4, 2) := by decide +kernel
theorem d_R_setItem_22 : decode b_R_setItem 22 = .ok (.iconst (-1), 1) := by decide +kernel
theorem d_R_setItem_23 : decode b_R_setItem 23 = .ok (.if_icmp .ne 9, 3) := by decide +kernel
theorem d_R_setItem_26 : decode b_R_setItem 26 = .ok (.aload_n 0, 1) := by decide +kernel
theorem d_R_setItem_27 : decode b_R_setItem 27 = .ok (.iconst 0, 1) := by decide +kernel
theorem d_R_setItem_28 : decode b_R_setItem 28 = .ok (.invokevirtual 125, 3) := by decide +kernel
theorem d_R_setItem_31 : decode b_R_setItem 31 = .ok (.ireturn, 1) := by decide +kernel
theorem d_R_setItem_32 : decode b_R_setItem 32 = .ok (.aload_n 0, 1) := by decide +kernel
theorem d_R_setItem_33 : decode b_R_setItem 33 = .ok (.getfield 29, 3) := by decide +kernel
theorem d_R_setItem_36 : decode b_R_setItem 36 = .ok (.iload 4, 2) := by decide +kernel
theorem d_R_setItem_38 : decode b_R_setItem 38 = .ok (.iload_n 3, 1) := by decide +kernel
theorem d_R_setItem_39 : decode b_R_setItem 39 = .ok (.iastore, 1) := by decide +kernel
theorem d_R_setItem_40 : decode b_R_setItem 40 = .ok (.iconst 1, 1) := by decide +kernel
theorem d_R_setItem_41 : decode b_R_setItem 41 = .ok (.ireturn, 1) := by decide +kernel
theorem d_R_copy_0 : decode b_R_copy 0 = .ok (.iload_n 1, 1) := by decide +kernel
theorem d_R_copy_1 : decode b_R_copy 1 = .ok (.invokestatic 88, 3) := by decide +kernel
theorem d_R_copy_4 : decode b_R_copy 4 = .ok (.ifCond .eq 10, 3) := by decide +kernel
theorem d_R_copy_7 : decode b_R_copy 7 = .ok (.iload_n 2, 1) := by decide +kernel
theorem d_R_copy_8 : decode b_R_copy 8 = .ok (.invokestatic 88, 3) := by decide +kernel
theorem d_R_copy_11 : decode b_R_copy 11 = .ok (.ifCond .ne 5, 3) := by decide +kernel
theorem d_R_copy_14 : decode b_R_copy 14 = .ok (.iconst 0, 1) := by decide +kernel
theorem d_R_copy_15 : decode b_R_copy 15 = .ok (.ireturn, 1) := by decide +kernel
theorem d_R_copy_16 : decode b_R_copy 16 = .ok (.aload_n 0, 1) := by decide +kernel
theorem d_R_copy_17 : decode b_R_copy 17 = .ok (.getfield 36, 3) := by decide +kernel
theorem d_R_copy_20 : decode b_R_copy 20 = .ok (.iload_n 1, 1) := by decide +kernel
theorem d_R_copy_21 : decode b_R_copy 21 = .ok (.aload_n 0, 1) := by decide +kernel
theorem d_R_copy_22 : decode b_R_copy 22 = .ok (.getfield 36, 3) := by decide +kernel
theorem d_R_copy_25 : decode b_R_copy 25 = .ok (.iload_n 2, 1) := by decide +kernel
theorem d_R_copy_26 : decode b_R_copy 26 = .ok (.iaload, 1) := by decide +kernel
theorem d_R_copy_27 : decode b_R_copy 27 = .ok (.iastore, 1) := by decide +kernel
theorem d_R_copy_28 : decode b_R_copy 28 = .ok (.iconst 1, 1) := by decide +kernel
theorem d_R_copy_29 : decode b_R_copy 29 = .ok (.ireturn, 1) := by decide +kernel
theorem d_R_drop_0 : decode b_R_drop 0 = .ok (.iload_n 1, 1) := by decide +kernel
theorem d_R_drop_1 : decode b_R_drop 1 = .ok (.invokestatic 88, 3) := by decide +kernel
theorem d_R_drop_4 : decode b_R_drop 4 = .ok (.ifCond .eq 12, 3) := by decide +kernel
theorem d_R_drop_7 : decode b_R_drop 7 = .ok (.aload_n 0, 1) := by decide +kernel
theorem d_R_drop_8 : decode b_R_drop 8 = .ok (.getfield 36, 3) := by decide +kernel
theorem d_R_drop_11 : decode b_R_drop 11 = .ok (.iload_n 1, 1) := by decide +kernel
theorem d_R_drop_12 : decode b_R_drop 12 = .ok (.iaload, 1) := by decide +kernel
theorem d_R_drop_13 : decode b_R_drop 13 = .ok (.ifCond .ne 5, 3) := by decide +kernel
theorem d_R_drop_16 : decode b_R_drop 16 = .ok (.iconst 0, 1) := by decide +kernel
theorem d_R_drop_17 : decode b_R_drop 17 = .ok (.ireturn, 1) := by decide +kernel
theorem d_R_drop_18 : decode b_R_drop 18 = .ok (.aload_n 0, 1) := by decide +kernel
theorem d_R_drop_19 : decode b_R_drop 19 = .ok (.getfield 36, 3) := by decide +kernel
theorem d_R_drop_22 : decode b_R_drop 22 = .ok (.iload_n 1, 1) := by decide +kernel
theorem d_R_drop_23 : decode b_R_drop 23 = .ok (.iconst 0, 1) := by decide +kernel
theorem d_R_drop_24 : decode b_R_drop 24 = .ok (.iastore, 1) := by decide +kernel
theorem d_R_drop_25 : decode b_R_drop 25 = .ok (.iconst 1, 1) := by decide +kernel
theorem d_R_drop_26 : decode b_R_drop 26 = .ok (.ireturn, 1) := by decide +kernel
theorem d_R_same_0 : decode b_R_same 0 = .ok (.iload_n 1, 1) := by decide +kernel
theorem d_R_same_1 : decode b_R_same 1 = .ok (.invokestatic 88, 3) := by decide +kernel
theorem d_R_same_4 : decode b_R_same 4 = .ok (.ifCond .eq 29, 3) := by decide +kernel
theorem d_R_same_7 : decode b_R_same 7 = .ok (.iload_n 2, 1) := by decide +kernel
theorem d_R_same_8 : decode b_R_same 8 = .ok (.invokestatic 88, 3) := by decide +kernel
theorem d_R_same_11 : decode b_R_same 11 = .ok (.ifCond .eq 22, 3) := by decide +kernel
theorem d_R_same_14 : decode b_R_same 14 = .ok (.aload_n 0, 1) := by decide +kernel
theorem d_R_same_15 : decode b_R_same 15 = .ok (.getfield 36, 3) := by decide +kernel
theorem d_R_same_18 : decode b_R_same 18 = .ok (.iload_n 1, 1) := by decide +kernel
theorem d_R_same_19 : decode b_R_same 19 = .ok (.iaload, 1) := by decide +kernel
theorem d_R_same_20 : decode b_R_same 20 = .ok (.aload_n 0, 1) := by decide +kernel
theorem d_R_same_21 : decode b_R_same 21 = .ok (.getfield 36, 3) := by decide +kernel
theorem d_R_same_24 : decode b_R_same 24 = .ok (.iload_n 2, 1) := by decide +kernel
theorem d_R_same_25 : decode b_R_same 25 = .ok (.iaload, 1) := by decide +kernel
theorem d_R_same_26 : decode b_R_same 26 = .ok (.if_icmp .ne 7, 3) := by decide +kernel
theorem d_R_same_29 : decode b_R_same 29 = .ok (.iconst 1, 1) := by decide +kernel
theorem d_R_same_30 : decode b_R_same 30 = .ok (.goto 4, 3) := by decide +kernel
theorem d_R_same_33 : decode b_R_same 33 = .ok (.iconst 0, 1) := by decide +kernel
theorem d_R_same_34 : decode b_R_same 34 = .ok (.ireturn, 1) := by decide +kernel
theorem d_R_size_0 : decode b_R_size 0 = .ok (.iload_n 1, 1) := by decide +kernel
theorem d_R_size_1 : decode b_R_size 1 = .ok (.invokestatic 88, 3) := by decide +kernel
theorem d_R_size_4 : decode b_R_size 4 = .ok (.ifCond .eq 12, 3) := by decide +kernel
theorem d_R_size_7 : decode b_R_size 7 = .ok (.aload_n 0, 1) := by decide +kernel
theorem d_R_size_8 : decode b_R_size 8 = .ok (.getfield 36, 3) := by decide +kernel
theorem d_R_size_11 : decode b_R_size 11 = .ok (.iload_n 1, 1) := by decide +kernel
theorem d_R_size_12 : decode b_R_size 12 = .ok (.iaload, 1) := by decide +kernel
theorem d_R_size_13 : decode b_R_size 13 = .ok (.ifCond .ne 5, 3) := by decide +kernel
theorem d_R_size_16 : decode b_R_size 16 = .ok (.iconst (-1), 1) := by decide +kernel
theorem d_R_size_17 : decode b_R_size 17 = .ok (.ireturn, 1) := by decide +kernel
theorem d_R_size_18 : decode b_R_size 18 = .ok (.aload_n 0, 1) := by decide +kernel
theorem d_R_size_19 : decode b_R_size 19 = .ok (.getfield 36, 3) := by decide +kernel
theorem d_R_size_22 : decode b_R_size 22 = .ok (.iload_n 1, 1) := by decide +kernel
theorem d_R_size_23 : decode b_R_size 23 = .ok (.iaload, 1) := by decide +kernel
theorem d_R_size_24 : decode b_R_size 24 = .ok (.iconst 1, 1) := by decide +kernel
theorem d_R_size_25 : decode b_R_size 25 = .ok (.isub, 1) := by decide +kernel
theorem d_R_size_26 : decode b_R_size 26 = .ok (.istore_n 3, 1) := by decide +kernel
theorem d_R_size_27 : decode b_R_size 27 = .ok (.aload_n 0, 1) := by decide +kernel
theorem d_R_size_28 : decode b_R_size 28 = .ok (.getfield 10, 3) := by decide +kernel
theorem d_R_size_31 : decode b_R_size 31 = .ok (.iload_n 3, 1) := by decide +kernel
theorem d_R_size_32 : decode b_R_size 32 = .ok (.baload, 1) := by decide +kernel
theorem d_R_size_33 : decode b_R_size 33 = .ok (.iconst 1, 1) := by decide +kernel
theorem d_R_size_34 : decode b_R_size 34 = .ok (.if_icmp .ne 7, 3) := by decide +kernel
theorem d_R_size_37 : decode b_R_size 37 = .ok (.iconst 1, 1) := by decide +kernel
theorem d_R_size_38 : decode b_R_size 38 = .ok (.goto 4, 3) := by decide +kernel
theorem d_R_size_41 : decode b_R_size 41 = .ok (.iconst 0, 1) := by decide +kernel
theorem d_R_size_42 : decode b_R_size 42 = .ok (.istore 4, 2) := by decide +kernel
theorem d_R_size_44 : decode b_R_size 44 = .ok (.iload_n 2, 1) := by decide +kernel
theorem d_R_size_45 : decode b_R_size 45 = .ok (.tableswitch 85 0 3 #[31, 47, 63, 79], 31) := by decide +kernel
theorem d_R_size_76 : decode b_R_size 76 = .ok (.iload 4, 2) := by decide +kernel
theorem d_R_size_78 : decode b_R_size 78 = .ok (.ifCond .eq 12, 3) := by decide +kernel
theorem d_R_size_81 : decode b_R_size 81 = .ok (.aload_n 0, 1) := by decide +kernel
theorem d_R_size_82 : decode b_R_size 82 = .ok (.getfield 14, 3) := by decide +kernel
theorem d_R_size_85 : decode b_R_size 85 = .ok (.iload_n 3, 1) := by decide +kernel
theorem d_R_size_86 : decode b_R_size 86 = .ok (.baload, 1) := by decide +kernel
theorem d_R_size_87 : decode b_R_size 87 = .ok (.goto 4, 3) := by decide +kernel
theorem d_R_size_90 : decode b_R_size 90 = .ok (.iconst (-1), 1) := by decide +kernel
theorem d_R_size_91 : decode b_R_size 91 = .ok (.ireturn, 1) := by decide +kernel
theorem d_R_size_92 : decode b_R_size 92 = .ok (.iload 4, 2) := by decide +kernel
theorem d_R_size_94 : decode b_R_size 94 = .ok (.ifCond .eq 12, 3) := by decide +kernel
theorem d_R_size_97 : decode b_R_size 97 = .ok (.aload_n 0, 1) := by decide +kernel
theorem d_R_size_98 : decode b_R_size 98 = .ok (.getfield 17, 3) := by decide +kernel
theorem d_R_size_101 : decode b_R_size 101 = .ok (.iload_n 3, 1) := by decide +kernel
theorem d_R_size_102 : decode b_R_size 102 = .ok (.baload, 1) := by decide +kernel
theorem d_R_size_103 : decode b_R_size 103 = .ok (.goto 4, 3) := by decide +kernel
theorem d_R_size_106 : decode b_R_size 106 = .ok (.iconst (-1), 1) := by decide +kernel
theorem d_R_size_107 : decode b_R_size 107 = .ok (.ireturn, 1) := by decide +kernel
theorem d_R_size_108 : decode b_R_size 108 = .ok (.iload 4, 2) := by decide +kernel
theorem d_R_size_110 : decode b_R_size 110 = .ok (.ifCond .eq 7, 3) := by decide +kernel
theorem d_R_size_113 : decode b_R_size 113 = .ok (.iconst (-1), 1) := by decide +kernel
theorem d_R_size_114 : decode b_R_size 114 = .ok (.goto 9, 3) := by decide +kernel
theorem d_R_size_117 : decode b_R_size 117 = .ok (.aload_n 0, 1) := by decide +kernel
theorem d_R_size_118 : decode b_R_size 118 = .ok (.getfield 20, 3) := by decide +kernel
theorem d_R_size_121 : decode b_R_size 121 = .ok (.iload_n 3, 1) := by decide +kernel
theorem d_R_size_122 : decode b_R_size 122 = .ok (.saload, 1) := by decide +kernel
theorem d_R_size_123 : decode b_R_size 123 = .ok (.ireturn, 1) := by decide +kernel
theorem d_R_size_124 : decode b_R_size 124 = .ok (.aload_n 0, 1) := by decide +kernel
theorem d_R_size_125 : decode b_R_size 125 = .ok (.iload_n 3, 1) := by decide +kernel
theorem d_R_size_126 : decode b_R_size 126 = .ok (.invokevirtual 60, 3) := by decide +kernel
theorem d_R_size_129 : decode b_R_size 129 = .ok (.ireturn, 1) := by decide +kernel
theorem d_R_size_130 : decode b_R_size 130 = .ok (.iconst (-1), 1) := by decide +kernel
theorem d_R_size_131 : decode b_R_size 131 = .ok (.ireturn, 1) := by decide +kernel
theorem d_R_told_0 : decode b_R_told 0 = .ok (.iload_n 1, 1) := by decide +kernel
theorem d_R_told_1 : decode b_R_told 1 = .ok (.tableswitch 97 0 4 #[35, 40, 53, 69, 92], 35) := by decide +kernel
theorem d_R_told_36 : decode b_R_told 36 = .ok (.aload_n 0, 1) := by decide +kernel
theorem d_R_told_37 : decode b_R_told 37 = .ok (.getfield 81, 3) := by decide +kernel
theorem d_R_told_40 : decode b_R_told 40 = .ok (.ireturn, 1) := by decide +kernel
theorem d_R_told_41 : decode b_R_told 41 = .ok (.aload_n 0, 1) := by decide +kernel
theorem d_R_told_42 : decode b_R_told 42 = .ok (.invokevirtual 77, 3) := by decide +kernel
theorem d_R_told_45 : decode b_R_told 45 = .ok (.ifCond .eq 7, 3) := by decide +kernel
theorem d_R_told_48 : decode b_R_told 48 = .ok (.iconst 1, 1) := by decide +kernel
theorem d_R_told_49 : decode b_R_told 49 = .ok (.goto 4, 3) := by decide +kernel
theorem d_R_told_52 : decode b_R_told 52 = .ok (.iconst 0, 1) := by decide +kernel
theorem d_R_told_53 : decode b_R_told 53 = .ok (.ireturn, 1) := by decide +kernel
theorem d_R_told_54 : decode b_R_told 54 = .ok (.aload_n 0, 1) := by decide +kernel
theorem d_R_told_55 : decode b_R_told 55 = .ok (.invokevirtual 77, 3) := by decide +kernel
theorem d_R_told_58 : decode b_R_told 58 = .ok (.ifCond .eq 10, 3) := by decide +kernel
theorem d_R_told_61 : decode b_R_told 61 = .ok (.aload_n 0, 1) := by decide +kernel
theorem d_R_told_62 : decode b_R_told 62 = .ok (.getfield 74, 3) := by decide +kernel
theorem d_R_told_65 : decode b_R_told 65 = .ok (.goto 4, 3) := by decide +kernel
theorem d_R_told_68 : decode b_R_told 68 = .ok (.iconst (-1), 1) := by decide +kernel
theorem d_R_told_69 : decode b_R_told 69 = .ok (.ireturn, 1) := by decide +kernel
theorem d_R_told_70 : decode b_R_told 70 = .ok (.aload_n 0, 1) := by decide +kernel
theorem d_R_told_71 : decode b_R_told 71 = .ok (.getfield 70, 3) := by decide +kernel
theorem d_R_told_74 : decode b_R_told 74 = .ok (.ldc2_w 129, 3) := by decide +kernel
theorem d_R_told_77 : decode b_R_told 77 = .ok (.lcmp, 1) := by decide +kernel
theorem d_R_told_78 : decode b_R_told 78 = .ok (.ifCond .ge 10, 3) := by decide +kernel
theorem d_R_told_81 : decode b_R_told 81 = .ok (.aload_n 0, 1) := by decide +kernel
theorem d_R_told_82 : decode b_R_told 82 = .ok (.getfield 70, 3) := by decide +kernel
theorem d_R_told_85 : decode b_R_told 85 = .ok (.goto 6, 3) := by decide +kernel
theorem d_R_told_88 : decode b_R_told 88 = .ok (.ldc2_w 129, 3) := by decide +kernel
theorem d_R_told_91 : decode b_R_told 91 = .ok (.l2i, 1) := by decide +kernel
theorem d_R_told_92 : decode b_R_told 92 = .ok (.ireturn, 1) := by decide +kernel
theorem d_R_told_93 : decode b_R_told 93 = .ok (.aload_n 0, 1) := by decide +kernel
theorem d_R_told_94 : decode b_R_told 94 = .ok (.getfield 50, 3) := by decide +kernel
theorem d_R_told_97 : decode b_R_told 97 = .ok (.ireturn, 1) := by decide +kernel
theorem d_R_told_98 : decode b_R_told 98 = .ok (.iconst (-1), 1) := by decide +kernel
theorem d_R_told_99 : decode b_R_told 99 = .ok (.ireturn, 1) := by decide +kernel
theorem d_R_steady_0 : decode b_R_steady 0 = .ok (.iconst 1, 1) := by decide +kernel
theorem d_R_steady_1 : decode b_R_steady 1 = .ok (.ireturn, 1) := by decide +kernel
end
section
/-! ===== decode rows of StepHeapLaw ===== -/
theorem d_L_cell_0 : decode b_L_cell 0 = .ok (.iload_n 1, 1) := by decide +kernel
theorem d_L_cell_1 : decode b_L_cell 1 = .ok (.aload_n 0, 1) := by decide +kernel
theorem d_L_cell_2 : decode b_L_cell 2 = .ok (.arraylength, 1) := by decide +kernel
theorem d_L_cell_3 : decode b_L_cell 3 = .ok (.if_icmp .ge 9, 3) := by decide +kernel
theorem d_L_cell_6 : decode b_L_cell 6 = .ok (.aload_n 0, 1) := by decide +kernel
theorem d_L_cell_7 : decode b_L_cell 7 = .ok (.iload_n 1, 1) := by decide +kernel
theorem d_L_cell_8 : decode b_L_cell 8 = .ok (.iaload, 1) := by decide +kernel
theorem d_L_cell_9 : decode b_L_cell 9 = .ok (.goto 4, 3) := by decide +kernel
theorem d_L_cell_12 : decode b_L_cell 12 = .ok (.iconst 0, 1) := by decide +kernel
theorem d_L_cell_13 : decode b_L_cell 13 = .ok (.ireturn, 1) := by decide +kernel
theorem d_L_law_0 : decode b_L_law 0 = .ok (.new 7, 3) := by decide +kernel
theorem d_L_law_3 : decode b_L_law 3 = .ok (.dup, 1) := by decide +kernel
theorem d_L_law_4 : decode b_L_law 4 = .ok (.aload_n 0, 1) := by decide +kernel
theorem d_L_law_5 : decode b_L_law 5 = .ok (.iconst 0, 1) := by decide +kernel
theorem d_L_law_6 : decode b_L_law 6 = .ok (.invokestatic 9, 3) := by decide +kernel
theorem d_L_law_9 : decode b_L_law 9 = .ok (.aload_n 0, 1) := by decide +kernel
theorem d_L_law_10 : decode b_L_law 10 = .ok (.iconst 1, 1) := by decide +kernel
theorem d_L_law_11 : decode b_L_law 11 = .ok (.invokestatic 9, 3) := by decide +kernel
theorem d_L_law_14 : decode b_L_law 14 = .ok (.invokespecial 15, 3) := by decide +kernel
theorem d_L_law_17 : decode b_L_law 17 = .ok (.astore_n 1, 1) := by decide +kernel
theorem d_L_law_18 : decode b_L_law 18 = .ok (.new 18, 3) := by decide +kernel
theorem d_L_law_21 : decode b_L_law 21 = .ok (.dup, 1) := by decide +kernel
theorem d_L_law_22 : decode b_L_law 22 = .ok (.aload_n 0, 1) := by decide +kernel
theorem d_L_law_23 : decode b_L_law 23 = .ok (.iconst 0, 1) := by decide +kernel
theorem d_L_law_24 : decode b_L_law 24 = .ok (.invokestatic 9, 3) := by decide +kernel
theorem d_L_law_27 : decode b_L_law 27 = .ok (.aload_n 0, 1) := by decide +kernel
theorem d_L_law_28 : decode b_L_law 28 = .ok (.iconst 1, 1) := by decide +kernel
theorem d_L_law_29 : decode b_L_law 29 = .ok (.invokestatic 9, 3) := by decide +kernel
theorem d_L_law_32 : decode b_L_law 32 = .ok (.invokespecial 20, 3) := by decide +kernel
theorem d_L_law_35 : decode b_L_law 35 = .ok (.astore_n 2, 1) := by decide +kernel
theorem d_L_law_36 : decode b_L_law 36 = .ok (.iconst 2, 1) := by decide +kernel
theorem d_L_law_37 : decode b_L_law 37 = .ok (.istore_n 3, 1) := by decide +kernel
theorem d_L_law_38 : decode b_L_law 38 = .ok (.iload_n 3, 1) := by decide +kernel
theorem d_L_law_39 : decode b_L_law 39 = .ok (.aload_n 0, 1) := by decide +kernel
theorem d_L_law_40 : decode b_L_law 40 = .ok (.arraylength, 1) := by decide +kernel
theorem d_L_law_41 : decode b_L_law 41 = .ok (.iconst 4, 1) := by decide +kernel
theorem d_L_law_42 : decode b_L_law 42 = .ok (.isub, 1) := by decide +kernel
theorem d_L_law_43 : decode b_L_law 43 = .ok (.if_icmp .gt 681, 3) := by decide +kernel
theorem d_L_law_46 : decode b_L_law 46 = .ok (.aload_n 0, 1) := by decide +kernel
theorem d_L_law_47 : decode b_L_law 47 = .ok (.iload_n 3, 1) := by decide +kernel
theorem d_L_law_48 : decode b_L_law 48 = .ok (.iaload, 1) := by decide +kernel
theorem d_L_law_49 : decode b_L_law 49 = .ok (.bipush 15, 2) := by decide +kernel
theorem d_L_law_51 : decode b_L_law 51 = .ok (.iand, 1) := by decide +kernel
theorem d_L_law_52 : decode b_L_law 52 = .ok (.tableswitch 666 0 15 #[80, 123, 182, 225, 268, 302, 345, 388, 431, 465, 508, 541, 564, 597, 630, 653], 80) := by decide +kernel
theorem d_L_law_132 : decode b_L_law 132 = .ok (.aload_n 1, 1) := by decide +kernel
theorem d_L_law_133 : decode b_L_law 133 = .ok (.aload_n 0, 1) := by decide +kernel
theorem d_L_law_134 : decode b_L_law 134 = .ok (.iload_n 3, 1) := by decide +kernel
theorem d_L_law_135 : decode b_L_law 135 = .ok (.iconst 1, 1) := by decide +kernel
theorem d_L_law_136 : decode b_L_law 136 = .ok (.iadd, 1) := by decide +kernel
theorem d_L_law_137 : decode b_L_law 137 = .ok (.iaload, 1) := by decide +kernel
theorem d_L_law_138 : decode b_L_law 138 = .ok (.aload_n 0, 1) := by decide +kernel
theorem d_L_law_139 : decode b_L_law 139 = .ok (.iload_n 3, 1) := by decide +kernel
theorem d_L_law_140 : decode b_L_law 140 = .ok (.iconst 2, 1) := by decide +kernel
theorem d_L_law_141 : decode b_L_law 141 = .ok (.iadd, 1) := by decide +kernel
theorem d_L_law_142 : decode b_L_law 142 = .ok (.iaload, 1) := by decide +kernel
theorem d_L_law_143 : decode b_L_law 143 = .ok (.aload_n 0, 1) := by decide +kernel
theorem d_L_law_144 : decode b_L_law 144 = .ok (.iload_n 3, 1) := by decide +kernel
theorem d_L_law_145 : decode b_L_law 145 = .ok (.iconst 3, 1) := by decide +kernel
theorem d_L_law_146 : decode b_L_law 146 = .ok (.iadd, 1) := by decide +kernel
theorem d_L_law_147 : decode b_L_law 147 = .ok (.iaload, 1) := by decide +kernel
theorem d_L_law_148 : decode b_L_law 148 = .ok (.invokevirtual 21, 3) := by decide +kernel
theorem d_L_law_151 : decode b_L_law 151 = .ok (.aload_n 2, 1) := by decide +kernel
theorem d_L_law_152 : decode b_L_law 152 = .ok (.aload_n 0, 1) := by decide +kernel
theorem d_L_law_153 : decode b_L_law 153 = .ok (.iload_n 3, 1) := by decide +kernel
theorem d_L_law_154 : decode b_L_law 154 = .ok (.iconst 1, 1) := by decide +kernel
theorem d_L_law_155 : decode b_L_law 155 = .ok (.iadd, 1) := by decide +kernel
theorem d_L_law_156 : decode b_L_law 156 = .ok (.iaload, 1) := by decide +kernel
theorem d_L_law_157 : decode b_L_law 157 = .ok (.aload_n 0, 1) := by decide +kernel
theorem d_L_law_158 : decode b_L_law 158 = .ok (.iload_n 3, 1) := by decide +kernel
theorem d_L_law_159 : decode b_L_law 159 = .ok (.iconst 2, 1) := by decide +kernel
theorem d_L_law_160 : decode b_L_law 160 = .ok (.iadd, 1) := by decide +kernel
theorem d_L_law_161 : decode b_L_law 161 = .ok (.iaload, 1) := by decide +kernel
theorem d_L_law_162 : decode b_L_law 162 = .ok (.aload_n 0, 1) := by decide +kernel
theorem d_L_law_163 : decode b_L_law 163 = .ok (.iload_n 3, 1) := by decide +kernel
theorem d_L_law_164 : decode b_L_law 164 = .ok (.iconst 3, 1) := by decide +kernel
theorem d_L_law_165 : decode b_L_law 165 = .ok (.iadd, 1) := by decide +kernel
theorem d_L_law_166 : decode b_L_law 166 = .ok (.iaload, 1) := by decide +kernel
theorem d_L_law_167 : decode b_L_law 167 = .ok (.invokevirtual 25, 3) := by decide +kernel
theorem d_L_law_170 : decode b_L_law 170 = .ok (.if_icmp .eq 548, 3) := by decide +kernel
theorem d_L_law_173 : decode b_L_law 173 = .ok (.iconst 0, 1) := by decide +kernel
theorem d_L_law_174 : decode b_L_law 174 = .ok (.ireturn, 1) := by decide +kernel
theorem d_L_law_175 : decode b_L_law 175 = .ok (.aload_n 1, 1) := by decide +kernel
theorem d_L_law_176 : decode b_L_law 176 = .ok (.aload_n 0, 1) := by decide +kernel
theorem d_L_law_177 : decode b_L_law 177 = .ok (.iload_n 3, 1) := by decide +kernel
theorem d_L_law_178 : decode b_L_law 178 = .ok (.iconst 1, 1) := by decide +kernel
theorem d_L_law_179 : decode b_L_law 179 = .ok (.iadd, 1) := by decide +kernel
theorem d_L_law_180 : decode b_L_law 180 = .ok (.iaload, 1) := by decide +kernel
theorem d_L_law_181 : decode b_L_law 181 = .ok (.aload_n 0, 1) := by decide +kernel
theorem d_L_law_182 : decode b_L_law 182 = .ok (.iload_n 3, 1) := by decide +kernel
theorem d_L_law_183 : decode b_L_law 183 = .ok (.iconst 2, 1) := by decide +kernel
theorem d_L_law_184 : decode b_L_law 184 = .ok (.iadd, 1) := by decide +kernel
theorem d_L_law_185 : decode b_L_law 185 = .ok (.iaload, 1) := by decide +kernel
theorem d_L_law_186 : decode b_L_law 186 = .ok (.aload_n 0, 1) := by decide +kernel
theorem d_L_law_187 : decode b_L_law 187 = .ok (.iload_n 3, 1) := by decide +kernel
theorem d_L_law_188 : decode b_L_law 188 = .ok (.iconst 3, 1) := by decide +kernel
theorem d_L_law_189 : decode b_L_law 189 = .ok (.iadd, 1) := by decide +kernel
theorem d_L_law_190 : decode b_L_law 190 = .ok (.iaload, 1) := by decide +kernel
theorem d_L_law_191 : decode b_L_law 191 = .ok (.ifCond .eq 7, 3) := by decide +kernel
theorem d_L_law_194 : decode b_L_law 194 = .ok (.iconst 1, 1) := by decide +kernel
theorem d_L_law_195 : decode b_L_law 195 = .ok (.goto 4, 3) := by decide +kernel
theorem d_L_law_198 : decode b_L_law 198 = .ok (.iconst 0, 1) := by decide +kernel
theorem d_L_law_199 : decode b_L_law 199 = .ok (.invokevirtual 26, 3) := by decide +kernel
theorem d_L_law_202 : decode b_L_law 202 = .ok (.aload_n 2, 1) := by decide +kernel
theorem d_L_law_203 : decode b_L_law 203 = .ok (.aload_n 0, 1) := by decide +kernel
theorem d_L_law_204 : decode b_L_law 204 = .ok (.iload_n 3, 1) := by decide +kernel
theorem d_L_law_205 : decode b_L_law 205 = .ok (.iconst 1, 1) := by decide +kernel
theorem d_L_law_206 : decode b_L_law 206 = .ok (.iadd, 1) := by decide +kernel
theorem d_L_law_207 : decode b_L_law 207 = .ok (.iaload, 1) := by decide +kernel
theorem d_L_law_208 : decode b_L_law 208 = .ok (.aload_n 0, 1) := by decide +kernel
theorem d_L_law_209 : decode b_L_law 209 = .ok (.iload_n 3, 1) := by decide +kernel
theorem d_L_law_210 : decode b_L_law 210 = .ok (.iconst 2, 1) := by decide +kernel
theorem d_L_law_211 : decode b_L_law 211 = .ok (.iadd, 1) := by decide +kernel
theorem d_L_law_212 : decode b_L_law 212 = .ok (.iaload, 1) := by decide +kernel
theorem d_L_law_213 : decode b_L_law 213 = .ok (.aload_n 0, 1) := by decide +kernel
theorem d_L_law_214 : decode b_L_law 214 = .ok (.iload_n 3, 1) := by decide +kernel
theorem d_L_law_215 : decode b_L_law 215 = .ok (.iconst 3, 1) := by decide +kernel
theorem d_L_law_216 : decode b_L_law 216 = .ok (.iadd, 1) := by decide +kernel
theorem d_L_law_217 : decode b_L_law 217 = .ok (.iaload, 1) := by decide +kernel
theorem d_L_law_218 : decode b_L_law 218 = .ok (.ifCond .eq 7, 3) := by decide +kernel
theorem d_L_law_221 : decode b_L_law 221 = .ok (.iconst 1, 1) := by decide +kernel
theorem d_L_law_222 : decode b_L_law 222 = .ok (.goto 4, 3) := by decide +kernel
theorem d_L_law_225 : decode b_L_law 225 = .ok (.iconst 0, 1) := by decide +kernel
theorem d_L_law_226 : decode b_L_law 226 = .ok (.invokevirtual 30, 3) := by decide +kernel
theorem d_L_law_229 : decode b_L_law 229 = .ok (.if_icmp .eq 489, 3) := by decide +kernel
theorem d_L_law_232 : decode b_L_law 232 = .ok (.iconst 0, 1) := by decide +kernel
theorem d_L_law_233 : decode b_L_law 233 = .ok (.ireturn, 1) := by decide +kernel
theorem d_L_law_234 : decode b_L_law 234 = .ok (.aload_n 1, 1) := by decide +kernel
theorem d_L_law_235 : decode b_L_law 235 = .ok (.aload_n 0, 1) := by decide +kernel
theorem d_L_law_236 : decode b_L_law 236 = .ok (.iload_n 3, 1) := by decide +kernel
theorem d_L_law_237 : decode b_L_law 237 = .ok (.iconst 1, 1) := by decide +kernel
theorem d_L_law_238 : decode b_L_law 238 = .ok (.iadd, 1) := by decide +kernel
theorem d_L_law_239 : decode b_L_law 239 = .ok (.iaload, 1) := by decide +kernel
theorem d_L_law_240 : decode b_L_law 240 = .ok (.aload_n 0, 1) := by decide +kernel
theorem d_L_law_241 : decode b_L_law 241 = .ok (.iload_n 3, 1) := by decide +kernel
theorem d_L_law_242 : decode b_L_law 242 = .ok (.iconst 2, 1) := by decide +kernel
theorem d_L_law_243 : decode b_L_law 243 = .ok (.iadd, 1) := by decide +kernel
theorem d_L_law_244 : decode b_L_law 244 = .ok (.iaload, 1) := by decide +kernel
theorem d_L_law_245 : decode b_L_law 245 = .ok (.aload_n 0, 1) := by decide +kernel
theorem d_L_law_246 : decode b_L_law 246 = .ok (.iload_n 3, 1) := by decide +kernel
theorem d_L_law_247 : decode b_L_law 247 = .ok (.iconst 3, 1) := by decide +kernel
theorem d_L_law_248 : decode b_L_law 248 = .ok (.iadd, 1) := by decide +kernel
theorem d_L_law_249 : decode b_L_law 249 = .ok (.iaload, 1) := by decide +kernel
theorem d_L_law_250 : decode b_L_law 250 = .ok (.invokevirtual 31, 3) := by decide +kernel
theorem d_L_law_253 : decode b_L_law 253 = .ok (.aload_n 2, 1) := by decide +kernel
theorem d_L_law_254 : decode b_L_law 254 = .ok (.aload_n 0, 1) := by decide +kernel
theorem d_L_law_255 : decode b_L_law 255 = .ok (.iload_n 3, 1) := by decide +kernel
theorem d_L_law_256 : decode b_L_law 256 = .ok (.iconst 1, 1) := by decide +kernel
theorem d_L_law_257 : decode b_L_law 257 = .ok (.iadd, 1) := by decide +kernel
theorem d_L_law_258 : decode b_L_law 258 = .ok (.iaload, 1) := by decide +kernel
theorem d_L_law_259 : decode b_L_law 259 = .ok (.aload_n 0, 1) := by decide +kernel
theorem d_L_law_260 : decode b_L_law 260 = .ok (.iload_n 3, 1) := by decide +kernel
theorem d_L_law_261 : decode b_L_law 261 = .ok (.iconst 2, 1) := by decide +kernel
theorem d_L_law_262 : decode b_L_law 262 = .ok (.iadd, 1) := by decide +kernel
theorem d_L_law_263 : decode b_L_law 263 = .ok (.iaload, 1) := by decide +kernel
theorem d_L_law_264 : decode b_L_law 264 = .ok (.aload_n 0, 1) := by decide +kernel
theorem d_L_law_265 : decode b_L_law 265 = .ok (.iload_n 3, 1) := by decide +kernel
theorem d_L_law_266 : decode b_L_law 266 = .ok (.iconst 3, 1) := by decide +kernel
theorem d_L_law_267 : decode b_L_law 267 = .ok (.iadd, 1) := by decide +kernel
theorem d_L_law_268 : decode b_L_law 268 = .ok (.iaload, 1) := by decide +kernel
theorem d_L_law_269 : decode b_L_law 269 = .ok (.invokevirtual 35, 3) := by decide +kernel
theorem d_L_law_272 : decode b_L_law 272 = .ok (.if_icmp .eq 446, 3) := by decide +kernel
theorem d_L_law_275 : decode b_L_law 275 = .ok (.iconst 0, 1) := by decide +kernel
theorem d_L_law_276 : decode b_L_law 276 = .ok (.ireturn, 1) := by decide +kernel
theorem d_L_law_277 : decode b_L_law 277 = .ok (.aload_n 1, 1) := by decide +kernel
theorem d_L_law_278 : decode b_L_law 278 = .ok (.aload_n 0, 1) := by decide +kernel
theorem d_L_law_279 : decode b_L_law 279 = .ok (.iload_n 3, 1) := by decide +kernel
theorem d_L_law_280 : decode b_L_law 280 = .ok (.iconst 1, 1) := by decide +kernel
theorem d_L_law_281 : decode b_L_law 281 = .ok (.iadd, 1) := by decide +kernel
theorem d_L_law_282 : decode b_L_law 282 = .ok (.iaload, 1) := by decide +kernel
theorem d_L_law_283 : decode b_L_law 283 = .ok (.aload_n 0, 1) := by decide +kernel
theorem d_L_law_284 : decode b_L_law 284 = .ok (.iload_n 3, 1) := by decide +kernel
theorem d_L_law_285 : decode b_L_law 285 = .ok (.iconst 2, 1) := by decide +kernel
theorem d_L_law_286 : decode b_L_law 286 = .ok (.iadd, 1) := by decide +kernel
theorem d_L_law_287 : decode b_L_law 287 = .ok (.iaload, 1) := by decide +kernel
theorem d_L_law_288 : decode b_L_law 288 = .ok (.aload_n 0, 1) := by decide +kernel
theorem d_L_law_289 : decode b_L_law 289 = .ok (.iload_n 3, 1) := by decide +kernel
theorem d_L_law_290 : decode b_L_law 290 = .ok (.iconst 3, 1) := by decide +kernel
theorem d_L_law_291 : decode b_L_law 291 = .ok (.iadd, 1) := by decide +kernel
theorem d_L_law_292 : decode b_L_law 292 = .ok (.iaload, 1) := by decide +kernel
theorem d_L_law_293 : decode b_L_law 293 = .ok (.invokevirtual 36, 3) := by decide +kernel
theorem d_L_law_296 : decode b_L_law 296 = .ok (.aload_n 2, 1) := by decide +kernel
theorem d_L_law_297 : decode b_L_law 297 = .ok (.aload_n 0, 1) := by decide +kernel
theorem d_L_law_298 : decode b_L_law 298 = .ok (.iload_n 3, 1) := by decide +kernel
theorem d_L_law_299 : decode b_L_law 299 = .ok (.iconst 1, 1) := by decide +kernel
theorem d_L_law_300 : decode b_L_law 300 = .ok (.iadd, 1) := by decide +kernel
theorem d_L_law_301 : decode b_L_law 301 = .ok (.iaload, 1) := by decide +kernel
theorem d_L_law_302 : decode b_L_law 302 = .ok (.aload_n 0, 1) := by decide +kernel
theorem d_L_law_303 : decode b_L_law 303 = .ok (.iload_n 3, 1) := by decide +kernel
theorem d_L_law_304 : decode b_L_law 304 = .ok (.iconst 2, 1) := by decide +kernel
theorem d_L_law_305 : decode b_L_law 305 = .ok (.iadd, 1) := by decide +kernel
theorem d_L_law_306 : decode b_L_law 306 = .ok (.iaload, 1) := by decide +kernel
theorem d_L_law_307 : decode b_L_law 307 = .ok (.aload_n 0, 1) := by decide +kernel
theorem d_L_law_308 : decode b_L_law 308 = .ok (.iload_n 3, 1) := by decide +kernel
theorem d_L_law_309 : decode b_L_law 309 = .ok (.iconst 3, 1) := by decide +kernel
theorem d_L_law_310 : decode b_L_law 310 = .ok (.iadd, 1) := by decide +kernel
theorem d_L_law_311 : decode b_L_law 311 = .ok (.iaload, 1) := by decide +kernel
theorem d_L_law_312 : decode b_L_law 312 = .ok (.invokevirtual 39, 3) := by decide +kernel
theorem d_L_law_315 : decode b_L_law 315 = .ok (.if_icmp .eq 403, 3) := by decide +kernel
theorem d_L_law_318 : decode b_L_law 318 = .ok (.iconst 0, 1) := by decide +kernel
theorem d_L_law_319 : decode b_L_law 319 = .ok (.ireturn, 1) := by decide +kernel
theorem d_L_law_320 : decode b_L_law 320 = .ok (.aload_n 1, 1) := by decide +kernel
theorem d_L_law_321 : decode b_L_law 321 = .ok (.aload_n 0, 1) := by decide +kernel
theorem d_L_law_322 : decode b_L_law 322 = .ok (.iload_n 3, 1) := by decide +kernel
theorem d_L_law_323 : decode b_L_law 323 = .ok (.iconst 1, 1) := by decide +kernel
theorem d_L_law_324 : decode b_L_law 324 = .ok (.iadd, 1) := by decide +kernel
theorem d_L_law_325 : decode b_L_law 325 = .ok (.iaload, 1) := by decide +kernel
theorem d_L_law_326 : decode b_L_law 326 = .ok (.aload_n 0, 1) := by decide +kernel
theorem d_L_law_327 : decode b_L_law 327 = .ok (.iload_n 3, 1) := by decide +kernel
theorem d_L_law_328 : decode b_L_law 328 = .ok (.iconst 2, 1) := by decide +kernel
theorem d_L_law_329 : decode b_L_law 329 = .ok (.iadd, 1) := by decide +kernel
theorem d_L_law_330 : decode b_L_law 330 = .ok (.iaload, 1) := by decide +kernel
theorem d_L_law_331 : decode b_L_law 331 = .ok (.invokevirtual 40, 3) := by decide +kernel
theorem d_L_law_334 : decode b_L_law 334 = .ok (.aload_n 2, 1) := by decide +kernel
theorem d_L_law_335 : decode b_L_law 335 = .ok (.aload_n 0, 1) := by decide +kernel
theorem d_L_law_336 : decode b_L_law 336 = .ok (.iload_n 3, 1) := by decide +kernel
theorem d_L_law_337 : decode b_L_law 337 = .ok (.iconst 1, 1) := by decide +kernel
theorem d_L_law_338 : decode b_L_law 338 = .ok (.iadd, 1) := by decide +kernel
theorem d_L_law_339 : decode b_L_law 339 = .ok (.iaload, 1) := by decide +kernel
theorem d_L_law_340 : decode b_L_law 340 = .ok (.aload_n 0, 1) := by decide +kernel
theorem d_L_law_341 : decode b_L_law 341 = .ok (.iload_n 3, 1) := by decide +kernel
theorem d_L_law_342 : decode b_L_law 342 = .ok (.iconst 2, 1) := by decide +kernel
theorem d_L_law_343 : decode b_L_law 343 = .ok (.iadd, 1) := by decide +kernel
theorem d_L_law_344 : decode b_L_law 344 = .ok (.iaload, 1) := by decide +kernel
theorem d_L_law_345 : decode b_L_law 345 = .ok (.invokevirtual 44, 3) := by decide +kernel
theorem d_L_law_348 : decode b_L_law 348 = .ok (.lcmp, 1) := by decide +kernel
theorem d_L_law_349 : decode b_L_law 349 = .ok (.ifCond .eq 369, 3) := by decide +kernel
theorem d_L_law_352 : decode b_L_law 352 = .ok (.iconst 0, 1) := by decide +kernel
theorem d_L_law_353 : decode b_L_law 353 = .ok (.ireturn, 1) := by decide +kernel
theorem d_L_law_354 : decode b_L_law 354 = .ok (.aload_n 1, 1) := by decide +kernel
theorem d_L_law_355 : decode b_L_law 355 = .ok (.aload_n 0, 1) := by decide +kernel
theorem d_L_law_356 : decode b_L_law 356 = .ok (.iload_n 3, 1) := by decide +kernel
theorem d_L_law_357 : decode b_L_law 357 = .ok (.iconst 1, 1) := by decide +kernel
theorem d_L_law_358 : decode b_L_law 358 = .ok (.iadd, 1) := by decide +kernel
theorem d_L_law_359 : decode b_L_law 359 = .ok (.iaload, 1) := by decide +kernel
theorem d_L_law_360 : decode b_L_law 360 = .ok (.aload_n 0, 1) := by decide +kernel
theorem d_L_law_361 : decode b_L_law 361 = .ok (.iload_n 3, 1) := by decide +kernel
theorem d_L_law_362 : decode b_L_law 362 = .ok (.iconst 2, 1) := by decide +kernel
theorem d_L_law_363 : decode b_L_law 363 = .ok (.iadd, 1) := by decide +kernel
theorem d_L_law_364 : decode b_L_law 364 = .ok (.iaload, 1) := by decide +kernel
theorem d_L_law_365 : decode b_L_law 365 = .ok (.aload_n 0, 1) := by decide +kernel
theorem d_L_law_366 : decode b_L_law 366 = .ok (.iload_n 3, 1) := by decide +kernel
theorem d_L_law_367 : decode b_L_law 367 = .ok (.iconst 3, 1) := by decide +kernel
theorem d_L_law_368 : decode b_L_law 368 = .ok (.iadd, 1) := by decide +kernel
theorem d_L_law_369 : decode b_L_law 369 = .ok (.iaload, 1) := by decide +kernel
theorem d_L_law_370 : decode b_L_law 370 = .ok (.invokevirtual 45, 3) := by decide +kernel
theorem d_L_law_373 : decode b_L_law 373 = .ok (.aload_n 2, 1) := by decide +kernel
theorem d_L_law_374 : decode b_L_law 374 = .ok (.aload_n 0, 1) := by decide +kernel
theorem d_L_law_375 : decode b_L_law 375 = .ok (.iload_n 3, 1) := by decide +kernel
theorem d_L_law_376 : decode b_L_law 376 = .ok (.iconst 1, 1) := by decide +kernel
theorem d_L_law_377 : decode b_L_law 377 = .ok (.iadd, 1) := by decide +kernel
theorem d_L_law_378 : decode b_L_law 378 = .ok (.iaload, 1) := by decide +kernel
theorem d_L_law_379 : decode b_L_law 379 = .ok (.aload_n 0, 1) := by decide +kernel
theorem d_L_law_380 : decode b_L_law 380 = .ok (.iload_n 3, 1) := by decide +kernel
theorem d_L_law_381 : decode b_L_law 381 = .ok (.iconst 2, 1) := by decide +kernel
theorem d_L_law_382 : decode b_L_law 382 = .ok (.iadd, 1) := by decide +kernel
theorem d_L_law_383 : decode b_L_law 383 = .ok (.iaload, 1) := by decide +kernel
theorem d_L_law_384 : decode b_L_law 384 = .ok (.aload_n 0, 1) := by decide +kernel
theorem d_L_law_385 : decode b_L_law 385 = .ok (.iload_n 3, 1) := by decide +kernel
theorem d_L_law_386 : decode b_L_law 386 = .ok (.iconst 3, 1) := by decide +kernel
theorem d_L_law_387 : decode b_L_law 387 = .ok (.iadd, 1) := by decide +kernel
theorem d_L_law_388 : decode b_L_law 388 = .ok (.iaload, 1) := by decide +kernel
theorem d_L_law_389 : decode b_L_law 389 = .ok (.invokevirtual 48, 3) := by decide +kernel
theorem d_L_law_392 : decode b_L_law 392 = .ok (.if_icmp .eq 326, 3) := by decide +kernel
theorem d_L_law_395 : decode b_L_law 395 = .ok (.iconst 0, 1) := by decide +kernel
theorem d_L_law_396 : decode b_L_law 396 = .ok (.ireturn, 1) := by decide +kernel
theorem d_L_law_397 : decode b_L_law 397 = .ok (.aload_n 1, 1) := by decide +kernel
theorem d_L_law_398 : decode b_L_law 398 = .ok (.aload_n 0, 1) := by decide +kernel
theorem d_L_law_399 : decode b_L_law 399 = .ok (.iload_n 3, 1) := by decide +kernel
theorem d_L_law_400 : decode b_L_law 400 = .ok (.iconst 1, 1) := by decide +kernel
theorem d_L_law_401 : decode b_L_law 401 = .ok (.iadd, 1) := by decide +kernel
theorem d_L_law_402 : decode b_L_law 402 = .ok (.iaload, 1) := by decide +kernel
theorem d_L_law_403 : decode b_L_law 403 = .ok (.aload_n 0, 1) := by decide +kernel
theorem d_L_law_404 : decode b_L_law 404 = .ok (.iload_n 3, 1) := by decide +kernel
theorem d_L_law_405 : decode b_L_law 405 = .ok (.iconst 2, 1) := by decide +kernel
theorem d_L_law_406 : decode b_L_law 406 = .ok (.iadd, 1) := by decide +kernel
theorem d_L_law_407 : decode b_L_law 407 = .ok (.iaload, 1) := by decide +kernel
theorem d_L_law_408 : decode b_L_law 408 = .ok (.aload_n 0, 1) := by decide +kernel
theorem d_L_law_409 : decode b_L_law 409 = .ok (.iload_n 3, 1) := by decide +kernel
theorem d_L_law_410 : decode b_L_law 410 = .ok (.iconst 3, 1) := by decide +kernel
theorem d_L_law_411 : decode b_L_law 411 = .ok (.iadd, 1) := by decide +kernel
theorem d_L_law_412 : decode b_L_law 412 = .ok (.iaload, 1) := by decide +kernel
theorem d_L_law_413 : decode b_L_law 413 = .ok (.invokevirtual 49, 3) := by decide +kernel
theorem d_L_law_416 : decode b_L_law 416 = .ok (.aload_n 2, 1) := by decide +kernel
theorem d_L_law_417 : decode b_L_law 417 = .ok (.aload_n 0, 1) := by decide +kernel
theorem d_L_law_418 : decode b_L_law 418 = .ok (.iload_n 3, 1) := by decide +kernel
theorem d_L_law_419 : decode b_L_law 419 = .ok (.iconst 1, 1) := by decide +kernel
theorem d_L_law_420 : decode b_L_law 420 = .ok (.iadd, 1) := by decide +kernel
theorem d_L_law_421 : decode b_L_law 421 = .ok (.iaload, 1) := by decide +kernel
theorem d_L_law_422 : decode b_L_law 422 = .ok (.aload_n 0, 1) := by decide +kernel
theorem d_L_law_423 : decode b_L_law 423 = .ok (.iload_n 3, 1) := by decide +kernel
theorem d_L_law_424 : decode b_L_law 424 = .ok (.iconst 2, 1) := by decide +kernel
theorem d_L_law_425 : decode b_L_law 425 = .ok (.iadd, 1) := by decide +kernel
theorem d_L_law_426 : decode b_L_law 426 = .ok (.iaload, 1) := by decide +kernel
theorem d_L_law_427 : decode b_L_law 427 = .ok (.aload_n 0, 1) := by decide +kernel
theorem d_L_law_428 : decode b_L_law 428 = .ok (.iload_n 3, 1) := by decide +kernel
theorem d_L_law_429 : decode b_L_law 429 = .ok (.iconst 3, 1) := by decide +kernel
theorem d_L_law_430 : decode b_L_law 430 = .ok (.iadd, 1) := by decide +kernel
theorem d_L_law_431 : decode b_L_law 431 = .ok (.iaload, 1) := by decide +kernel
theorem d_L_law_432 : decode b_L_law 432 = .ok (.invokevirtual 52, 3) := by decide +kernel
theorem d_L_law_435 : decode b_L_law 435 = .ok (.if_icmp .eq 283, 3) := by decide +kernel
theorem d_L_law_438 : decode b_L_law 438 = .ok (.iconst 0, 1) := by decide +kernel
theorem d_L_law_439 : decode b_L_law 439 = .ok (.ireturn, 1) := by decide +kernel
theorem d_L_law_440 : decode b_L_law 440 = .ok (.aload_n 1, 1) := by decide +kernel
theorem d_L_law_441 : decode b_L_law 441 = .ok (.aload_n 0, 1) := by decide +kernel
theorem d_L_law_442 : decode b_L_law 442 = .ok (.iload_n 3, 1) := by decide +kernel
theorem d_L_law_443 : decode b_L_law 443 = .ok (.iconst 1, 1) := by decide +kernel
theorem d_L_law_444 : decode b_L_law 444 = .ok (.iadd, 1) := by decide +kernel
theorem d_L_law_445 : decode b_L_law 445 = .ok (.iaload, 1) := by decide +kernel
theorem d_L_law_446 : decode b_L_law 446 = .ok (.aload_n 0, 1) := by decide +kernel
theorem d_L_law_447 : decode b_L_law 447 = .ok (.iload_n 3, 1) := by decide +kernel
theorem d_L_law_448 : decode b_L_law 448 = .ok (.iconst 2, 1) := by decide +kernel
theorem d_L_law_449 : decode b_L_law 449 = .ok (.iadd, 1) := by decide +kernel
theorem d_L_law_450 : decode b_L_law 450 = .ok (.iaload, 1) := by decide +kernel
theorem d_L_law_451 : decode b_L_law 451 = .ok (.aload_n 0, 1) := by decide +kernel
theorem d_L_law_452 : decode b_L_law 452 = .ok (.iload_n 3, 1) := by decide +kernel
theorem d_L_law_453 : decode b_L_law 453 = .ok (.iconst 3, 1) := by decide +kernel
theorem d_L_law_454 : decode b_L_law 454 = .ok (.iadd, 1) := by decide +kernel
theorem d_L_law_455 : decode b_L_law 455 = .ok (.iaload, 1) := by decide +kernel
theorem d_L_law_456 : decode b_L_law 456 = .ok (.invokevirtual 53, 3) := by decide +kernel
theorem d_L_law_459 : decode b_L_law 459 = .ok (.aload_n 2, 1) := by decide +kernel
theorem d_L_law_460 : decode b_L_law 460 = .ok (.aload_n 0, 1) := by decide +kernel
theorem d_L_law_461 : decode b_L_law 461 = .ok (.iload_n 3, 1) := by decide +kernel
theorem d_L_law_462 : decode b_L_law 462 = .ok (.iconst 1, 1) := by decide +kernel
theorem d_L_law_463 : decode b_L_law 463 = .ok (.iadd, 1) := by decide +kernel
theorem d_L_law_464 : decode b_L_law 464 = .ok (.iaload, 1) := by decide +kernel
theorem d_L_law_465 : decode b_L_law 465 = .ok (.aload_n 0, 1) := by decide +kernel
theorem d_L_law_466 : decode b_L_law 466 = .ok (.iload_n 3, 1) := by decide +kernel
theorem d_L_law_467 : decode b_L_law 467 = .ok (.iconst 2, 1) := by decide +kernel
theorem d_L_law_468 : decode b_L_law 468 = .ok (.iadd, 1) := by decide +kernel
theorem d_L_law_469 : decode b_L_law 469 = .ok (.iaload, 1) := by decide +kernel
theorem d_L_law_470 : decode b_L_law 470 = .ok (.aload_n 0, 1) := by decide +kernel
theorem d_L_law_471 : decode b_L_law 471 = .ok (.iload_n 3, 1) := by decide +kernel
theorem d_L_law_472 : decode b_L_law 472 = .ok (.iconst 3, 1) := by decide +kernel
theorem d_L_law_473 : decode b_L_law 473 = .ok (.iadd, 1) := by decide +kernel
theorem d_L_law_474 : decode b_L_law 474 = .ok (.iaload, 1) := by decide +kernel
theorem d_L_law_475 : decode b_L_law 475 = .ok (.invokevirtual 56, 3) := by decide +kernel
theorem d_L_law_478 : decode b_L_law 478 = .ok (.if_icmp .eq 240, 3) := by decide +kernel
theorem d_L_law_481 : decode b_L_law 481 = .ok (.iconst 0, 1) := by decide +kernel
theorem d_L_law_482 : decode b_L_law 482 = .ok (.ireturn, 1) := by decide +kernel
theorem d_L_law_483 : decode b_L_law 483 = .ok (.aload_n 1, 1) := by decide +kernel
theorem d_L_law_484 : decode b_L_law 484 = .ok (.aload_n 0, 1) := by decide +kernel
theorem d_L_law_485 : decode b_L_law 485 = .ok (.iload_n 3, 1) := by decide +kernel
theorem d_L_law_486 : decode b_L_law 486 = .ok (.iconst 1, 1) := by decide +kernel
theorem d_L_law_487 : decode b_L_law 487 = .ok (.iadd, 1) := by decide +kernel
theorem d_L_law_488 : decode b_L_law 488 = .ok (.iaload, 1) := by decide +kernel
theorem d_L_law_489 : decode b_L_law 489 = .ok (.aload_n 0, 1) := by decide +kernel
theorem d_L_law_490 : decode b_L_law 490 = .ok (.iload_n 3, 1) := by decide +kernel
theorem d_L_law_491 : decode b_L_law 491 = .ok (.iconst 2, 1) := by decide +kernel
theorem d_L_law_492 : decode b_L_law 492 = .ok (.iadd, 1) := by decide +kernel
theorem d_L_law_493 : decode b_L_law 493 = .ok (.iaload, 1) := by decide +kernel
theorem d_L_law_494 : decode b_L_law 494 = .ok (.invokevirtual 57, 3) := by decide +kernel
theorem d_L_law_497 : decode b_L_law 497 = .ok (.aload_n 2, 1) := by decide +kernel
theorem d_L_law_498 : decode b_L_law 498 = .ok (.aload_n 0, 1) := by decide +kernel
theorem d_L_law_499 : decode b_L_law 499 = .ok (.iload_n 3, 1) := by decide +kernel
theorem d_L_law_500 : decode b_L_law 500 = .ok (.iconst 1, 1) := by decide +kernel
theorem d_L_law_501 : decode b_L_law 501 = .ok (.iadd, 1) := by decide +kernel
theorem d_L_law_502 : decode b_L_law 502 = .ok (.iaload, 1) := by decide +kernel
theorem d_L_law_503 : decode b_L_law 503 = .ok (.aload_n 0, 1) := by decide +kernel
theorem d_L_law_504 : decode b_L_law 504 = .ok (.iload_n 3, 1) := by decide +kernel
theorem d_L_law_505 : decode b_L_law 505 = .ok (.iconst 2, 1) := by decide +kernel
theorem d_L_law_506 : decode b_L_law 506 = .ok (.iadd, 1) := by decide +kernel
theorem d_L_law_507 : decode b_L_law 507 = .ok (.iaload, 1) := by decide +kernel
theorem d_L_law_508 : decode b_L_law 508 = .ok (.invokevirtual 60, 3) := by decide +kernel
theorem d_L_law_511 : decode b_L_law 511 = .ok (.lcmp, 1) := by decide +kernel
theorem d_L_law_512 : decode b_L_law 512 = .ok (.ifCond .eq 206, 3) := by decide +kernel
theorem d_L_law_515 : decode b_L_law 515 = .ok (.iconst 0, 1) := by decide +kernel
theorem d_L_law_516 : decode b_L_law 516 = .ok (.ireturn, 1) := by decide +kernel
theorem d_L_law_517 : decode b_L_law 517 = .ok (.aload_n 1, 1) := by decide +kernel
theorem d_L_law_518 : decode b_L_law 518 = .ok (.aload_n 0, 1) := by decide +kernel
theorem d_L_law_519 : decode b_L_law 519 = .ok (.iload_n 3, 1) := by decide +kernel
theorem d_L_law_520 : decode b_L_law 520 = .ok (.iconst 1, 1) := by decide +kernel
theorem d_L_law_521 : decode b_L_law 521 = .ok (.iadd, 1) := by decide +kernel
theorem d_L_law_522 : decode b_L_law 522 = .ok (.iaload, 1) := by decide +kernel
theorem d_L_law_523 : decode b_L_law 523 = .ok (.aload_n 0, 1) := by decide +kernel
theorem d_L_law_524 : decode b_L_law 524 = .ok (.iload_n 3, 1) := by decide +kernel
theorem d_L_law_525 : decode b_L_law 525 = .ok (.iconst 2, 1) := by decide +kernel
theorem d_L_law_526 : decode b_L_law 526 = .ok (.iadd, 1) := by decide +kernel
theorem d_L_law_527 : decode b_L_law 527 = .ok (.iaload, 1) := by decide +kernel
theorem d_L_law_528 : decode b_L_law 528 = .ok (.aload_n 0, 1) := by decide +kernel
theorem d_L_law_529 : decode b_L_law 529 = .ok (.iload_n 3, 1) := by decide +kernel
theorem d_L_law_530 : decode b_L_law 530 = .ok (.iconst 3, 1) := by decide +kernel
theorem d_L_law_531 : decode b_L_law 531 = .ok (.iadd, 1) := by decide +kernel
theorem d_L_law_532 : decode b_L_law 532 = .ok (.iaload, 1) := by decide +kernel
theorem d_L_law_533 : decode b_L_law 533 = .ok (.invokevirtual 61, 3) := by decide +kernel
theorem d_L_law_536 : decode b_L_law 536 = .ok (.aload_n 2, 1) := by decide +kernel
theorem d_L_law_537 : decode b_L_law 537 = .ok (.aload_n 0, 1) := by decide +kernel
theorem d_L_law_538 : decode b_L_law 538 = .ok (.iload_n 3, 1) := by decide +kernel
theorem d_L_law_539 : decode b_L_law 539 = .ok (.iconst 1, 1) := by decide +kernel
theorem d_L_law_540 : decode b_L_law 540 = .ok (.iadd, 1) := by decide +kernel
theorem d_L_law_541 : decode b_L_law 541 = .ok (.iaload, 1) := by decide +kernel
theorem d_L_law_542 : decode b_L_law 542 = .ok (.aload_n 0, 1) := by decide +kernel
theorem d_L_law_543 : decode b_L_law 543 = .ok (.iload_n 3, 1) := by decide +kernel
theorem d_L_law_544 : decode b_L_law 544 = .ok (.iconst 2, 1) := by decide +kernel
theorem d_L_law_545 : decode b_L_law 545 = .ok (.iadd, 1) := by decide +kernel
theorem d_L_law_546 : decode b_L_law 546 = .ok (.iaload, 1) := by decide +kernel
theorem d_L_law_547 : decode b_L_law 547 = .ok (.aload_n 0, 1) := by decide +kernel
theorem d_L_law_548 : decode b_L_law 548 = .ok (.iload_n 3, 1) := by decide +kernel
theorem d_L_law_549 : decode b_L_law 549 = .ok (.iconst 3, 1) := by decide +kernel
theorem d_L_law_550 : decode b_L_law 550 = .ok (.iadd, 1) := by decide +kernel
theorem d_L_law_551 : decode b_L_law 551 = .ok (.iaload, 1) := by decide +kernel
theorem d_L_law_552 : decode b_L_law 552 = .ok (.invokevirtual 64, 3) := by decide +kernel
theorem d_L_law_555 : decode b_L_law 555 = .ok (.if_icmp .eq 163, 3) := by decide +kernel
theorem d_L_law_558 : decode b_L_law 558 = .ok (.iconst 0, 1) := by decide +kernel
theorem d_L_law_559 : decode b_L_law 559 = .ok (.ireturn, 1) := by decide +kernel
theorem d_L_law_560 : decode b_L_law 560 = .ok (.aload_n 1, 1) := by decide +kernel
theorem d_L_law_561 : decode b_L_law 561 = .ok (.aload_n 0, 1) := by decide +kernel
theorem d_L_law_562 : decode b_L_law 562 = .ok (.iload_n 3, 1) := by decide +kernel
theorem d_L_law_563 : decode b_L_law 563 = .ok (.iconst 1, 1) := by decide +kernel
theorem d_L_law_564 : decode b_L_law 564 = .ok (.iadd, 1) := by decide +kernel
theorem d_L_law_565 : decode b_L_law 565 = .ok (.iaload, 1) := by decide +kernel
theorem d_L_law_566 : decode b_L_law 566 = .ok (.aload_n 0, 1) := by decide +kernel
theorem d_L_law_567 : decode b_L_law 567 = .ok (.iload_n 3, 1) := by decide +kernel
theorem d_L_law_568 : decode b_L_law 568 = .ok (.iconst 2, 1) := by decide +kernel
theorem d_L_law_569 : decode b_L_law 569 = .ok (.iadd, 1) := by decide +kernel
theorem d_L_law_570 : decode b_L_law 570 = .ok (.iaload, 1) := by decide +kernel
theorem d_L_law_571 : decode b_L_law 571 = .ok (.invokevirtual 65, 3) := by decide +kernel
theorem d_L_law_574 : decode b_L_law 574 = .ok (.aload_n 2, 1) := by decide +kernel
theorem d_L_law_575 : decode b_L_law 575 = .ok (.aload_n 0, 1) := by decide +kernel
theorem d_L_law_576 : decode b_L_law 576 = .ok (.iload_n 3, 1) := by decide +kernel
theorem d_L_law_577 : decode b_L_law 577 = .ok (.iconst 1, 1) := by decide +kernel
theorem d_L_law_578 : decode b_L_law 578 = .ok (.iadd, 1) := by decide +kernel
theorem d_L_law_579 : decode b_L_law 579 = .ok (.iaload, 1) := by decide +kernel
theorem d_L_law_580 : decode b_L_law 580 = .ok (.aload_n 0, 1) := by decide +kernel
theorem d_L_law_581 : decode b_L_law 581 = .ok (.iload_n 3, 1) := by decide +kernel
theorem d_L_law_582 : decode b_L_law 582 = .ok (.iconst 2, 1) := by decide +kernel
theorem d_L_law_583 : decode b_L_law 583 = .ok (.iadd, 1) := by decide +kernel
theorem d_L_law_584 : decode b_L_law 584 = .ok (.iaload, 1) := by decide +kernel
theorem d_L_law_585 : decode b_L_law 585 = .ok (.invokevirtual 69, 3) := by decide +kernel
theorem d_L_law_588 : decode b_L_law 588 = .ok (.if_icmp .eq 130, 3) := by decide +kernel
theorem d_L_law_591 : decode b_L_law 591 = .ok (.iconst 0, 1) := by decide +kernel
theorem d_L_law_592 : decode b_L_law 592 = .ok (.ireturn, 1) := by decide +kernel
theorem d_L_law_593 : decode b_L_law 593 = .ok (.aload_n 1, 1) := by decide +kernel
theorem d_L_law_594 : decode b_L_law 594 = .ok (.aload_n 0, 1) := by decide +kernel
theorem d_L_law_595 : decode b_L_law 595 = .ok (.iload_n 3, 1) := by decide +kernel
theorem d_L_law_596 : decode b_L_law 596 = .ok (.iconst 1, 1) := by decide +kernel
theorem d_L_law_597 : decode b_L_law 597 = .ok (.iadd, 1) := by decide +kernel
theorem d_L_law_598 : decode b_L_law 598 = .ok (.iaload, 1) := by decide +kernel
theorem d_L_law_599 : decode b_L_law 599 = .ok (.invokevirtual 70, 3) := by decide +kernel
theorem d_L_law_602 : decode b_L_law 602 = .ok (.aload_n 2, 1) := by decide +kernel
theorem d_L_law_603 : decode b_L_law 603 = .ok (.aload_n 0, 1) := by decide +kernel
theorem d_L_law_604 : decode b_L_law 604 = .ok (.iload_n 3, 1) := by decide +kernel
theorem d_L_law_605 : decode b_L_law 605 = .ok (.iconst 1, 1) := by decide +kernel
theorem d_L_law_606 : decode b_L_law 606 = .ok (.iadd, 1) := by decide +kernel
theorem d_L_law_607 : decode b_L_law 607 = .ok (.iaload, 1) := by decide +kernel
theorem d_L_law_608 : decode b_L_law 608 = .ok (.invokevirtual 74, 3) := by decide +kernel
theorem d_L_law_611 : decode b_L_law 611 = .ok (.if_icmp .eq 107, 3) := by decide +kernel
theorem d_L_law_614 : decode b_L_law 614 = .ok (.iconst 0, 1) := by decide +kernel
theorem d_L_law_615 : decode b_L_law 615 = .ok (.ireturn, 1) := by decide +kernel
theorem d_L_law_616 : decode b_L_law 616 = .ok (.aload_n 1, 1) := by decide +kernel
theorem d_L_law_617 : decode b_L_law 617 = .ok (.aload_n 0, 1) := by decide +kernel
theorem d_L_law_618 : decode b_L_law 618 = .ok (.iload_n 3, 1) := by decide +kernel
theorem d_L_law_619 : decode b_L_law 619 = .ok (.iconst 1, 1) := by decide +kernel
theorem d_L_law_620 : decode b_L_law 620 = .ok (.iadd, 1) := by decide +kernel
theorem d_L_law_621 : decode b_L_law 621 = .ok (.iaload, 1) := by decide +kernel
theorem d_L_law_622 : decode b_L_law 622 = .ok (.aload_n 0, 1) := by decide +kernel
theorem d_L_law_623 : decode b_L_law 623 = .ok (.iload_n 3, 1) := by decide +kernel
theorem d_L_law_624 : decode b_L_law 624 = .ok (.iconst 2, 1) := by decide +kernel
theorem d_L_law_625 : decode b_L_law 625 = .ok (.iadd, 1) := by decide +kernel
theorem d_L_law_626 : decode b_L_law 626 = .ok (.iaload, 1) := by decide +kernel
theorem d_L_law_627 : decode b_L_law 627 = .ok (.invokevirtual 75, 3) := by decide +kernel
theorem d_L_law_630 : decode b_L_law 630 = .ok (.aload_n 2, 1) := by decide +kernel
theorem d_L_law_631 : decode b_L_law 631 = .ok (.aload_n 0, 1) := by decide +kernel
theorem d_L_law_632 : decode b_L_law 632 = .ok (.iload_n 3, 1) := by decide +kernel
theorem d_L_law_633 : decode b_L_law 633 = .ok (.iconst 1, 1) := by decide +kernel
theorem d_L_law_634 : decode b_L_law 634 = .ok (.iadd, 1) := by decide +kernel
theorem d_L_law_635 : decode b_L_law 635 = .ok (.iaload, 1) := by decide +kernel
theorem d_L_law_636 : decode b_L_law 636 = .ok (.aload_n 0, 1) := by decide +kernel
theorem d_L_law_637 : decode b_L_law 637 = .ok (.iload_n 3, 1) := by decide +kernel
theorem d_L_law_638 : decode b_L_law 638 = .ok (.iconst 2, 1) := by decide +kernel
theorem d_L_law_639 : decode b_L_law 639 = .ok (.iadd, 1) := by decide +kernel
theorem d_L_law_640 : decode b_L_law 640 = .ok (.iaload, 1) := by decide +kernel
theorem d_L_law_641 : decode b_L_law 641 = .ok (.invokevirtual 78, 3) := by decide +kernel
theorem d_L_law_644 : decode b_L_law 644 = .ok (.if_icmp .eq 74, 3) := by decide +kernel
theorem d_L_law_647 : decode b_L_law 647 = .ok (.iconst 0, 1) := by decide +kernel
theorem d_L_law_648 : decode b_L_law 648 = .ok (.ireturn, 1) := by decide +kernel
theorem d_L_law_649 : decode b_L_law 649 = .ok (.aload_n 1, 1) := by decide +kernel
theorem d_L_law_650 : decode b_L_law 650 = .ok (.aload_n 0, 1) := by decide +kernel
theorem d_L_law_651 : decode b_L_law 651 = .ok (.iload_n 3, 1) := by decide +kernel
theorem d_L_law_652 : decode b_L_law 652 = .ok (.iconst 1, 1) := by decide +kernel
theorem d_L_law_653 : decode b_L_law 653 = .ok (.iadd, 1) := by decide +kernel
theorem d_L_law_654 : decode b_L_law 654 = .ok (.iaload, 1) := by decide +kernel
theorem d_L_law_655 : decode b_L_law 655 = .ok (.aload_n 0, 1) := by decide +kernel
theorem d_L_law_656 : decode b_L_law 656 = .ok (.iload_n 3, 1) := by decide +kernel
theorem d_L_law_657 : decode b_L_law 657 = .ok (.iconst 2, 1) := by decide +kernel
theorem d_L_law_658 : decode b_L_law 658 = .ok (.iadd, 1) := by decide +kernel
theorem d_L_law_659 : decode b_L_law 659 = .ok (.iaload, 1) := by decide +kernel
theorem d_L_law_660 : decode b_L_law 660 = .ok (.invokevirtual 79, 3) := by decide +kernel
theorem d_L_law_663 : decode b_L_law 663 = .ok (.aload_n 2, 1) := by decide +kernel
theorem d_L_law_664 : decode b_L_law 664 = .ok (.aload_n 0, 1) := by decide +kernel
theorem d_L_law_665 : decode b_L_law 665 = .ok (.iload_n 3, 1) := by decide +kernel
theorem d_L_law_666 : decode b_L_law 666 = .ok (.iconst 1, 1) := by decide +kernel
theorem d_L_law_667 : decode b_L_law 667 = .ok (.iadd, 1) := by decide +kernel
theorem d_L_law_668 : decode b_L_law 668 = .ok (.iaload, 1) := by decide +kernel
theorem d_L_law_669 : decode b_L_law 669 = .ok (.aload_n 0, 1) := by decide +kernel
theorem d_L_law_670 : decode b_L_law 670 = .ok (.iload_n 3, 1) := by decide +kernel
theorem d_L_law_671 : decode b_L_law 671 = .ok (.iconst 2, 1) := by decide +kernel
theorem d_L_law_672 : decode b_L_law 672 = .ok (.iadd, 1) := by decide +kernel
theorem d_L_law_673 : decode b_L_law 673 = .ok (.iaload, 1) := by decide +kernel
theorem d_L_law_674 : decode b_L_law 674 = .ok (.invokevirtual 83, 3) := by decide +kernel
theorem d_L_law_677 : decode b_L_law 677 = .ok (.if_icmp .eq 41, 3) := by decide +kernel
theorem d_L_law_680 : decode b_L_law 680 = .ok (.iconst 0, 1) := by decide +kernel
theorem d_L_law_681 : decode b_L_law 681 = .ok (.ireturn, 1) := by decide +kernel
theorem d_L_law_682 : decode b_L_law 682 = .ok (.aload_n 1, 1) := by decide +kernel
theorem d_L_law_683 : decode b_L_law 683 = .ok (.aload_n 0, 1) := by decide +kernel
theorem d_L_law_684 : decode b_L_law 684 = .ok (.iload_n 3, 1) := by decide +kernel
theorem d_L_law_685 : decode b_L_law 685 = .ok (.iconst 1, 1) := by decide +kernel
theorem d_L_law_686 : decode b_L_law 686 = .ok (.iadd, 1) := by decide +kernel
theorem d_L_law_687 : decode b_L_law 687 = .ok (.iaload, 1) := by decide +kernel
theorem d_L_law_688 : decode b_L_law 688 = .ok (.invokevirtual 84, 3) := by decide +kernel
theorem d_L_law_691 : decode b_L_law 691 = .ok (.aload_n 2, 1) := by decide +kernel
theorem d_L_law_692 : decode b_L_law 692 = .ok (.aload_n 0, 1) := by decide +kernel
theorem d_L_law_693 : decode b_L_law 693 = .ok (.iload_n 3, 1) := by decide +kernel
theorem d_L_law_694 : decode b_L_law 694 = .ok (.iconst 1, 1) := by decide +kernel
theorem d_L_law_695 : decode b_L_law 695 = .ok (.iadd, 1) := by decide +kernel
theorem d_L_law_696 : decode b_L_law 696 = .ok (.iaload, 1) := by decide +kernel
theorem d_L_law_697 : decode b_L_law 697 = .ok (.invokevirtual 88, 3) := by decide +kernel
theorem d_L_law_700 : decode b_L_law 700 = .ok (.if_icmp .eq 18, 3) := by decide +kernel
theorem d_L_law_703 : decode b_L_law 703 = .ok (.iconst 0, 1) := by decide +kernel
theorem d_L_law_704 : decode b_L_law 704 = .ok (.ireturn, 1) := by decide +kernel
theorem d_L_law_705 : decode b_L_law 705 = .ok (.aload_n 1, 1) := by decide +kernel
theorem d_L_law_706 : decode b_L_law 706 = .ok (.invokevirtual 89, 3) := by decide +kernel
theorem d_L_law_709 : decode b_L_law 709 = .ok (.aload_n 2, 1) := by decide +kernel
theorem d_L_law_710 : decode b_L_law 710 = .ok (.invokevirtual 93, 3) := by decide +kernel
theorem d_L_law_713 : decode b_L_law 713 = .ok (.if_icmp .eq 5, 3) := by decide +kernel
theorem d_L_law_716 : decode b_L_law 716 = .ok (.iconst 0, 1) := by decide +kernel
theorem d_L_law_717 : decode b_L_law 717 = .ok (.ireturn, 1) := by decide +kernel
theorem d_L_law_718 : decode b_L_law 718 = .ok (.iinc 3 4, 3) := by decide +kernel
theorem d_L_law_721 : decode b_L_law 721 = .ok (.goto (-683), 3) := by decide +kernel
theorem d_L_law_724 : decode b_L_law 724 = .ok (.iconst 1, 1) := by decide +kernel
theorem d_L_law_725 : decode b_L_law 725 = .ok (.ireturn, 1) := by decide +kernel
end
section
/-! ===== what the calls ask of a name ===== -/
theorem hd_X_init : (y_X_init).cls = "StepHeap" ∧ (y_X_init).cls ≠ "java/lang/invoke/MethodHandle" ∧ (y_X_init).cls ≠ "java/lang/invoke/VarHandle" ∧ (parseMethodDescriptor (y_X_init).desc).map (fun d => d.parameters.length) = some 2 := by decide +kernel
theorem hd_X_make : (y_X_make).cls = "StepHeap" ∧ (y_X_make).cls ≠ "java/lang/invoke/MethodHandle" ∧ (y_X_make).cls ≠ "java/lang/invoke/VarHandle" ∧ (parseMethodDescriptor (y_X_make).desc).map (fun d => d.parameters.length) = some 3 := by decide +kernel
theorem hd_X_array : (y_X_array).cls = "StepHeap" ∧ (y_X_array).cls ≠ "java/lang/invoke/MethodHandle" ∧ (y_X_array).cls ≠ "java/lang/invoke/VarHandle" ∧ (parseMethodDescriptor (y_X_array).desc).map (fun d => d.parameters.length) = some 3 := by decide +kernel
theorem hd_X_get : (y_X_get).cls = "StepHeap" ∧ (y_X_get).cls ≠ "java/lang/invoke/MethodHandle" ∧ (y_X_get).cls ≠ "java/lang/invoke/VarHandle" ∧ (parseMethodDescriptor (y_X_get).desc).map (fun d => d.parameters.length) = some 3 := by decide +kernel
theorem hd_X_put : (y_X_put).cls = "StepHeap" ∧ (y_X_put).cls ≠ "java/lang/invoke/MethodHandle" ∧ (y_X_put).cls ≠ "java/lang/invoke/VarHandle" ∧ (parseMethodDescriptor (y_X_put).desc).map (fun d => d.parameters.length) = some 3 := by decide +kernel
theorem hd_X_look : (y_X_look).cls = "StepHeap" ∧ (y_X_look).cls ≠ "java/lang/invoke/MethodHandle" ∧ (y_X_look).cls ≠ "java/lang/invoke/VarHandle" ∧ (parseMethodDescriptor (y_X_look).desc).map (fun d => d.parameters.length) = some 2 := by decide +kernel
theorem hd_X_set : (y_X_set).cls = "StepHeap" ∧ (y_X_set).cls ≠ "java/lang/invoke/MethodHandle" ∧ (y_X_set).cls ≠ "java/lang/invoke/VarHandle" ∧ (parseMethodDescriptor (y_X_set).desc).map (fun d => d.parameters.length) = some 3 := by decide +kernel
theorem hd_X_getItem : (y_X_getItem).cls = "StepHeap" ∧ (y_X_getItem).cls ≠ "java/lang/invoke/MethodHandle" ∧ (y_X_getItem).cls ≠ "java/lang/invoke/VarHandle" ∧ (parseMethodDescriptor (y_X_getItem).desc).map (fun d => d.parameters.length) = some 3 := by decide +kernel
theorem hd_X_putItem : (y_X_putItem).cls = "StepHeap" ∧ (y_X_putItem).cls ≠ "java/lang/invoke/MethodHandle" ∧ (y_X_putItem).cls ≠ "java/lang/invoke/VarHandle" ∧ (parseMethodDescriptor (y_X_putItem).desc).map (fun d => d.parameters.length) = some 3 := by decide +kernel
theorem hd_X_lookItem : (y_X_lookItem).cls = "StepHeap" ∧ (y_X_lookItem).cls ≠ "java/lang/invoke/MethodHandle" ∧ (y_X_lookItem).cls ≠ "java/lang/invoke/VarHandle" ∧ (parseMethodDescriptor (y_X_lookItem).desc).map (fun d => d.parameters.length) = some 2 := by decide +kernel
theorem hd_X_setItem : (y_X_setItem).cls = "StepHeap" ∧ (y_X_setItem).cls ≠ "java/lang/invoke/MethodHandle" ∧ (y_X_setItem).cls ≠ "java/lang/invoke/VarHandle" ∧ (parseMethodDescriptor (y_X_setItem).desc).map (fun d => d.parameters.length) = some 3 := by decide +kernel
theorem hd_X_copy : (y_X_copy).cls = "StepHeap" ∧ (y_X_copy).cls ≠ "java/lang/invoke/MethodHandle" ∧ (y_X_copy).cls ≠ "java/lang/invoke/VarHandle" ∧ (parseMethodDescriptor (y_X_copy).desc).map (fun d => d.parameters.length) = some 2 := by decide +kernel
theorem hd_X_drop : (y_X_drop).cls = "StepHeap" ∧ (y_X_drop).cls ≠ "java/lang/invoke/MethodHandle" ∧ (y_X_drop).cls ≠ "java/lang/invoke/VarHandle" ∧ (parseMethodDescriptor (y_X_drop).desc).map (fun d => d.parameters.length) = some 1 := by decide +kernel
theorem hd_X_same : (y_X_same).cls = "StepHeap" ∧ (y_X_same).cls ≠ "java/lang/invoke/MethodHandle" ∧ (y_X_same).cls ≠ "java/lang/invoke/VarHandle" ∧ (parseMethodDescriptor (y_X_same).desc).map (fun d => d.parameters.length) = some 2 := by decide +kernel
theorem hd_X_size : (y_X_size).cls = "StepHeap" ∧ (y_X_size).cls ≠ "java/lang/invoke/MethodHandle" ∧ (y_X_size).cls ≠ "java/lang/invoke/VarHandle" ∧ (parseMethodDescriptor (y_X_size).desc).map (fun d => d.parameters.length) = some 2 := by decide +kernel
theorem hd_X_told : (y_X_told).cls = "StepHeap" ∧ (y_X_told).cls ≠ "java/lang/invoke/MethodHandle" ∧ (y_X_told).cls ≠ "java/lang/invoke/VarHandle" ∧ (parseMethodDescriptor (y_X_told).desc).map (fun d => d.parameters.length) = some 1 := by decide +kernel
theorem hd_X_steady : (y_X_steady).cls = "StepHeap" ∧ (y_X_steady).cls ≠ "java/lang/invoke/MethodHandle" ∧ (y_X_steady).cls ≠ "java/lang/invoke/VarHandle" ∧ (parseMethodDescriptor (y_X_steady).desc).map (fun d => d.parameters.length) = some 0 := by decide +kernel
theorem hdf_X_isRegister : (y_X_isRegister).cls ≠ "java/lang/invoke/MethodHandle" ∧ (y_X_isRegister).cls ≠ "java/lang/invoke/VarHandle" ∧ (parseMethodDescriptor (y_X_isRegister).desc).map (fun d => d.parameters.length) = some 1 := by decide +kernel
theorem hdf_X_isBelow : (y_X_isBelow).cls ≠ "java/lang/invoke/MethodHandle" ∧ (y_X_isBelow).cls ≠ "java/lang/invoke/VarHandle" ∧ (parseMethodDescriptor (y_X_isBelow).desc).map (fun d => d.parameters.length) = some 2 := by decide +kernel
theorem hdf_X_isShape : (y_X_isShape).cls ≠ "java/lang/invoke/MethodHandle" ∧ (y_X_isShape).cls ≠ "java/lang/invoke/VarHandle" ∧ (parseMethodDescriptor (y_X_isShape).desc).map (fun d => d.parameters.length) = some 2 := by decide +kernel
theorem hd_X_fillRegister : (y_X_fillRegister).cls = "StepHeap" ∧ (y_X_fillRegister).cls ≠ "java/lang/invoke/MethodHandle" ∧ (y_X_fillRegister).cls ≠ "java/lang/invoke/VarHandle" ∧ (parseMethodDescriptor (y_X_fillRegister).desc).map (fun d => d.parameters.length) = some 2 := by decide +kernel
theorem hd_X_headOf : (y_X_headOf).cls = "StepHeap" ∧ (y_X_headOf).cls ≠ "java/lang/invoke/MethodHandle" ∧ (y_X_headOf).cls ≠ "java/lang/invoke/VarHandle" ∧ (parseMethodDescriptor (y_X_headOf).desc).map (fun d => d.parameters.length) = some 1 := by decide +kernel
theorem hd_X_referenceCell : (y_X_referenceCell).cls = "StepHeap" ∧ (y_X_referenceCell).cls ≠ "java/lang/invoke/MethodHandle" ∧ (y_X_referenceCell).cls ≠ "java/lang/invoke/VarHandle" ∧ (parseMethodDescriptor (y_X_referenceCell).desc).map (fun d => d.parameters.length) = some 2 := by decide +kernel
theorem hd_X_intCell : (y_X_intCell).cls = "StepHeap" ∧ (y_X_intCell).cls ≠ "java/lang/invoke/MethodHandle" ∧ (y_X_intCell).cls ≠ "java/lang/invoke/VarHandle" ∧ (parseMethodDescriptor (y_X_intCell).desc).map (fun d => d.parameters.length) = some 3 := by decide +kernel
theorem hd_X_openWay : (y_X_openWay).cls = "StepHeap" ∧ (y_X_openWay).cls ≠ "java/lang/invoke/MethodHandle" ∧ (y_X_openWay).cls ≠ "java/lang/invoke/VarHandle" ∧ (parseMethodDescriptor (y_X_openWay).desc).map (fun d => d.parameters.length) = some 3 := by decide +kernel
theorem hd_X_levelOfGap : (y_X_levelOfGap).cls = "StepHeap" ∧ (y_X_levelOfGap).cls ≠ "java/lang/invoke/MethodHandle" ∧ (y_X_levelOfGap).cls ≠ "java/lang/invoke/VarHandle" ∧ (parseMethodDescriptor (y_X_levelOfGap).desc).map (fun d => d.parameters.length) = some 3 := by decide +kernel
theorem hd_X_cellOnWay : (y_X_cellOnWay).cls = "StepHeap" ∧ (y_X_cellOnWay).cls ≠ "java/lang/invoke/MethodHandle" ∧ (y_X_cellOnWay).cls ≠ "java/lang/invoke/VarHandle" ∧ (parseMethodDescriptor (y_X_cellOnWay).desc).map (fun d => d.parameters.length) = some 4 := by decide +kernel
theorem hdf_X_slot : (y_X_slot).cls ≠ "java/lang/invoke/MethodHandle" ∧ (y_X_slot).cls ≠ "java/lang/invoke/VarHandle" ∧ (parseMethodDescriptor (y_X_slot).desc).map (fun d => d.parameters.length) = some 2 := by decide +kernel
theorem hd_R_init : (y_R_init).cls = "StepHeapModel" ∧ (y_R_init).cls ≠ "java/lang/invoke/MethodHandle" ∧ (y_R_init).cls ≠ "java/lang/invoke/VarHandle" ∧ (parseMethodDescriptor (y_R_init).desc).map (fun d => d.parameters.length) = some 2 := by decide +kernel
theorem hdf_R_isRegister : (y_R_isRegister).cls ≠ "java/lang/invoke/MethodHandle" ∧ (y_R_isRegister).cls ≠ "java/lang/invoke/VarHandle" ∧ (parseMethodDescriptor (y_R_isRegister).desc).map (fun d => d.parameters.length) = some 1 := by decide +kernel
theorem hd_R_cells : (y_R_cells).cls = "StepHeapModel" ∧ (y_R_cells).cls ≠ "java/lang/invoke/MethodHandle" ∧ (y_R_cells).cls ≠ "java/lang/invoke/VarHandle" ∧ (parseMethodDescriptor (y_R_cells).desc).map (fun d => d.parameters.length) = some 1 := by decide +kernel
theorem hd_R_reach : (y_R_reach).cls = "StepHeapModel" ∧ (y_R_reach).cls ≠ "java/lang/invoke/MethodHandle" ∧ (y_R_reach).cls ≠ "java/lang/invoke/VarHandle" ∧ (parseMethodDescriptor (y_R_reach).desc).map (fun d => d.parameters.length) = some 1 := by decide +kernel
theorem hd_R_goOver : (y_R_goOver).cls = "StepHeapModel" ∧ (y_R_goOver).cls ≠ "java/lang/invoke/MethodHandle" ∧ (y_R_goOver).cls ≠ "java/lang/invoke/VarHandle" ∧ (parseMethodDescriptor (y_R_goOver).desc).map (fun d => d.parameters.length) = some 0 := by decide +kernel
theorem hd_R_isDone : (y_R_isDone).cls = "StepHeapModel" ∧ (y_R_isDone).cls ≠ "java/lang/invoke/MethodHandle" ∧ (y_R_isDone).cls ≠ "java/lang/invoke/VarHandle" ∧ (parseMethodDescriptor (y_R_isDone).desc).map (fun d => d.parameters.length) = some 0 := by decide +kernel
theorem hd_R_hasRoom : (y_R_hasRoom).cls = "StepHeapModel" ∧ (y_R_hasRoom).cls ≠ "java/lang/invoke/MethodHandle" ∧ (y_R_hasRoom).cls ≠ "java/lang/invoke/VarHandle" ∧ (parseMethodDescriptor (y_R_hasRoom).desc).map (fun d => d.parameters.length) = some 1 := by decide +kernel
theorem hd_R_add : (y_R_add).cls = "StepHeapModel" ∧ (y_R_add).cls ≠ "java/lang/invoke/MethodHandle" ∧ (y_R_add).cls ≠ "java/lang/invoke/VarHandle" ∧ (parseMethodDescriptor (y_R_add).desc).map (fun d => d.parameters.length) = some 3 := by decide +kernel
theorem hd_R_make : (y_R_make).cls = "StepHeapModel" ∧ (y_R_make).cls ≠ "java/lang/invoke/MethodHandle" ∧ (y_R_make).cls ≠ "java/lang/invoke/VarHandle" ∧ (parseMethodDescriptor (y_R_make).desc).map (fun d => d.parameters.length) = some 3 := by decide +kernel
theorem hdf_R_levels : (y_R_levels).cls ≠ "java/lang/invoke/MethodHandle" ∧ (y_R_levels).cls ≠ "java/lang/invoke/VarHandle" ∧ (parseMethodDescriptor (y_R_levels).desc).map (fun d => d.parameters.length) = some 1 := by decide +kernel
theorem hd_R_array : (y_R_array).cls = "StepHeapModel" ∧ (y_R_array).cls ≠ "java/lang/invoke/MethodHandle" ∧ (y_R_array).cls ≠ "java/lang/invoke/VarHandle" ∧ (parseMethodDescriptor (y_R_array).desc).map (fun d => d.parameters.length) = some 3 := by decide +kernel
theorem hd_R_field : (y_R_field).cls = "StepHeapModel" ∧ (y_R_field).cls ≠ "java/lang/invoke/MethodHandle" ∧ (y_R_field).cls ≠ "java/lang/invoke/VarHandle" ∧ (parseMethodDescriptor (y_R_field).desc).map (fun d => d.parameters.length) = some 3 := by decide +kernel
theorem hd_R_get : (y_R_get).cls = "StepHeapModel" ∧ (y_R_get).cls ≠ "java/lang/invoke/MethodHandle" ∧ (y_R_get).cls ≠ "java/lang/invoke/VarHandle" ∧ (parseMethodDescriptor (y_R_get).desc).map (fun d => d.parameters.length) = some 3 := by decide +kernel
theorem hd_R_put : (y_R_put).cls = "StepHeapModel" ∧ (y_R_put).cls ≠ "java/lang/invoke/MethodHandle" ∧ (y_R_put).cls ≠ "java/lang/invoke/VarHandle" ∧ (parseMethodDescriptor (y_R_put).desc).map (fun d => d.parameters.length) = some 3 := by decide +kernel
theorem hd_R_look : (y_R_look).cls = "StepHeapModel" ∧ (y_R_look).cls ≠ "java/lang/invoke/MethodHandle" ∧ (y_R_look).cls ≠ "java/lang/invoke/VarHandle" ∧ (parseMethodDescriptor (y_R_look).desc).map (fun d => d.parameters.length) = some 2 := by decide +kernel
theorem hd_R_set : (y_R_set).cls = "StepHeapModel" ∧ (y_R_set).cls ≠ "java/lang/invoke/MethodHandle" ∧ (y_R_set).cls ≠ "java/lang/invoke/VarHandle" ∧ (parseMethodDescriptor (y_R_set).desc).map (fun d => d.parameters.length) = some 3 := by decide +kernel
theorem hd_R_hasItem : (y_R_hasItem).cls = "StepHeapModel" ∧ (y_R_hasItem).cls ≠ "java/lang/invoke/MethodHandle" ∧ (y_R_hasItem).cls ≠ "java/lang/invoke/VarHandle" ∧ (parseMethodDescriptor (y_R_hasItem).desc).map (fun d => d.parameters.length) = some 3 := by decide +kernel
theorem hd_R_item : (y_R_item).cls = "StepHeapModel" ∧ (y_R_item).cls ≠ "java/lang/invoke/MethodHandle" ∧ (y_R_item).cls ≠ "java/lang/invoke/VarHandle" ∧ (parseMethodDescriptor (y_R_item).desc).map (fun d => d.parameters.length) = some 2 := by decide +kernel
theorem hd_R_fill : (y_R_fill).cls = "StepHeapModel" ∧ (y_R_fill).cls ≠ "java/lang/invoke/MethodHandle" ∧ (y_R_fill).cls ≠ "java/lang/invoke/VarHandle" ∧ (parseMethodDescriptor (y_R_fill).desc).map (fun d => d.parameters.length) = some 1 := by decide +kernel
theorem hd_R_getItem : (y_R_getItem).cls = "StepHeapModel" ∧ (y_R_getItem).cls ≠ "java/lang/invoke/MethodHandle" ∧ (y_R_getItem).cls ≠ "java/lang/invoke/VarHandle" ∧ (parseMethodDescriptor (y_R_getItem).desc).map (fun d => d.parameters.length) = some 3 := by decide +kernel
theorem hd_R_putItem : (y_R_putItem).cls = "StepHeapModel" ∧ (y_R_putItem).cls ≠ "java/lang/invoke/MethodHandle" ∧ (y_R_putItem).cls ≠ "java/lang/invoke/VarHandle" ∧ (parseMethodDescriptor (y_R_putItem).desc).map (fun d => d.parameters.length) = some 3 := by decide +kernel
theorem hd_R_lookItem : (y_R_lookItem).cls = "StepHeapModel" ∧ (y_R_lookItem).cls ≠ "java/lang/invoke/MethodHandle" ∧ (y_R_lookItem).cls ≠ "java/lang/invoke/VarHandle" ∧ (parseMethodDescriptor (y_R_lookItem).desc).map (fun d => d.parameters.length) = some 2 := by decide +kernel
theorem hd_R_setItem : (y_R_setItem).cls = "StepHeapModel" ∧ (y_R_setItem).cls ≠ "java/lang/invoke/MethodHandle" ∧ (y_R_setItem).cls ≠ "java/lang/invoke/VarHandle" ∧ (parseMethodDescriptor (y_R_setItem).desc).map (fun d => d.parameters.length) = some 3 := by decide +kernel
theorem hd_R_copy : (y_R_copy).cls = "StepHeapModel" ∧ (y_R_copy).cls ≠ "java/lang/invoke/MethodHandle" ∧ (y_R_copy).cls ≠ "java/lang/invoke/VarHandle" ∧ (parseMethodDescriptor (y_R_copy).desc).map (fun d => d.parameters.length) = some 2 := by decide +kernel
theorem hd_R_drop : (y_R_drop).cls = "StepHeapModel" ∧ (y_R_drop).cls ≠ "java/lang/invoke/MethodHandle" ∧ (y_R_drop).cls ≠ "java/lang/invoke/VarHandle" ∧ (parseMethodDescriptor (y_R_drop).desc).map (fun d => d.parameters.length) = some 1 := by decide +kernel
theorem hd_R_same : (y_R_same).cls = "StepHeapModel" ∧ (y_R_same).cls ≠ "java/lang/invoke/MethodHandle" ∧ (y_R_same).cls ≠ "java/lang/invoke/VarHandle" ∧ (parseMethodDescriptor (y_R_same).desc).map (fun d => d.parameters.length) = some 2 := by decide +kernel
theorem hd_R_size : (y_R_size).cls = "StepHeapModel" ∧ (y_R_size).cls ≠ "java/lang/invoke/MethodHandle" ∧ (y_R_size).cls ≠ "java/lang/invoke/VarHandle" ∧ (parseMethodDescriptor (y_R_size).desc).map (fun d => d.parameters.length) = some 2 := by decide +kernel
theorem hd_R_told : (y_R_told).cls = "StepHeapModel" ∧ (y_R_told).cls ≠ "java/lang/invoke/MethodHandle" ∧ (y_R_told).cls ≠ "java/lang/invoke/VarHandle" ∧ (parseMethodDescriptor (y_R_told).desc).map (fun d => d.parameters.length) = some 1 := by decide +kernel
theorem hd_R_steady : (y_R_steady).cls = "StepHeapModel" ∧ (y_R_steady).cls ≠ "java/lang/invoke/MethodHandle" ∧ (y_R_steady).cls ≠ "java/lang/invoke/VarHandle" ∧ (parseMethodDescriptor (y_R_steady).desc).map (fun d => d.parameters.length) = some 0 := by decide +kernel
theorem hd_C_init : (y_C_init).cls = "StepHeap$Cells" ∧ (y_C_init).cls ≠ "java/lang/invoke/MethodHandle" ∧ (y_C_init).cls ≠ "java/lang/invoke/VarHandle" ∧ (parseMethodDescriptor (y_C_init).desc).map (fun d => d.parameters.length) = some 2 := by decide +kernel
theorem hd_C_startCall : (y_C_startCall).cls = "StepHeap$Cells" ∧ (y_C_startCall).cls ≠ "java/lang/invoke/MethodHandle" ∧ (y_C_startCall).cls ≠ "java/lang/invoke/VarHandle" ∧ (parseMethodDescriptor (y_C_startCall).desc).map (fun d => d.parameters.length) = some 0 := by decide +kernel
theorem hd_C_read : (y_C_read).cls = "StepHeap$Cells" ∧ (y_C_read).cls ≠ "java/lang/invoke/MethodHandle" ∧ (y_C_read).cls ≠ "java/lang/invoke/VarHandle" ∧ (parseMethodDescriptor (y_C_read).desc).map (fun d => d.parameters.length) = some 1 := by decide +kernel
theorem hd_C_write : (y_C_write).cls = "StepHeap$Cells" ∧ (y_C_write).cls ≠ "java/lang/invoke/MethodHandle" ∧ (y_C_write).cls ≠ "java/lang/invoke/VarHandle" ∧ (parseMethodDescriptor (y_C_write).desc).map (fun d => d.parameters.length) = some 2 := by decide +kernel
theorem hd_C_touch : (y_C_touch).cls = "StepHeap$Cells" ∧ (y_C_touch).cls ≠ "java/lang/invoke/MethodHandle" ∧ (y_C_touch).cls ≠ "java/lang/invoke/VarHandle" ∧ (parseMethodDescriptor (y_C_touch).desc).map (fun d => d.parameters.length) = some 0 := by decide +kernel
theorem hdf_H_ofObject : (y_H_ofObject).cls ≠ "java/lang/invoke/MethodHandle" ∧ (y_H_ofObject).cls ≠ "java/lang/invoke/VarHandle" ∧ (parseMethodDescriptor (y_H_ofObject).desc).map (fun d => d.parameters.length) = some 2 := by decide +kernel
theorem hdf_H_ofNode : (y_H_ofNode).cls ≠ "java/lang/invoke/MethodHandle" ∧ (y_H_ofNode).cls ≠ "java/lang/invoke/VarHandle" ∧ (parseMethodDescriptor (y_H_ofNode).desc).map (fun d => d.parameters.length) = some 1 := by decide +kernel
theorem hdf_H_ofArray : (y_H_ofArray).cls ≠ "java/lang/invoke/MethodHandle" ∧ (y_H_ofArray).cls ≠ "java/lang/invoke/VarHandle" ∧ (parseMethodDescriptor (y_H_ofArray).desc).map (fun d => d.parameters.length) = some 2 := by decide +kernel
theorem hdf_H_traced : (y_H_traced).cls ≠ "java/lang/invoke/MethodHandle" ∧ (y_H_traced).cls ≠ "java/lang/invoke/VarHandle" ∧ (parseMethodDescriptor (y_H_traced).desc).map (fun d => d.parameters.length) = some 1 := by decide +kernel
theorem hdf_H_plain : (y_H_plain).cls ≠ "java/lang/invoke/MethodHandle" ∧ (y_H_plain).cls ≠ "java/lang/invoke/VarHandle" ∧ (parseMethodDescriptor (y_H_plain).desc).map (fun d => d.parameters.length) = some 1 := by decide +kernel
theorem hdf_H_cells : (y_H_cells).cls ≠ "java/lang/invoke/MethodHandle" ∧ (y_H_cells).cls ≠ "java/lang/invoke/VarHandle" ∧ (parseMethodDescriptor (y_H_cells).desc).map (fun d => d.parameters.length) = some 1 := by decide +kernel
theorem hdf_H_isArray : (y_H_isArray).cls ≠ "java/lang/invoke/MethodHandle" ∧ (y_H_isArray).cls ≠ "java/lang/invoke/VarHandle" ∧ (parseMethodDescriptor (y_H_isArray).desc).map (fun d => d.parameters.length) = some 1 := by decide +kernel
theorem hdf_H_hasReferenceItems : (y_H_hasReferenceItems).cls ≠ "java/lang/invoke/MethodHandle" ∧ (y_H_hasReferenceItems).cls ≠ "java/lang/invoke/VarHandle" ∧ (parseMethodDescriptor (y_H_hasReferenceItems).desc).map (fun d => d.parameters.length) = some 1 := by decide +kernel
theorem hdf_H_references : (y_H_references).cls ≠ "java/lang/invoke/MethodHandle" ∧ (y_H_references).cls ≠ "java/lang/invoke/VarHandle" ∧ (parseMethodDescriptor (y_H_references).desc).map (fun d => d.parameters.length) = some 1 := by decide +kernel
theorem hdf_H_ints : (y_H_ints).cls ≠ "java/lang/invoke/MethodHandle" ∧ (y_H_ints).cls ≠ "java/lang/invoke/VarHandle" ∧ (parseMethodDescriptor (y_H_ints).desc).map (fun d => d.parameters.length) = some 1 := by decide +kernel
theorem hdf_H_length : (y_H_length).cls ≠ "java/lang/invoke/MethodHandle" ∧ (y_H_length).cls ≠ "java/lang/invoke/VarHandle" ∧ (parseMethodDescriptor (y_H_length).desc).map (fun d => d.parameters.length) = some 1 := by decide +kernel
theorem hdf_H_items : (y_H_items).cls ≠ "java/lang/invoke/MethodHandle" ∧ (y_H_items).cls ≠ "java/lang/invoke/VarHandle" ∧ (parseMethodDescriptor (y_H_items).desc).map (fun d => d.parameters.length) = some 2 := by decide +kernel
theorem hdf_H_height : (y_H_height).cls ≠ "java/lang/invoke/MethodHandle" ∧ (y_H_height).cls ≠ "java/lang/invoke/VarHandle" ∧ (parseMethodDescriptor (y_H_height).desc).map (fun d => d.parameters.length) = some 1 := by decide +kernel
theorem hd_M_init : (y_M_init).cls = "StepHeap$Mover" ∧ (y_M_init).cls ≠ "java/lang/invoke/MethodHandle" ∧ (y_M_init).cls ≠ "java/lang/invoke/VarHandle" ∧ (parseMethodDescriptor (y_M_init).desc).map (fun d => d.parameters.length) = some 3 := by decide +kernel
theorem hd_M_register : (y_M_register).cls = "StepHeap$Mover" ∧ (y_M_register).cls ≠ "java/lang/invoke/MethodHandle" ∧ (y_M_register).cls ≠ "java/lang/invoke/VarHandle" ∧ (parseMethodDescriptor (y_M_register).desc).map (fun d => d.parameters.length) = some 1 := by decide +kernel
theorem hd_M_setRegister : (y_M_setRegister).cls = "StepHeap$Mover" ∧ (y_M_setRegister).cls ≠ "java/lang/invoke/MethodHandle" ∧ (y_M_setRegister).cls ≠ "java/lang/invoke/VarHandle" ∧ (parseMethodDescriptor (y_M_setRegister).desc).map (fun d => d.parameters.length) = some 2 := by decide +kernel
theorem hd_M_moved : (y_M_moved).cls = "StepHeap$Mover" ∧ (y_M_moved).cls ≠ "java/lang/invoke/MethodHandle" ∧ (y_M_moved).cls ≠ "java/lang/invoke/VarHandle" ∧ (parseMethodDescriptor (y_M_moved).desc).map (fun d => d.parameters.length) = some 0 := by decide +kernel
theorem hd_M_isDone : (y_M_isDone).cls = "StepHeap$Mover" ∧ (y_M_isDone).cls ≠ "java/lang/invoke/MethodHandle" ∧ (y_M_isDone).cls ≠ "java/lang/invoke/VarHandle" ∧ (parseMethodDescriptor (y_M_isDone).desc).map (fun d => d.parameters.length) = some 0 := by decide +kernel
theorem hd_M_hasRoom : (y_M_hasRoom).cls = "StepHeap$Mover" ∧ (y_M_hasRoom).cls ≠ "java/lang/invoke/MethodHandle" ∧ (y_M_hasRoom).cls ≠ "java/lang/invoke/VarHandle" ∧ (parseMethodDescriptor (y_M_hasRoom).desc).map (fun d => d.parameters.length) = some 1 := by decide +kernel
theorem hd_M_place : (y_M_place).cls = "StepHeap$Mover" ∧ (y_M_place).cls ≠ "java/lang/invoke/MethodHandle" ∧ (y_M_place).cls ≠ "java/lang/invoke/VarHandle" ∧ (parseMethodDescriptor (y_M_place).desc).map (fun d => d.parameters.length) = some 1 := by decide +kernel
theorem hd_M_follow : (y_M_follow).cls = "StepHeap$Mover" ∧ (y_M_follow).cls ≠ "java/lang/invoke/MethodHandle" ∧ (y_M_follow).cls ≠ "java/lang/invoke/VarHandle" ∧ (parseMethodDescriptor (y_M_follow).desc).map (fun d => d.parameters.length) = some 1 := by decide +kernel
theorem hd_M_link : (y_M_link).cls = "StepHeap$Mover" ∧ (y_M_link).cls ≠ "java/lang/invoke/MethodHandle" ∧ (y_M_link).cls ≠ "java/lang/invoke/VarHandle" ∧ (parseMethodDescriptor (y_M_link).desc).map (fun d => d.parameters.length) = some 2 := by decide +kernel
theorem hd_M_useHalf : (y_M_useHalf).cls = "StepHeap$Mover" ∧ (y_M_useHalf).cls ≠ "java/lang/invoke/MethodHandle" ∧ (y_M_useHalf).cls ≠ "java/lang/invoke/VarHandle" ∧ (parseMethodDescriptor (y_M_useHalf).desc).map (fun d => d.parameters.length) = some 1 := by decide +kernel
theorem hd_M_beginCycle : (y_M_beginCycle).cls = "StepHeap$Mover" ∧ (y_M_beginCycle).cls ≠ "java/lang/invoke/MethodHandle" ∧ (y_M_beginCycle).cls ≠ "java/lang/invoke/VarHandle" ∧ (parseMethodDescriptor (y_M_beginCycle).desc).map (fun d => d.parameters.length) = some 0 := by decide +kernel
theorem hd_M_isOld : (y_M_isOld).cls = "StepHeap$Mover" ∧ (y_M_isOld).cls ≠ "java/lang/invoke/MethodHandle" ∧ (y_M_isOld).cls ≠ "java/lang/invoke/VarHandle" ∧ (parseMethodDescriptor (y_M_isOld).desc).map (fun d => d.parameters.length) = some 1 := by decide +kernel
theorem hd_M_placeInUse : (y_M_placeInUse).cls = "StepHeap$Mover" ∧ (y_M_placeInUse).cls ≠ "java/lang/invoke/MethodHandle" ∧ (y_M_placeInUse).cls ≠ "java/lang/invoke/VarHandle" ∧ (parseMethodDescriptor (y_M_placeInUse).desc).map (fun d => d.parameters.length) = some 1 := by decide +kernel
theorem hd_M_work : (y_M_work).cls = "StepHeap$Mover" ∧ (y_M_work).cls ≠ "java/lang/invoke/MethodHandle" ∧ (y_M_work).cls ≠ "java/lang/invoke/VarHandle" ∧ (parseMethodDescriptor (y_M_work).desc).map (fun d => d.parameters.length) = some 0 := by decide +kernel
theorem hd_P_init : (y_P_init).cls = "StepHeap$Page" ∧ (y_P_init).cls ≠ "java/lang/invoke/MethodHandle" ∧ (y_P_init).cls ≠ "java/lang/invoke/VarHandle" ∧ (parseMethodDescriptor (y_P_init).desc).map (fun d => d.parameters.length) = some 0 := by decide +kernel
theorem hdf_L_cell : (y_L_cell).cls ≠ "java/lang/invoke/MethodHandle" ∧ (y_L_cell).cls ≠ "java/lang/invoke/VarHandle" ∧ (parseMethodDescriptor (y_L_cell).desc).map (fun d => d.parameters.length) = some 2 := by decide +kernel
theorem hd_L_law : (y_L_law).cls = "StepHeapLaw" ∧ (y_L_law).cls ≠ "java/lang/invoke/MethodHandle" ∧ (y_L_law).cls ≠ "java/lang/invoke/VarHandle" ∧ (parseMethodDescriptor (y_L_law).desc).map (fun d => d.parameters.length) = some 1 := by decide +kernel
end
section
/-! ===== THE CLASS AS FUNCTIONS. sh_K: half, k, limit, last, allowed; sh_C: touched, steady, cells, pages made; sh_M: made, begun, base, free, lowestMade, scan, tracedEnd, nextHead, registers ===== -/
abbrev sh_K : Type := Int32 × Int32 × Int32 × Int32 × Int32
abbrev kHalf (κ : sh_K) : Int32 := κ.1
abbrev kK (κ : sh_K) : Int32 := κ.2.1
abbrev kLim (κ : sh_K) : Int32 := κ.2.2.1
abbrev kLast (κ : sh_K) : Int32 := κ.2.2.2.1
abbrev kAl (κ : sh_K) : Int32 := κ.2.2.2.2
abbrev sh_C : Type := Int32 × Int32 × (Nat → Int32) × List Nat
abbrev sh_M : Type := Int32 × Int32 × Int32 × Int32 × Int32 × Int32 × Int32 × Int32 × (Nat → Int32)
abbrev sh_S : Type := sh_C × sh_M
abbrev sTou (σ : sh_S) : Int32 := σ.1.1
abbrev sSte (σ : sh_S) : Int32 := σ.1.2.1
abbrev sMem (σ : sh_S) : Nat → Int32 := σ.1.2.2.1
abbrev sPgs (σ : sh_S) : List Nat := σ.1.2.2.2
abbrev sMade (σ : sh_S) : Int32 := σ.2.1
abbrev sBeg (σ : sh_S) : Int32 := σ.2.2.1
abbrev sBase (σ : sh_S) : Int32 := σ.2.2.2.1
abbrev sFree (σ : sh_S) : Int32 := σ.2.2.2.2.1
abbrev sLow (σ : sh_S) : Int32 := σ.2.2.2.2.2.1
abbrev sScan (σ : sh_S) : Int32 := σ.2.2.2.2.2.2.1
abbrev sTend (σ : sh_S) : Int32 := σ.2.2.2.2.2.2.2.1
abbrev sNh (σ : sh_S) : Int32 := σ.2.2.2.2.2.2.2.2.1
abbrev sReg (σ : sh_S) : Nat → Int32 := σ.2.2.2.2.2.2.2.2.2
abbrev uMade (σ : sh_S) (v : Int32) : sh_S := (σ.1, v, σ.2.2)
abbrev uBeg (σ : sh_S) (v : Int32) : sh_S := (σ.1, σ.2.1, v, σ.2.2.2)
abbrev uBase (σ : sh_S) (v : Int32) : sh_S := (σ.1, σ.2.1, σ.2.2.1, v, σ.2.2.2.2)
abbrev uFree (σ : sh_S) (v : Int32) : sh_S := (σ.1, σ.2.1, σ.2.2.1, σ.2.2.2.1, v, σ.2.2.2.2.2)
abbrev uLow (σ : sh_S) (v : Int32) : sh_S := (σ.1, σ.2.1, σ.2.2.1, σ.2.2.2.1, σ.2.2.2.2.1, v, σ.2.2.2.2.2.2)
abbrev uScan (σ : sh_S) (v : Int32) : sh_S := (σ.1, σ.2.1, σ.2.2.1, σ.2.2.2.1, σ.2.2.2.2.1, σ.2.2.2.2.2.1, v, σ.2.2.2.2.2.2.2)
abbrev uTend (σ : sh_S) (v : Int32) : sh_S := (σ.1, σ.2.1, σ.2.2.1, σ.2.2.2.1, σ.2.2.2.2.1, σ.2.2.2.2.2.1, σ.2.2.2.2.2.2.1, v, σ.2.2.2.2.2.2.2.2)
abbrev uNh (σ : sh_S) (v : Int32) : sh_S := (σ.1, σ.2.1, σ.2.2.1, σ.2.2.2.1, σ.2.2.2.2.1, σ.2.2.2.2.2.1, σ.2.2.2.2.2.2.1, σ.2.2.2.2.2.2.2.1, v, σ.2.2.2.2.2.2.2.2.2)
abbrev uReg (σ : sh_S) (f : Nat → Int32) : sh_S := (σ.1, σ.2.1, σ.2.2.1, σ.2.2.2.1, σ.2.2.2.2.1, σ.2.2.2.2.2.1, σ.2.2.2.2.2.2.1, σ.2.2.2.2.2.2.2.1, σ.2.2.2.2.2.2.2.2.1, f)
abbrev uC (σ : sh_S) (c : sh_C) : sh_S := (c, σ.2)
-- Head
def hd_traced (h : Int32) : Int32 := (h >>> ((1 : Int32) &&& 31)) &&& 15
def hd_plain (h : Int32) : Int32 := (h >>> ((5 : Int32) &&& 31)) &&& 15
def hd_cells (h : Int32) : Int32 := 1 + hd_traced h + hd_plain h
def hd_isArr (h : Int32) : Int32 := if h &&& 512 = 0 then 0 else 1
def hd_refIt (h : Int32) : Int32 := if h &&& 1024 = 0 then 0 else 1
def hd_refs (h : Int32) : Int32 := if hd_isArr h = 0 then hd_traced h else 0
def hd_ints (h : Int32) : Int32 := if hd_isArr h = 0 then hd_plain h else 0
def hd_len (h : Int32) : Int32 := h >>> ((11 : Int32) &&& 31)
def hd_items (h r : Int32) : Int32 := if hd_isArr h = 0 then 0 else if hd_refIt h = r then hd_len h else 0
def hd_height (h : Int32) : Int32 := if hd_len h ≤ 225 then (if hd_len h ≤ 15 then 0 else 1) else 2
def hd_obj (r i : Int32) : Int32 := 1 ||| (r <<< ((1 : Int32) &&& 31)) ||| (i <<< ((5 : Int32) &&& 31))
def hd_node (t : Int32) : Int32 := if t = 0 then hd_obj 0 15 else hd_obj 15 0
def hd_arr (len r : Int32) : Int32 := hd_node (if r = 0 then (if len ≤ 15 then 0 else 1) else 1) ||| 512 ||| (if r = 0 then 0 else 1024) ||| (len <<< ((11 : Int32) &&& 31))
-- Cells
def sh_touch (κ : sh_K) (c : sh_C) : sh_C := (c.1 + 1, if c.1 + 1 ≤ kAl κ then c.2.1 else 0, c.2.2)
def sh_start (c : sh_C) : sh_C := (0, c.2)
def sh_val (κ : sh_K) (c : sh_C) (cell : Int32) : Int32 := if cell < 1 then 0 else if cell ≤ kLast κ then c.2.2.1 cell.toNatClampNeg else 0
def sh_pg (ps : List Nat) (i : Nat) : List Nat := if i ∈ ps then ps else ps ++ [i]
def sh_put (κ : sh_K) (c : sh_C) (cell v : Int32) : sh_C := if cell < 1 then c else if cell ≤ kLast κ then (c.1, c.2.1, upd c.2.2.1 cell.toNatClampNeg v, sh_pg c.2.2.2 (cell.toNatClampNeg / 1024)) else c
def sh_write (κ : sh_K) (c : sh_C) (cell v : Int32) : sh_C := sh_put κ (sh_touch κ c) cell v
-- Mover
def sh_below (x b : Int32) : Int32 := if x < 0 then 0 else if b ≤ x then 0 else 1
def sh_isReg (r : Int32) : Int32 := sh_below r 8
def sh_reg (σ : sh_S) (r : Int32) : Int32 := if sh_isReg r = 0 then 0 else sReg σ r.toNatClampNeg
def sh_setReg (σ : sh_S) (r v : Int32) : sh_S := if sh_isReg r = 0 then σ else uReg σ (upd (sReg σ) r.toNatClampNeg v)
def sh_moved (σ : sh_S) : Int32 := sFree σ - sBase σ
def sh_done (κ : sh_K) (σ : sh_S) : Int32 := if sScan σ = sFree σ then (if kK κ * sMade σ < sh_moved σ then 0 else 1) else 0
def sh_old (κ : sh_K) (σ : sh_S) (a : Int32) : Int32 := if a = 0 then 0 else if a < sBase σ then 1 else if a < sBase σ + kHalf κ then 0 else 1
def sh_copyN (κ : sh_K) (c : sh_C) (from' to' i : Int32) : Nat → sh_C
  | 0 => c
  | n + 1 => sh_copyN κ (sh_write κ (sh_touch κ c) (to' + i) (sh_val κ c (from' + i))) from' to' (i + 1) n
def sh_piu (κ : sh_K) (σ : sh_S) (a : Int32) : Int32 × sh_S :=
  if sh_old κ σ a = 0 then (a, σ) else
  let h := sh_val κ σ.1 a
  if h < 0 then (-h, uC σ (sh_touch κ σ.1)) else
  (sFree σ, uFree (uC σ (sh_write κ (sh_copyN κ (sh_write κ (sh_touch κ σ.1) (sFree σ) h) a (sFree σ) 1 ((hd_cells h).toNatClampNeg - 1)) a (-(sFree σ)))) (sFree σ + hd_cells h))
def sh_follow (κ : sh_K) (σ : sh_S) (cell : Int32) : Int32 × sh_S := sh_piu κ (uC σ (sh_touch κ σ.1)) (sh_val κ σ.1 cell)
def sh_link (κ : sh_K) (σ : sh_S) (cell v : Int32) : sh_S := let σ1 := (sh_follow κ σ cell).2; uC σ1 (sh_write κ σ1.1 cell v)
def sh_useHalf (κ : sh_K) (σ : sh_S) (f : Int32) : sh_S := (σ.1, sMade σ, sBeg σ, f, f, f + kHalf κ, f, f, f, sReg σ)
def sh_regsN (κ : sh_K) (σ : sh_S) (i : Nat) : Nat → sh_S
  | 0 => σ
  | n + 1 => let q := sh_piu κ σ (sReg σ i); sh_regsN κ (uReg q.2 (upd (sReg q.2) i q.1)) (i + 1) n
def sh_begin (κ : sh_K) (σ : sh_S) : sh_S :=
  let σ1 := sh_useHalf κ σ (if sBase σ = 1 then 1 + kHalf κ else 1)
  sh_regsN κ (uBeg (uMade σ1 0) (sBeg σ1 + 1)) 0 8
def sh_room (κ : sh_K) (σ : sh_S) (n : Int32) : Int32 × sh_S :=
  if sh_done κ σ = 0 then (1, σ) else
  if sh_moved σ ≤ kLim κ then (if sh_moved σ + sMade σ + n ≤ kLim κ then (1, σ) else (1, sh_begin κ σ)) else (0, σ)
def sh_zeroN (κ : sh_K) (c : sh_C) (low i : Int32) : Nat → sh_C
  | 0 => c
  | n + 1 => sh_zeroN κ (sh_write κ c (low + i) 0) low (i + 1) n
def sh_ws1 (κ : sh_K) (σ : sh_S) (w : Int32) : sh_S :=
  if sScan σ = sNh σ then uNh (uTend σ (sScan σ + 1 + hd_traced w)) (sScan σ + hd_cells w)
  else if (sh_piu κ σ w).1 = w then (sh_piu κ σ w).2 else uC (sh_piu κ σ w).2 (sh_write κ (sh_piu κ σ w).2.1 (sScan (sh_piu κ σ w).2) (sh_piu κ σ w).1)
def sh_ws2 (σ : sh_S) : sh_S := if sScan σ + 1 = sTend σ then uScan σ (sNh σ) else uScan σ (sScan σ + 1)
def sh_workStep (κ : sh_K) (σ : sh_S) : sh_S := sh_ws2 (sh_ws1 κ (uC σ (sh_touch κ σ.1)) (sh_val κ σ.1 (sScan σ)))
def sh_workN (κ : sh_K) (goal : Int32) (σ : sh_S) : Nat → sh_S
  | 0 => σ
  | n + 1 => if sScan σ < sFree σ then (if sScan σ < goal then sh_workN κ goal (sh_workStep κ σ) n else σ) else σ
def sh_work (κ : sh_K) (σ : sh_S) : sh_S := sh_workN κ (sBase σ + kK κ * sMade σ) σ (kK κ * 16).toNatClampNeg
def sh_place (κ : sh_K) (σ : sh_S) (h : Int32) : Int32 × sh_S :=
  let n := hd_cells h
  let σ1 := uLow σ (sLow σ - n)
  let σ2 := uC σ1 (sh_zeroN κ (sh_write κ σ1.1 (sLow σ1) h) (sLow σ1) 1 (n.toNatClampNeg - 1))
  let σ3 := sh_work κ (uMade σ2 (sMade σ2 + n))
  (sLow σ3, σ3)
-- StepHeap
def sh_slot (i lv : Int32) : Int32 := let c := if lv = 0 then i else if lv = 1 then i / 15 else i / 225; c - c / 15 * 15
def sh_head (κ : sh_K) (σ : sh_S) (r : Int32) : Int32 × sh_S :=
  let σ1 := uC σ (sh_start σ.1)
  let a := sh_reg σ1 r
  if a = 0 then (0, σ1) else (sh_val κ σ1.1 a, uC σ1 (sh_touch κ σ1.1))
def sh_gapN (κ : sh_K) (σ : sh_S) (i nd lv : Int32) : Nat → Int32 × sh_S
  | 0 => (0, σ)
  | n + 1 => if lv ≤ 0 then (0, σ) else
    let q := sh_follow κ σ (nd + 1 + sh_slot i lv)
    if q.1 = 0 then (lv, q.2) else sh_gapN κ q.2 i q.1 (lv + (-1)) n
def sh_gap (κ : sh_K) (σ : sh_S) (o h i : Int32) : Int32 × sh_S := sh_gapN κ σ i (sh_reg σ o) (hd_height h) 3
def sh_wayN (κ : sh_K) (σ : sh_S) (i lv nd ab : Int32) : Nat → Int32 × sh_S
  | 0 => (nd, σ)
  | n + 1 => if ab ≤ lv then (nd, σ) else
    let q := sh_follow κ σ (nd + 1 + sh_slot i ab)
    sh_wayN κ q.2 i lv q.1 (ab + (-1)) n
def sh_way (κ : sh_K) (σ : sh_S) (o h i lv : Int32) : Int32 × sh_S := let q := sh_wayN κ σ i lv (sh_reg σ o) (hd_height h) 3; (q.1 + 1 + sh_slot i lv, q.2)
def sh_open (κ : sh_K) (σ : sh_S) (o h i : Int32) : Int32 × sh_S :=
  let g := sh_gap κ σ o h i
  if g.1 = 0 then (1, g.2) else
  let rm := sh_room κ g.2 16
  if rm.1 = 0 then (0, rm.2) else
  let ch := sh_place κ rm.2 (hd_node (if g.1 ≤ 1 then hd_refIt h else 1))
  let w := sh_way κ ch.2 o h i g.1
  (2, sh_link κ w.2 w.1 ch.1)
def sh_fill (κ : sh_K) (σ : sh_S) (r h : Int32) : Int32 × sh_S :=
  let σ1 := uC σ (sh_start σ.1)
  let rm := sh_room κ σ1 (hd_cells h)
  if rm.1 = 0 then (0, rm.2) else
  let p := sh_place κ rm.2 h
  (1, sh_setReg p.2 r p.1)
end
section
/-! ===== CHAINS OF BLOCKS: ad: where a thing stands, cz: how many cells it has ===== -/
def gc_sum (cz : Nat → Nat) : List Nat → Nat
  | [] => 0
  | o :: l => cz o + gc_sum cz l
def gc_chain (ad cz : Nat → Nat) : Nat → List Nat → Nat → Prop
  | b, [], e => b = e
  | b, o :: l, e => ad o = b ∧ gc_chain ad cz (b + cz o) l e
theorem gc_sum_app {cz : Nat → Nat} : ∀ (l1 l2 : List Nat), gc_sum cz (l1 ++ l2) = gc_sum cz l1 + gc_sum cz l2
  | [], l2 => by simp [gc_sum]
  | o :: l1, l2 => by
    show cz o + gc_sum cz (l1 ++ l2) = cz o + gc_sum cz l1 + gc_sum cz l2
    rw [gc_sum_app l1 l2]
    omega
theorem gc_sum_le {cz : Nat → Nat} : ∀ (l1 l2 : List Nat), l1.Nodup → (∀ o, o ∈ l1 → o ∈ l2) → gc_sum cz l1 ≤ gc_sum cz l2
  | [], l2, _, _ => Nat.zero_le _
  | o :: l1, l2, hn, hs => by
    obtain ⟨s, t, rfl⟩ := List.append_of_mem (hs o List.mem_cons_self)
    have hn2 := List.nodup_cons.mp hn
    have h := gc_sum_le (cz := cz) l1 (s ++ t) hn2.2 (fun q hq => by
      have h1 := hs q (List.mem_cons_of_mem _ hq)
      have hne : q ≠ o := fun z => hn2.1 (z ▸ hq)
      simp only [List.mem_append, List.mem_cons] at h1 ⊢
      rcases h1 with h1 | h1 | h1
      · exact Or.inl h1
      · exact absurd h1 hne
      · exact Or.inr h1)
    rw [gc_sum_app] at h
    rw [gc_sum_app]
    simp only [gc_sum]
    omega
theorem gc_sum_eq {cz : Nat → Nat} {l1 l2 : List Nat} (h1 : l1.Nodup) (h2 : l2.Nodup) (h : ∀ o, o ∈ l1 ↔ o ∈ l2) : gc_sum cz l1 = gc_sum cz l2 :=
  Nat.le_antisymm (gc_sum_le l1 l2 h1 (fun o => (h o).mp)) (gc_sum_le l2 l1 h2 (fun o => (h o).mpr))
theorem gc_sum_congr {cz cz' : Nat → Nat} : ∀ (l : List Nat), (∀ o, o ∈ l → cz o = cz' o) → gc_sum cz l = gc_sum cz' l
  | [], _ => rfl
  | o :: l, h => by
    show cz o + _ = cz' o + _
    rw [h o List.mem_cons_self, gc_sum_congr l (fun q hq => h q (List.mem_cons_of_mem _ hq))]
theorem gc_chain_app {ad cz : Nat → Nat} : ∀ (l1 : List Nat) {l2 : List Nat} {b e : Nat}, gc_chain ad cz b (l1 ++ l2) e ↔ ∃ m, gc_chain ad cz b l1 m ∧ gc_chain ad cz m l2 e
  | [], l2, b, e => by
    constructor
    · intro h; exact ⟨b, rfl, h⟩
    · rintro ⟨m, h1, h2⟩
      have h1 : b = m := h1
      subst h1; exact h2
  | o :: l1, l2, b, e => by
    constructor
    · rintro ⟨h, h1⟩
      obtain ⟨m, h2, h3⟩ := (gc_chain_app l1).mp h1
      exact ⟨m, ⟨h, h2⟩, h3⟩
    · rintro ⟨m, ⟨h, h1⟩, h2⟩
      exact ⟨h, (gc_chain_app l1).mpr ⟨m, h1, h2⟩⟩
theorem gc_chain_sum {ad cz : Nat → Nat} : ∀ {l : List Nat} {b e : Nat}, gc_chain ad cz b l e → e = b + gc_sum cz l
  | [], b, e, h => by
    have h : b = e := h
    simp [gc_sum, h]
  | o :: l, b, e, h => by
    have h2 := gc_chain_sum h.2
    simp only [gc_sum]
    omega
theorem gc_chain_in {ad cz : Nat → Nat} : ∀ {l : List Nat} {b e : Nat}, gc_chain ad cz b l e → ∀ {o : Nat}, o ∈ l → b ≤ ad o ∧ ad o + cz o ≤ e
  | [], _, _, _, _, ho => by cases ho
  | q :: l, b, e, h, o, ho => by
    have hs := gc_chain_sum h.2
    rcases List.mem_cons.mp ho with h1 | h1
    · subst h1
      have := h.1
      omega
    · have := gc_chain_in h.2 h1
      omega
theorem gc_chain_dis {ad cz : Nat → Nat} : ∀ {l : List Nat} {b e : Nat}, gc_chain ad cz b l e → ∀ {o q : Nat}, o ∈ l → q ∈ l → o ≠ q → ad o + cz o ≤ ad q ∨ ad q + cz q ≤ ad o
  | [], _, _, _, _, _, ho, _, _ => by cases ho
  | r :: l, b, e, h, o, q, ho, hq, hne => by
    have hr := h.1
    rcases List.mem_cons.mp ho with h1 | h1
    · subst h1
      rcases List.mem_cons.mp hq with h2 | h2
      · exact absurd h2.symm hne
      · have := gc_chain_in h.2 h2
        left; omega
    · rcases List.mem_cons.mp hq with h2 | h2
      · subst h2
        have := gc_chain_in h.2 h1
        right; omega
      · exact gc_chain_dis h.2 h1 h2 hne
theorem gc_chain_congr {ad cz ad' cz' : Nat → Nat} : ∀ {l : List Nat} {b e : Nat}, (∀ o, o ∈ l → ad' o = ad o ∧ cz' o = cz o) → gc_chain ad cz b l e → gc_chain ad' cz' b l e
  | [], _, _, _, h => h
  | o :: l, b, e, hc, h => by
    obtain ⟨h1, h2⟩ := hc o List.mem_cons_self
    refine ⟨h1.trans h.1, ?_⟩
    rw [h2]
    exact gc_chain_congr (fun q hq => hc q (List.mem_cons_of_mem _ hq)) h.2
end
section
/-! ===== THE ABSTRACT HEAP (heads, references, ints, registers; thing 0 is nothing) AND HOW THE CELLS HOLD IT ===== -/
abbrev ab_A : Type := (Nat → Int32) × (Nat → Nat → Nat) × (Nat → Nat → Int32) × (Nat → Nat)
abbrev aH (α : ab_A) : Nat → Int32 := α.1
abbrev aF (α : ab_A) : Nat → Nat → Nat := α.2.1
abbrev aI (α : ab_A) : Nat → Nat → Int32 := α.2.2.1
abbrev aR (α : ab_A) : Nat → Nat := α.2.2.2
def hT (h : Int32) : Nat := (hd_traced h).toNatClampNeg
def hP (h : Int32) : Nat := (hd_plain h).toNatClampNeg
def hC (h : Int32) : Nat := 1 + hT h + hP h
abbrev aT (α : ab_A) (o : Nat) : Nat := hT (aH α o)
abbrev aP (α : ab_A) (o : Nat) : Nat := hP (aH α o)
abbrev aC (α : ab_A) (o : Nat) : Nat := hC (aH α o)
def gc_ok (h : Int32) : Prop := 0 < h ∧ hC h ≤ 16
/-- a word that leads to r in the half in use -/
def gc_bw (ad : Nat → Nat) (Mv Mk : List Nat) (r : Nat) (w : Int32) : Prop := w = nI (ad r) ∧ (r = 0 ∨ r ∈ Mv ∨ r ∈ Mk)
/-- a word that leads to r, perhaps still in the old half -/
def gc_gw (ad od : Nat → Nat) (Mv Mk Sn : List Nat) (r : Nat) (w : Int32) : Prop := gc_bw ad Mv Mk r w ∨ (w = nI (od r) ∧ r ∈ Sn)
def gc_sc (ad : Nat → Nat) (α : ab_A) (Mv : List Nat) (base scan tend nh : Nat) : Prop :=
  ∃ L1 L2 : List Nat, Mv = L1 ++ L2 ∧ gc_chain ad (aC α) base L1 nh ∧ (scan = nh ∨ ∃ (L0 : List Nat) (cur : Nat), L1 = L0 ++ [cur] ∧ ad cur < scan ∧ scan < tend ∧ tend = ad cur + 1 + aT α cur)
def gc_old (mem : Nat → Int32) (α : ab_A) (ob hf : Nat) (ad od : Nat → Nat) (Mv Sn : List Nat) (brf : Nat → Nat → Nat) : Prop :=
  (∀ o, o ∈ Sn → ob ≤ od o ∧ od o + aC α o ≤ ob + hf) ∧ (∀ o q, o ∈ Sn → q ∈ Sn → o ≠ q → od o + aC α o ≤ od q ∨ od q + aC α q ≤ od o) ∧
  (∀ o, o ∈ Mv → mem (od o) = -(nI (ad o))) ∧
  (∀ o, o ∈ Sn → o ∉ Mv → mem (od o) = aH α o ∧ (∀ j, j < aT α o → mem (od o + 1 + j) = nI (od (brf o j)) ∧ aF α o j = brf o j) ∧ ∀ j, j < aP α o → mem (od o + 1 + aT α o + j) = aI α o j) ∧
  (∀ o j, o ∈ Sn → j < aT α o → brf o j = 0 ∨ brf o j ∈ Sn)
def gc_new (mem : Nat → Int32) (α : ab_A) (scan : Nat) (ad od : Nat → Nat) (Mv Mk Sn : List Nat) (brf : Nat → Nat → Nat) : Prop :=
  (∀ o, o ∈ Mv ∨ o ∈ Mk → mem (ad o) = aH α o ∧ ∀ j, j < aP α o → mem (ad o + 1 + aT α o + j) = aI α o j) ∧
  (∀ o j, o ∈ Mk → j < aT α o → gc_bw ad Mv Mk (aF α o j) (mem (ad o + 1 + j))) ∧
  (∀ o j, o ∈ Mv → j < aT α o → ad o + 1 + j < scan → gc_bw ad Mv Mk (aF α o j) (mem (ad o + 1 + j))) ∧
  (∀ o j, o ∈ Mv → j < aT α o → gc_gw ad od Mv Mk Sn (aF α o j) (mem (ad o + 1 + j))) ∧
  (∀ o j, o ∈ Mv → j < aT α o → brf o j ≠ 0 → brf o j ∈ Mv ∨ (scan ≤ ad o + 1 + j ∧ mem (ad o + 1 + j) = nI (od (brf o j))))
def gc_set (α : ab_A) (ad od : Nat → Nat) (Mv Mk Sn : List Nat) : Prop :=
  ad 0 = 0 ∧ od 0 = 0 ∧ 0 ∉ Sn ∧ 0 ∉ Mk ∧ Mv.Nodup ∧ Mk.Nodup ∧ Sn.Nodup ∧ (∀ o, o ∈ Mv → o ∈ Sn) ∧ (∀ o, o ∈ Mk → o ∉ Sn) ∧ (∀ o, o ∈ Sn ∨ o ∈ Mk → gc_ok (aH α o))
def gc_I (mem : Nat → Int32) (hf base ob free low scan tend nh : Nat) (α : ab_A) (ad od : Nat → Nat) (Mv Mk Sn : List Nat) (brf : Nat → Nat → Nat) : Prop :=
  (hf < 2 ^ 20 ∧ (base = 1 ∧ ob = 1 + hf ∨ base = 1 + hf ∧ ob = 1) ∧ gc_sum (aC α) Sn + gc_sum (aC α) Mk ≤ hf) ∧ gc_set α ad od Mv Mk Sn ∧
  gc_chain ad (aC α) base Mv free ∧ gc_chain ad (aC α) low Mk (base + hf) ∧ gc_sc ad α Mv base scan tend nh ∧
  gc_old mem α ob hf ad od Mv Sn brf ∧ gc_new mem α scan ad od Mv Mk Sn brf
theorem hT_lt (h : Int32) : hT h < 16 ∧ hd_traced h = nI (hT h) := by
  unfold hT hd_traced
  obtain ⟨j, hj, e⟩ := pk_andE (h >>> ((1 : Int32) &&& 31)) (m := 15) 4 (by decide)
  rw [e, nI_clamp (by omega)]
  exact ⟨hj, rfl⟩
theorem hP_lt (h : Int32) : hP h < 16 ∧ hd_plain h = nI (hP h) := by
  unfold hP hd_plain
  obtain ⟨j, hj, e⟩ := pk_andE (h >>> ((5 : Int32) &&& 31)) (m := 15) 4 (by decide)
  rw [e, nI_clamp (by omega)]
  exact ⟨hj, rfl⟩
theorem hC_eq (h : Int32) : hd_cells h = nI (hC h) := by
  unfold hd_cells hC
  rw [(hT_lt h).2, (hP_lt h).2, show (1 : Int32) = nI 1 from rfl, nI_add, nI_add]
theorem gc_free_le {mem : Nat → Int32} {hf base ob free low scan tend nh : Nat} {α : ab_A} {ad od : Nat → Nat} {Mv Mk Sn : List Nat} {brf : Nat → Nat → Nat} (I : gc_I mem hf base ob free low scan tend nh α ad od Mv Mk Sn brf) : base ≤ scan ∧ scan ≤ nh ∧ nh ≤ free ∧ free ≤ low ∧ low ≤ base + hf ∧ free = base + gc_sum (aC α) Mv ∧ base + hf = low + gc_sum (aC α) Mk ∧ gc_sum (aC α) Mv ≤ gc_sum (aC α) Sn := by
  obtain ⟨⟨h1, h2, h3⟩, ⟨-, -, -, -, n1, -, -, s1, -⟩, c1, c2, ⟨L1, L2, rfl, k1, k2⟩, -⟩ := I
  have e1 := gc_chain_sum c1
  have e2 := gc_chain_sum c2
  have e3 := gc_chain_sum k1
  have e4 := gc_sum_app (cz := aC α) L1 L2
  have e5 := gc_sum_le (cz := aC α) _ _ n1 s1
  have e6 : base ≤ scan ∧ scan ≤ nh := by
    rcases k2 with k2 | ⟨L0, cur, k2, k3, k4, k5⟩
    · omega
    · subst k2
      have hi := gc_chain_in k1 (o := cur) (by simp)
      have : aC α cur = 1 + aT α cur + aP α cur := rfl
      omega
  omega
/-- one thing is moved -/
def gc_mm (mem : Nat → Int32) (a b n : Nat) : Nat → Int32 := fun x => if x = a then -(nI b) else if b ≤ x ∧ x < b + n then mem (a + (x - b)) else mem x
theorem gc_move {mem : Nat → Int32} {hf base ob free low scan tend nh : Nat} {α : ab_A} {ad od : Nat → Nat} {Mv Mk Sn : List Nat} {brf : Nat → Nat → Nat} (I : gc_I mem hf base ob free low scan tend nh α ad od Mv Mk Sn brf) {r : Nat} (hr : r ∈ Sn) (hm : r ∉ Mv) :
    free + aC α r ≤ low ∧ gc_I (gc_mm mem (od r) free (aC α r)) hf base ob (free + aC α r) low scan tend nh α (va_up ad r free) od (Mv ++ [r]) Mk Sn brf := by
  have F := gc_free_le I
  obtain ⟨⟨h1, h2, h3⟩, ⟨z1, z2, z3, z4, n1, n2, n3, s1, s2, s3⟩, c1, c2, sc, ⟨o1, o2, o3, o4, o5⟩, w1, w2, w3, w4, w5⟩ := I
  have hr0 : r ≠ 0 := fun z => z3 (z ▸ hr)
  have hrk : r ∉ Mk := fun z => s2 r z hr
  have nd : (Mv ++ [r]).Nodup := by
    rw [List.nodup_append]
    exact ⟨n1, by simp, fun a ha b hb z => by
      rw [List.mem_singleton] at hb
      subst hb; subst z; exact hm ha⟩
  have sub : ∀ o, o ∈ Mv ++ [r] → o ∈ Sn := fun o ho => by
    rcases List.mem_append.mp ho with h | h
    · exact s1 o h
    · rw [List.mem_singleton] at h; subst h; exact hr
  have hsum := gc_sum_le (cz := aC α) _ _ nd sub
  rw [gc_sum_app] at hsum
  have hone : gc_sum (aC α) [r] = aC α r := by simp [gc_sum]
  rw [hone] at hsum
  have hroom : free + aC α r ≤ low := by omega
  obtain ⟨b1, b2⟩ := o1 r hr
  have hC1 : aC α r = 1 + aT α r + aP α r := rfl
  have up : ∀ o, o ≠ r → va_up ad r free o = ad o := fun o h => by simp [va_up, h]
  have upr : va_up ad r free r = free := by simp [va_up]
  have ne1 : ∀ o, o = 0 ∨ o ∈ Mv ∨ o ∈ Mk → o ≠ r := by
    intro o h z
    subst z
    rcases h with h | h | h
    · exact hr0 h
    · exact hm h
    · exact hrk h
  have bw : ∀ (q : Nat) (w : Int32), gc_bw ad Mv Mk q w → gc_bw (va_up ad r free) (Mv ++ [r]) Mk q w := by
    rintro q w ⟨e, h⟩
    refine ⟨by rw [up q (ne1 q h)]; exact e, ?_⟩
    rcases h with h | h | h
    · exact Or.inl h
    · exact Or.inr (Or.inl (List.mem_append_left _ h))
    · exact Or.inr (Or.inr h)
  have gw : ∀ (q : Nat) (w : Int32), gc_gw ad od Mv Mk Sn q w → gc_gw (va_up ad r free) od (Mv ++ [r]) Mk Sn q w := by
    rintro q w (h | h)
    · exact Or.inl (bw q w h)
    · exact Or.inr h
  -- cells of the half in use that were there stay
  have keep : ∀ x, (base ≤ x ∧ x < free) ∨ (low ≤ x ∧ x < base + hf) → gc_mm mem (od r) free (aC α r) x = mem x := by
    intro x hx
    unfold gc_mm
    rw [if_neg (by omega), if_neg (by omega)]
  have keepO : ∀ x, ob ≤ x → x < ob + hf → x ≠ od r → gc_mm mem (od r) free (aC α r) x = mem x := by
    intro x h4 h5 h6
    unfold gc_mm
    rw [if_neg h6, if_neg (by omega)]
  have blk : ∀ o, o ∈ Mv ∨ o ∈ Mk → (∀ i, i < aC α o → (base ≤ ad o + i ∧ ad o + i < free) ∨ (low ≤ ad o + i ∧ ad o + i < base + hf)) := by
    intro o ho i hi
    rcases ho with ho | ho
    · have := gc_chain_in c1 ho
      omega
    · have := gc_chain_in c2 ho
      omega
  have kb : ∀ o, o ∈ Mv ∨ o ∈ Mk → ∀ i, i < aC α o → gc_mm mem (od r) free (aC α r) (ad o + i) = mem (ad o + i) := fun o ho i hi => keep _ (blk o ho i hi)
  have nw : ∀ i, i < aC α r → gc_mm mem (od r) free (aC α r) (free + i) = mem (od r + i) := by
    intro i hi
    unfold gc_mm
    rw [if_neg (by omega), if_pos (by omega)]
    congr 1
    omega
  obtain ⟨q1, q2, q3⟩ := o4 r hr hm
  refine ⟨hroom, ⟨h1, h2, h3⟩, ⟨by rw [up 0 (Ne.symm hr0)]; exact z1, z2, z3, z4, nd, n2, n3, sub, s2, s3⟩, ?_, ?_, ?_, ⟨o1, o2, ?_, ?_, o5⟩, ?_, ?_, ?_, ?_, ?_⟩
  · refine (gc_chain_app Mv).mpr ⟨free, gc_chain_congr (fun o ho => ⟨up o (ne1 o (Or.inr (Or.inl ho))), rfl⟩) c1, upr, rfl⟩
  · exact gc_chain_congr (fun o ho => ⟨up o (ne1 o (Or.inr (Or.inr ho))), rfl⟩) c2
  · obtain ⟨L1, L2, e1, k1, k2⟩ := sc
    refine ⟨L1, L2 ++ [r], by rw [e1, List.append_assoc], gc_chain_congr (fun o ho => ⟨up o (ne1 o (Or.inr (Or.inl (by rw [e1]; exact List.mem_append_left _ ho)))), rfl⟩) k1, ?_⟩
    rcases k2 with k2 | ⟨L0, cur, k2, k3, k4, k5⟩
    · exact Or.inl k2
    · have hc : cur ∈ Mv := by rw [e1, k2]; simp
      have hu := up cur (ne1 cur (Or.inr (Or.inl hc)))
      exact Or.inr ⟨L0, cur, k2, by rw [hu]; exact k3, k4, by rw [hu]; exact k5⟩
  · intro o ho
    rcases List.mem_append.mp ho with h | h
    · have hne := ne1 o (Or.inr (Or.inl h))
      rw [up o hne, keepO _ (o1 o (s1 o h)).1 (by have := o1 o (s1 o h); have : aC α o = 1 + aT α o + aP α o := rfl; omega) (fun z => by
        have hd := o2 o r (s1 o h) hr hne
        have : aC α o = 1 + aT α o + aP α o := rfl
        omega)]
      exact o3 o h
    · rw [List.mem_singleton] at h
      subst h
      rw [upr]
      unfold gc_mm
      rw [if_pos rfl]
  · intro o ho hn
    have hnm : o ∉ Mv := fun z => hn (List.mem_append_left _ z)
    have hne : o ≠ r := fun z => hn (by rw [z]; simp)
    obtain ⟨a1, a2, a3⟩ := o4 o ho hnm
    have hb := o1 o ho
    have hd := o2 o r ho hr hne
    have hCo : aC α o = 1 + aT α o + aP α o := rfl
    refine ⟨by rw [keepO _ (by omega) (by omega) (by omega)]; exact a1, fun j hj => ?_, fun j hj => ?_⟩
    · rw [keepO _ (by omega) (by omega) (by omega)]; exact a2 j hj
    · rw [keepO _ (by omega) (by omega) (by omega)]; exact a3 j hj
  · intro o ho
    have ho' : o = r ∨ (o ≠ r ∧ (o ∈ Mv ∨ o ∈ Mk)) := by
      by_cases hz : o = r
      · exact Or.inl hz
      · refine Or.inr ⟨hz, ?_⟩
        rcases ho with h | h
        · rcases List.mem_append.mp h with h | h
          · exact Or.inl h
          · exact absurd (List.mem_singleton.mp h) hz
        · exact Or.inr h
    rcases ho' with rfl | ⟨hne, ho'⟩
    · rw [upr]
      refine ⟨(nw 0 (by omega)).trans q1, fun j hj => ?_⟩
      rw [show free + 1 + aT α o + j = free + (1 + aT α o + j) by omega, nw _ (by omega), show od o + (1 + aT α o + j) = od o + 1 + aT α o + j by omega]
      exact q3 j hj
    · rw [up o hne]
      obtain ⟨a1, a2⟩ := w1 o ho'
      have hCo : aC α o = 1 + aT α o + aP α o := rfl
      refine ⟨by rw [show ad o = ad o + 0 from rfl, kb o ho' 0 (by omega)]; exact a1, fun j hj => ?_⟩
      rw [show ad o + 1 + aT α o + j = ad o + (1 + aT α o + j) by omega, kb o ho' _ (by omega), show ad o + (1 + aT α o + j) = ad o + 1 + aT α o + j by omega]
      exact a2 j hj
  · intro o j ho hj
    have hne := ne1 o (Or.inr (Or.inr ho))
    have hCo : aC α o = 1 + aT α o + aP α o := rfl
    rw [up o hne, show ad o + 1 + j = ad o + (1 + j) by omega, kb o (Or.inr ho) _ (by omega), show ad o + (1 + j) = ad o + 1 + j by omega]
    exact bw _ _ (w2 o j ho hj)
  · intro o j ho hj hs
    rcases List.mem_append.mp ho with h | h
    · have hne := ne1 o (Or.inr (Or.inl h))
      have hCo : aC α o = 1 + aT α o + aP α o := rfl
      rw [up o hne] at hs ⊢
      rw [show ad o + 1 + j = ad o + (1 + j) by omega, kb o (Or.inl h) _ (by omega), show ad o + (1 + j) = ad o + 1 + j by omega]
      exact bw _ _ (w3 o j h hj hs)
    · rw [List.mem_singleton] at h
      subst h
      rw [upr] at hs
      omega
  · intro o j ho hj
    rcases List.mem_append.mp ho with h | h
    · have hne := ne1 o (Or.inr (Or.inl h))
      have hCo : aC α o = 1 + aT α o + aP α o := rfl
      rw [up o hne, show ad o + 1 + j = ad o + (1 + j) by omega, kb o (Or.inl h) _ (by omega), show ad o + (1 + j) = ad o + 1 + j by omega]
      exact gw _ _ (w4 o j h hj)
    · rw [List.mem_singleton] at h
      subst h
      rw [upr, show free + 1 + j = free + (1 + j) by omega, nw _ (by omega), show od o + (1 + j) = od o + 1 + j by omega, (q2 j hj).2]
      rcases o5 o j hr hj with h0 | h0
      · rw [(q2 j hj).1, h0]
        exact Or.inl ⟨by rw [up 0 (Ne.symm hr0), z1, z2], Or.inl rfl⟩
      · exact Or.inr ⟨(q2 j hj).1, h0⟩
  · intro o j ho hj hb
    rcases List.mem_append.mp ho with h | h
    · have hne := ne1 o (Or.inr (Or.inl h))
      have hCo : aC α o = 1 + aT α o + aP α o := rfl
      rw [up o hne]
      rcases w5 o j h hj hb with h5 | ⟨h5, h6⟩
      · exact Or.inl (List.mem_append_left _ h5)
      · refine Or.inr ⟨h5, ?_⟩
        rw [show ad o + 1 + j = ad o + (1 + j) by omega, kb o (Or.inl h) _ (by omega), show ad o + (1 + j) = ad o + 1 + j by omega]
        exact h6
    · rw [List.mem_singleton] at h
      subst h
      refine Or.inr ⟨by rw [upr]; omega, ?_⟩
      rw [upr, show free + 1 + j = free + (1 + j) by omega, nw _ (by omega), show od o + (1 + j) = od o + 1 + j by omega]
      exact (q2 j hj).1
end
section
/-! ===== THE CELLS' FUNCTIONS, WHERE THE ADDRESSES ARE IN RANGE; placeInUse ===== -/
theorem gc_valI {κ : sh_K} {c : sh_C} {la x : Nat} (hl : kLast κ = nI la) (hb : la < 2 ^ 31) (h1 : 1 ≤ x) (h2 : x ≤ la) : sh_val κ c (nI x) = c.2.2.1 x := by
  unfold sh_val
  rw [if_neg (by rw [show (1 : Int32) = nI 1 from rfl]; exact nI_nlt h1 (by omega)), if_pos (by rw [hl]; exact nI_le h2 hb), nI_clamp (by omega)]
theorem gc_writeI {κ : sh_K} {c : sh_C} {la x : Nat} {v : Int32} (hl : kLast κ = nI la) (hb : la < 2 ^ 31) (h1 : 1 ≤ x) (h2 : x ≤ la) : (sh_write κ c (nI x) v).2.2.1 = upd c.2.2.1 x v := by
  unfold sh_write sh_put
  rw [if_neg (by rw [show (1 : Int32) = nI 1 from rfl]; exact nI_nlt h1 (by omega)), if_pos (by rw [hl]; exact nI_le h2 hb), nI_clamp (by omega)]
  rfl
theorem gc_touchM {κ : sh_K} {c : sh_C} : (sh_touch κ c).2.2 = c.2.2 := rfl
theorem gc_copyN {κ : sh_K} {la a b : Nat} (hl : kLast κ = nI la) (hb : la < 2 ^ 31) : ∀ (n i : Nat) (c : sh_C), 1 ≤ a + i → 1 ≤ b + i → a + i + n ≤ la + 1 → b + i + n ≤ la + 1 → (a + n ≤ b ∨ b + n ≤ a) →
    (sh_copyN κ c (nI a) (nI b) (nI i) n).2.2.1 = fun x => if b + i ≤ x ∧ x < b + i + n then c.2.2.1 (a + (x - b)) else c.2.2.1 x
  | 0, i, c, _, _, _, _, _ => by
    funext x
    rw [if_neg (by omega)]
    rfl
  | n + 1, i, c, h1, h2, h3, h4, h5 => by
    show (sh_copyN κ (sh_write κ (sh_touch κ c) (nI b + nI i) (sh_val κ c (nI a + nI i))) (nI a) (nI b) (nI i + 1) n).2.2.1 = _
    rw [nI_add, nI_add, nI_1, gc_valI hl hb h1 (by omega), gc_copyN hl hb n (i + 1) _ (by omega) (by omega) (by omega) (by omega) (by omega), gc_writeI hl hb h2 (by omega), gc_touchM]
    funext x
    by_cases hx : b + (i + 1) ≤ x ∧ x < b + (i + 1) + n
    · rw [if_pos hx, if_pos (by omega), pk_un (by omega)]
    · rw [if_neg hx]
      by_cases hy : x = b + i
      · subst hy
        rw [if_pos (by omega), pk_us, show b + i - b = i by omega]
      · rw [if_neg (by omega), pk_un hy]
theorem gc_neg {a : Nat} (h0 : 1 ≤ a) (h : a < 2 ^ 31) : -(nI a) < 0 := by
  rw [Int32.lt_iff_toInt_lt, sb_negT h, Int32.toInt_zero]
  omega
theorem gc_oldNo {κ : sh_K} {σ : sh_S} {hf base x : Nat} (hk : kHalf κ = nI hf) (hB : sBase σ = nI base) (hb : base + hf < 2 ^ 31) (h : x = 0 ∨ base ≤ x ∧ x < base + hf) : sh_old κ σ (nI x) = 0 := by
  unfold sh_old
  rcases h with h | ⟨h1, h2⟩
  · subst h
    rw [if_pos nI_0]
  · by_cases h0 : nI x = 0
    · rw [if_pos h0]
    · rw [if_neg h0, hB, hk, nI_add, if_neg (nI_nlt h1 (by omega)), if_pos (nI_lt h2 hb)]
theorem gc_oldYes {κ : sh_K} {σ : sh_S} {hf base x : Nat} (hk : kHalf κ = nI hf) (hB : sBase σ = nI base) (hb : base + hf < 2 ^ 31) (h0 : 1 ≤ x) (h2 : x < 2 ^ 31) (h : x < base ∨ base + hf ≤ x) : ¬ sh_old κ σ (nI x) = 0 := by
  unfold sh_old
  rw [if_neg (nI_ne0 h0 h2), hB, hk, nI_add]
  rcases h with h | h
  · rw [if_pos (nI_lt h (by omega))]; decide
  · by_cases h5 : nI x < nI base
    · rw [if_pos h5]; decide
    · rw [if_neg h5, if_neg (nI_nlt h h2)]; decide
/-- what moves keep: who stands in the half in use stays there -/
def gc_ext (ad ad' : Nat → Nat) (Mv Mv' Mk : List Nat) : Prop := (∀ o, o = 0 ∨ o ∈ Mv ∨ o ∈ Mk → ad' o = ad o) ∧ ∀ o, o ∈ Mv → o ∈ Mv'
theorem gc_ext.rf {ad : Nat → Nat} {Mv Mk : List Nat} : gc_ext ad ad Mv Mv Mk := ⟨fun _ _ => rfl, fun _ h => h⟩
theorem gc_ext.tr {ad ad' ad'' : Nat → Nat} {Mv Mv' Mv'' Mk : List Nat} (h : gc_ext ad ad' Mv Mv' Mk) (h2 : gc_ext ad' ad'' Mv' Mv'' Mk) : gc_ext ad ad'' Mv Mv'' Mk :=
  ⟨fun o ho => (h2.1 o (ho.imp id (Or.imp (h.2 o) id))).trans (h.1 o ho), fun o ho => h2.2 o (h.2 o ho)⟩
theorem gc_ext.bw {ad ad' : Nat → Nat} {Mv Mv' Mk : List Nat} (h : gc_ext ad ad' Mv Mv' Mk) {r : Nat} {w : Int32} (hw : gc_bw ad Mv Mk r w) : gc_bw ad' Mv' Mk r w :=
  ⟨by rw [h.1 r hw.2]; exact hw.1, hw.2.imp id (Or.imp (h.2 r) id)⟩
theorem gc_ext.gw {ad ad' od : Nat → Nat} {Mv Mv' Mk Sn : List Nat} (h : gc_ext ad ad' Mv Mv' Mk) {r : Nat} {w : Int32} (hw : gc_gw ad od Mv Mk Sn r w) : gc_gw ad' od Mv' Mk Sn r w := by
  rcases hw with hw | hw
  · exact Or.inl (h.bw hw)
  · exact Or.inr hw
theorem gc_piu {κ : sh_K} {σ : sh_S} {hf base ob free low scan tend nh : Nat} {α : ab_A} {ad od : Nat → Nat} {Mv Mk Sn : List Nat} {brf : Nat → Nat → Nat}
    (k1 : kHalf κ = nI hf) (k2 : kLast κ = nI (2 * hf)) (I : gc_I (sMem σ) hf base ob free low scan tend nh α ad od Mv Mk Sn brf) (hB : sBase σ = nI base) (hF : sFree σ = nI free) {r : Nat} {w : Int32} (hw : gc_gw ad od Mv Mk Sn r w) :
    ∃ (ad' : Nat → Nat) (Mv' : List Nat) (free' : Nat), gc_I (sMem (sh_piu κ σ w).2) hf base ob free' low scan tend nh α ad' od Mv' Mk Sn brf ∧ gc_bw ad' Mv' Mk r (sh_piu κ σ w).1 ∧ (sh_piu κ σ w).2.2 = (uFree σ (nI free')).2 ∧ gc_ext ad ad' Mv Mv' Mk := by
  have F := gc_free_le I
  have I0 := I
  obtain ⟨⟨h1, h2, h3⟩, ⟨z1, z2, z3, z4, n1, n2, n3, s1, s2, s3⟩, c1, c2, -, ⟨o1, o2, o3, o4, o5⟩, w1, -⟩ := I
  have same : sh_old κ σ w = 0 → gc_bw ad Mv Mk r w → ∃ (ad' : Nat → Nat) (Mv' : List Nat) (free' : Nat), gc_I (sMem (sh_piu κ σ w).2) hf base ob free' low scan tend nh α ad' od Mv' Mk Sn brf ∧ gc_bw ad' Mv' Mk r (sh_piu κ σ w).1 ∧ (sh_piu κ σ w).2.2 = (uFree σ (nI free')).2 ∧ gc_ext ad ad' Mv Mv' Mk := by
    intro ho hb
    have e : sh_piu κ σ w = (w, σ) := by unfold sh_piu; rw [if_pos ho]
    rw [e]
    exact ⟨ad, Mv, free, I0, hb, by rw [← hF], gc_ext.rf⟩
  rcases hw with hb | ⟨e, hr⟩
  · refine same ?_ hb
    rw [hb.1]
    refine gc_oldNo k1 hB (by omega) ?_
    rcases hb.2 with h | h | h
    · subst h; exact Or.inl z1
    · have hi := gc_chain_in c1 h
      have : aC α r = 1 + aT α r + aP α r := rfl
      right; omega
    · have hi := gc_chain_in c2 h
      have : aC α r = 1 + aT α r + aP α r := rfl
      right; omega
  · have b := o1 r hr
    have hCr : aC α r = 1 + aT α r + aP α r := rfl
    have ho : ¬ sh_old κ σ w = 0 := by
      rw [e]
      exact gc_oldYes k1 hB (by omega) (by omega) (by omega) (by omega)
    have hv : sh_val κ σ.1 w = sMem σ (od r) := by rw [e]; exact gc_valI k2 (by omega) (by omega) (by omega)
    by_cases hm : r ∈ Mv
    · have hi := gc_chain_in c1 hm
      have ev : sh_val κ σ.1 w = -(nI (ad r)) := by rw [hv]; exact o3 r hm
      have eq : sh_piu κ σ w = (nI (ad r), uC σ (sh_touch κ σ.1)) := by
        unfold sh_piu
        rw [if_neg ho]
        show (if sh_val κ σ.1 w < 0 then _ else _) = _
        rw [ev, if_pos (gc_neg (by omega) (by omega)), Int32.neg_neg]
      rw [eq]
      exact ⟨ad, Mv, free, I0, ⟨rfl, Or.inr (Or.inl hm)⟩, by rw [← hF], gc_ext.rf⟩
    · obtain ⟨hroom, I'⟩ := gc_move I0 hr hm
      obtain ⟨q1, -, -⟩ := o4 r hr hm
      have hok := s3 r (Or.inl hr)
      have ev : sh_val κ σ.1 w = aH α r := by rw [hv]; exact q1
      have eq : sh_piu κ σ w = (nI free, uFree (uC σ (sh_write κ (sh_copyN κ (sh_write κ (sh_touch κ σ.1) (nI free) (aH α r)) (nI (od r)) (nI free) (nI 1) (aC α r - 1)) (nI (od r)) (-(nI free)))) (nI (free + aC α r))) := by
        unfold sh_piu
        rw [if_neg ho]
        show (if sh_val κ σ.1 w < 0 then _ else _) = _
        rw [ev, if_neg (by have := hok.1; rw [Int32.lt_iff_toInt_lt] at this ⊢; omega)]
        rw [hC_eq, nI_clamp (by have := hok.2; omega), hF, nI_add, e]
        rfl
      have em : sMem (sh_piu κ σ w).2 = gc_mm (sMem σ) (od r) free (aC α r) := by
        rw [eq]
        show (sh_write κ (sh_copyN κ (sh_write κ (sh_touch κ σ.1) (nI free) (aH α r)) (nI (od r)) (nI free) (nI 1) (aC α r - 1)) (nI (od r)) (-(nI free))).2.2.1 = _
        rw [gc_writeI k2 (by omega) (by omega) (by omega), gc_copyN k2 (by omega) _ _ _ (by omega) (by omega) (by omega) (by omega) (by omega), gc_writeI k2 (by omega) (by omega) (by omega), gc_touchM]
        funext x
        unfold gc_mm
        by_cases hx : x = od r
        · subst hx
          rw [pk_us, if_pos rfl]
        · rw [pk_un hx, if_neg hx]
          by_cases hy : free + 1 ≤ x ∧ x < free + 1 + (aC α r - 1)
          · rw [if_pos hy, if_pos (by omega), pk_un (by omega)]
          · rw [if_neg hy]
            by_cases hz : x = free
            · subst hz
              rw [pk_us, if_pos (by omega), Nat.sub_self, Nat.add_zero]
              exact q1.symm
            · rw [pk_un hz, if_neg (by omega)]
      refine ⟨va_up ad r free, Mv ++ [r], free + aC α r, by rw [em]; exact I', ?_, ?_, ?_⟩
      · rw [eq]
        exact ⟨by simp [va_up], Or.inr (Or.inl (by simp))⟩
      · rw [eq]
      · refine ⟨fun o h => ?_, fun o h => List.mem_append_left _ h⟩
        have hne : o ≠ r := by
          intro z
          subst z
          rcases h with h | h | h
          · subst h; exact z3 hr
          · exact hm h
          · exact s2 o h hr
        simp [va_up, hne]
end
section
/-! ===== WRITING A REFERENCE, GOING ON, follow, link, work ===== -/
def abF (α : ab_A) (o j r : Nat) : ab_A := (α.1, fun p i => if p = o ∧ i = j then r else aF α p i, α.2.2)
theorem gc_inj {mem : Nat → Int32} {hf base ob free low scan tend nh : Nat} {α : ab_A} {ad od : Nat → Nat} {Mv Mk Sn : List Nat} {brf : Nat → Nat → Nat} (I : gc_I mem hf base ob free low scan tend nh α ad od Mv Mk Sn brf)
    {p q i i' : Nat} (hp : p ∈ Mv ∨ p ∈ Mk) (hq : q ∈ Mv ∨ q ∈ Mk) (hi : i < aC α p) (hi' : i' < aC α q) (h : ad p + i = ad q + i') : p = q ∧ i = i' := by
  have F := gc_free_le I
  obtain ⟨-, -, c1, c2, -⟩ := I
  by_cases hpq : p = q
  · subst hpq; exact ⟨rfl, by omega⟩
  · exfalso
    rcases hp with hp | hp <;> rcases hq with hq | hq
    · have := gc_chain_dis c1 hp hq hpq; omega
    · have a1 := gc_chain_in c1 hp; have a2 := gc_chain_in c2 hq; omega
    · have a1 := gc_chain_in c2 hp; have a2 := gc_chain_in c1 hq; omega
    · have := gc_chain_dis c2 hp hq hpq; omega
theorem gc_half {mem : Nat → Int32} {hf base ob free low scan tend nh : Nat} {α : ab_A} {ad od : Nat → Nat} {Mv Mk Sn : List Nat} {brf : Nat → Nat → Nat} (I : gc_I mem hf base ob free low scan tend nh α ad od Mv Mk Sn brf)
    {p i : Nat} (hp : p ∈ Mv ∨ p ∈ Mk) (hi : i < aC α p) : base ≤ ad p + i ∧ ad p + i < base + hf ∧ 1 ≤ ad p ∧ ad p + i ≤ 2 * hf ∧ ad p + i < 2 ^ 31 := by
  have F := gc_free_le I
  obtain ⟨⟨h1, h2, -⟩, -, c1, c2, -⟩ := I
  rcases hp with hp | hp
  · have := gc_chain_in c1 hp; omega
  · have := gc_chain_in c2 hp; omega
theorem gc_wr {mem : Nat → Int32} {hf base ob free low scan tend nh : Nat} {α : ab_A} {ad od : Nat → Nat} {Mv Mk Sn : List Nat} {brf : Nat → Nat → Nat} (I : gc_I mem hf base ob free low scan tend nh α ad od Mv Mk Sn brf)
    {o j r : Nat} {v : Int32} (ho : o ∈ Mv ∨ o ∈ Mk) (hj : j < aT α o) (hb : gc_bw ad Mv Mk r v) (hg : o ∈ Mv → brf o j = 0 ∨ brf o j ∈ Mv) :
    gc_I (upd mem (ad o + 1 + j) v) hf base ob free low scan tend nh (abF α o j r) ad od Mv Mk Sn brf := by
  have F := gc_free_le I
  have inj := fun {p i : Nat} (hp : p ∈ Mv ∨ p ∈ Mk) (hi : i < aC α p) (h : ad p + i = ad o + (1 + j)) => gc_inj I hp ho hi (show 1 + j < aC α o by have : aC α o = 1 + aT α o + aP α o := rfl; omega) h
  have hx := gc_half I ho (i := 1 + j) (by have : aC α o = 1 + aT α o + aP α o := rfl; omega)
  obtain ⟨⟨h1, h2, h3⟩, ⟨z1, z2, z3, z4, n1, n2, n3, s1, s2, s3⟩, c1, c2, sc, ⟨o1, o2, o3, o4, o5⟩, w1, w2, w3, w4, w5⟩ := I
  have hso : ∀ p, p ∈ Sn → p ∉ Mv → p ≠ o := by
    intro p h4 h5 z
    subst z
    rcases ho with ho | ho
    · exact h5 ho
    · exact s2 p ho h4
  have kO : ∀ x, ob ≤ x → x < ob + hf → upd mem (ad o + 1 + j) v x = mem x := fun x h4 h5 => pk_un (by omega)
  have eqF : ∀ p i, ¬ (p = o ∧ i = j) → aF (abF α o j r) p i = aF α p i := fun p i h => by
    show (if p = o ∧ i = j then r else aF α p i) = _
    rw [if_neg h]
  have eqS : aF (abF α o j r) o j = r := by
    show (if o = o ∧ j = j then r else aF α o j) = _
    rw [if_pos ⟨rfl, rfl⟩]
  have kN : ∀ p i, p ∈ Mv ∨ p ∈ Mk → i < aC α p → ¬ (p = o ∧ i = 1 + j) → upd mem (ad o + 1 + j) v (ad p + i) = mem (ad p + i) := fun p i hp hi hne => pk_un (fun z => hne (inj hp hi (by omega)))
  refine ⟨⟨h1, h2, h3⟩, ⟨z1, z2, z3, z4, n1, n2, n3, s1, s2, s3⟩, c1, c2, sc, ⟨o1, o2, ?_, ?_, o5⟩, ?_, ?_, ?_, ?_, ?_⟩
  · intro p hp
    have b := o1 p (s1 p hp)
    have : aC α p = 1 + aT α p + aP α p := rfl
    rw [kO _ (by omega) (by omega)]
    exact o3 p hp
  · intro p hp hn
    have b := o1 p hp
    have hC : aC α p = 1 + aT α p + aP α p := rfl
    obtain ⟨a1, a2, a3⟩ := o4 p hp hn
    refine ⟨by rw [kO _ (by omega) (by omega)]; exact a1, fun i hi => ?_, fun i hi => ?_⟩
    · have hi : i < aT α p := hi
      rw [kO _ (by omega) (by omega), eqF p i (fun z => hso p hp hn z.1)]
      exact a2 i hi
    · have hi : i < aP α p := hi
      show upd mem (ad o + 1 + j) v (od p + 1 + aT α p + i) = aI α p i
      rw [kO _ (by omega) (by omega)]
      exact a3 i hi
  · intro p hp
    have hC : aC α p = 1 + aT α p + aP α p := rfl
    obtain ⟨a1, a2⟩ := w1 p hp
    refine ⟨?_, fun i hi => ?_⟩
    · rw [show ad p = ad p + 0 from rfl, kN p 0 hp (by omega) (by omega)]
      exact a1
    · have hi : i < aP α p := hi
      show upd mem (ad o + 1 + j) v (ad p + 1 + aT α p + i) = aI α p i
      rw [show ad p + 1 + aT α p + i = ad p + (1 + aT α p + i) by omega, kN p _ hp (by omega) (fun z => by obtain ⟨rfl, z⟩ := z; omega), show ad p + (1 + aT α p + i) = ad p + 1 + aT α p + i by omega]
      exact a2 i hi
  · intro p i hp hi
    have hi : i < aT α p := hi
    have hC : aC α p = 1 + aT α p + aP α p := rfl
    by_cases hz : p = o ∧ i = j
    · obtain ⟨rfl, rfl⟩ := hz
      rw [eqS, pk_us]; exact hb
    · rw [eqF p i hz, show ad p + 1 + i = ad p + (1 + i) by omega, kN p _ (Or.inr hp) (by omega) (fun z => hz ⟨z.1, by omega⟩), show ad p + (1 + i) = ad p + 1 + i by omega]
      exact w2 p i hp hi
  · intro p i hp hi hs
    have hi : i < aT α p := hi
    have hC : aC α p = 1 + aT α p + aP α p := rfl
    by_cases hz : p = o ∧ i = j
    · obtain ⟨rfl, rfl⟩ := hz
      rw [eqS, pk_us]; exact hb
    · rw [eqF p i hz, show ad p + 1 + i = ad p + (1 + i) by omega, kN p _ (Or.inl hp) (by omega) (fun z => hz ⟨z.1, by omega⟩), show ad p + (1 + i) = ad p + 1 + i by omega]
      exact w3 p i hp hi hs
  · intro p i hp hi
    have hi : i < aT α p := hi
    have hC : aC α p = 1 + aT α p + aP α p := rfl
    by_cases hz : p = o ∧ i = j
    · obtain ⟨rfl, rfl⟩ := hz
      rw [eqS, pk_us]; exact Or.inl hb
    · rw [eqF p i hz, show ad p + 1 + i = ad p + (1 + i) by omega, kN p _ (Or.inl hp) (by omega) (fun z => hz ⟨z.1, by omega⟩), show ad p + (1 + i) = ad p + 1 + i by omega]
      exact w4 p i hp hi
  · intro p i hp hi hne
    have hi : i < aT α p := hi
    have hC : aC α p = 1 + aT α p + aP α p := rfl
    by_cases hz : p = o ∧ i = j
    · obtain ⟨rfl, rfl⟩ := hz
      rcases hg hp with h | h
      · exact absurd h hne
      · exact Or.inl h
    · rcases w5 p i hp hi hne with h | ⟨h, h'⟩
      · exact Or.inl h
      · refine Or.inr ⟨h, ?_⟩
        rw [show ad p + 1 + i = ad p + (1 + i) by omega, kN p _ (Or.inl hp) (by omega) (fun z => hz ⟨z.1, by omega⟩), show ad p + (1 + i) = ad p + 1 + i by omega]
        exact h'
theorem gc_adv {mem : Nat → Int32} {hf base ob free low scan tend nh scan' tend' nh' : Nat} {α : ab_A} {ad od : Nat → Nat} {Mv Mk Sn : List Nat} {brf : Nat → Nat → Nat} (I : gc_I mem hf base ob free low scan tend nh α ad od Mv Mk Sn brf)
    (sc : gc_sc ad α Mv base scan' tend' nh') (h : ∀ o j, o ∈ Mv → j < aT α o → scan ≤ ad o + 1 + j → ad o + 1 + j < scan' → gc_bw ad Mv Mk (aF α o j) (mem (ad o + 1 + j)) ∧ (brf o j = 0 ∨ brf o j ∈ Mv)) :
    gc_I mem hf base ob free low scan' tend' nh' α ad od Mv Mk Sn brf := by
  obtain ⟨h0, st, c1, c2, -, od', w1, w2, w3, w4, w5⟩ := I
  refine ⟨h0, st, c1, c2, sc, od', w1, w2, ?_, w4, ?_⟩
  · intro o j ho hj hs
    by_cases hz : ad o + 1 + j < scan
    · exact w3 o j ho hj hz
    · exact (h o j ho hj (by omega) hs).1
  · intro o j ho hj hne
    rcases w5 o j ho hj hne with h5 | ⟨h5, h6⟩
    · exact Or.inl h5
    · by_cases hz : ad o + 1 + j < scan'
      · rcases (h o j ho hj h5 hz).2 with h7 | h7
        · exact absurd h7 hne
        · exact Or.inl h7
      · exact Or.inr ⟨by omega, h6⟩
theorem gc_follow {κ : sh_K} {σ : sh_S} {hf base ob free low scan tend nh : Nat} {α : ab_A} {ad od : Nat → Nat} {Mv Mk Sn : List Nat} {brf : Nat → Nat → Nat}
    (k1 : kHalf κ = nI hf) (k2 : kLast κ = nI (2 * hf)) (I : gc_I (sMem σ) hf base ob free low scan tend nh α ad od Mv Mk Sn brf) (hB : sBase σ = nI base) (hF : sFree σ = nI free) {o j : Nat} (ho : o ∈ Mv ∨ o ∈ Mk) (hj : j < aT α o) :
    ∃ (ad' : Nat → Nat) (Mv' : List Nat) (free' : Nat), gc_I (sMem (sh_follow κ σ (nI (ad o + 1 + j))).2) hf base ob free' low scan tend nh α ad' od Mv' Mk Sn brf ∧ gc_bw ad' Mv' Mk (aF α o j) (sh_follow κ σ (nI (ad o + 1 + j))).1 ∧ (sh_follow κ σ (nI (ad o + 1 + j))).2.2 = (uFree σ (nI free')).2 ∧ gc_ext ad ad' Mv Mv' Mk ∧ (o ∈ Mv → brf o j = 0 ∨ brf o j ∈ Mv') := by
  have hx := gc_half I ho (i := 1 + j) (by have : aC α o = 1 + aT α o + aP α o := rfl; omega)
  have hv : sh_val κ σ.1 (nI (ad o + 1 + j)) = sMem σ (ad o + 1 + j) := gc_valI k2 (by have := I.1.1; omega) (by omega) (by omega)
  have hw : gc_gw ad od Mv Mk Sn (aF α o j) (sMem σ (ad o + 1 + j)) := by
    obtain ⟨-, -, -, -, -, -, -, w2, -, w4, -⟩ := I
    rcases ho with ho | ho
    · exact w4 o j ho hj
    · exact Or.inl (w2 o j ho hj)
  obtain ⟨ad', Mv', free', I', b', e', x'⟩ := gc_piu (σ := uC σ (sh_touch κ σ.1)) k1 k2 I hB hF hw
  have eq : sh_follow κ σ (nI (ad o + 1 + j)) = sh_piu κ (uC σ (sh_touch κ σ.1)) (sMem σ (ad o + 1 + j)) := by unfold sh_follow; rw [hv]
  rw [eq]
  refine ⟨ad', Mv', free', I', b', e', x', fun hm => ?_⟩
  obtain ⟨⟨h1, h2, h3⟩, ⟨z1, z2, z3, z4, n1, n2, n3, s1, s2, s3⟩, c1, c2, sc, ⟨o1, o2, o3, o4, o5⟩, w1, w2, w3, w4, w5⟩ := id I
  by_cases h0 : brf o j = 0
  · exact Or.inl h0
  refine Or.inr ?_
  rcases w5 o j hm hj h0 with h5 | ⟨-, h5⟩
  · exact x'.2 _ h5
  have ht : brf o j ∈ Sn := (o5 o j (s1 o hm) hj).resolve_left h0
  have bt := o1 _ ht
  have hCt : aC α (brf o j) = 1 + aT α (brf o j) + aP α (brf o j) := rfl
  rw [h5] at hw
  rcases hw with ⟨e1, hr⟩ | ⟨e1, hr⟩
  · exfalso
    rcases hr with hr | hr
    · rw [hr, z1] at e1
      have := (nI_eq (by omega) (by omega)).mp e1
      omega
    · have hy := gc_half I hr (i := 0) (by have : aC α (aF α o j) = 1 + aT α (aF α o j) + aP α (aF α o j) := rfl; omega)
      have := (nI_eq (by omega) (by omega)).mp e1
      omega
  · have br := o1 _ hr
    have hCr : aC α (aF α o j) = 1 + aT α (aF α o j) + aP α (aF α o j) := rfl
    have e2 := (nI_eq (by omega) (by omega)).mp e1
    have e3 : brf o j = aF α o j := by
      by_cases hz : brf o j = aF α o j
      · exact hz
      · have := o2 _ _ ht hr hz
        omega
    rw [e3]
    rcases b'.2 with h6 | h6 | h6
    · exact absurd (e3.trans h6) h0
    · exact h6
    · exact absurd hr (s2 _ h6)
theorem gc_link {κ : sh_K} {σ : sh_S} {hf base ob free low scan tend nh : Nat} {α : ab_A} {ad od : Nat → Nat} {Mv Mk Sn : List Nat} {brf : Nat → Nat → Nat}
    (k1 : kHalf κ = nI hf) (k2 : kLast κ = nI (2 * hf)) (I : gc_I (sMem σ) hf base ob free low scan tend nh α ad od Mv Mk Sn brf) (hB : sBase σ = nI base) (hF : sFree σ = nI free) {o j r : Nat} {v : Int32} (ho : o ∈ Mv ∨ o ∈ Mk) (hj : j < aT α o) (hb : gc_bw ad Mv Mk r v) :
    ∃ (ad' : Nat → Nat) (Mv' : List Nat) (free' : Nat), gc_I (sMem (sh_link κ σ (nI (ad o + 1 + j)) v)) hf base ob free' low scan tend nh (abF α o j r) ad' od Mv' Mk Sn brf ∧ (sh_link κ σ (nI (ad o + 1 + j)) v).2 = (uFree σ (nI free')).2 ∧ gc_ext ad ad' Mv Mv' Mk := by
  obtain ⟨ad', Mv', free', I', -, e', x', g'⟩ := gc_follow k1 k2 I hB hF ho hj
  have hx := gc_half I ho (i := 1 + j) (by have : aC α o = 1 + aT α o + aP α o := rfl; omega)
  have ho' : o ∈ Mv' ∨ o ∈ Mk := by
    rcases ho with h | h
    · exact Or.inl (x'.2 o h)
    · exact Or.inr h
  have ea : ad' o = ad o := x'.1 o (Or.inr ho)
  have I2 := gc_wr I' ho' hj (x'.bw hb) (fun hm => by
    by_cases h : o ∈ Mv
    · exact g' h
    · rcases ho with h9 | h9
      · exact absurd h9 h
      · exfalso
        obtain ⟨-, ⟨-, -, -, -, -, -, -, s1, s2, -⟩, -⟩ := I'
        exact s2 o h9 (s1 o hm))
  rw [ea] at I2
  refine ⟨ad', Mv', free', ?_, e', x'⟩
  have em : sMem (sh_link κ σ (nI (ad o + 1 + j)) v) = upd (sMem (sh_follow κ σ (nI (ad o + 1 + j))).2) (ad o + 1 + j) v := gc_writeI k2 (by have := I.1.1; omega) (by omega) (by omega)
  rw [em]
  exact I2
end
section
/-! ===== GOING ON THROUGH THE MOVED CELLS ===== -/
def gc_N (σ : sh_S) (base free low scan tend nh made beg : Nat) : Prop := sMade σ = nI made ∧ sBeg σ = nI beg ∧ sBase σ = nI base ∧ sFree σ = nI free ∧ sLow σ = nI low ∧ sScan σ = nI scan ∧ sTend σ = nI tend ∧ sNh σ = nI nh
theorem gc_N.free {σ σ' : sh_S} {base free low scan tend nh made beg free' : Nat} (h : gc_N σ base free low scan tend nh made beg) (e : σ'.2 = (uFree σ (nI free')).2) : gc_N σ' base free' low scan tend nh made beg ∧ sReg σ' = sReg σ := by
  obtain ⟨a1, a2, a3, a4, a5, a6, a7, a8⟩ := h
  obtain ⟨c, m⟩ := σ'
  have e : m = (uFree σ (nI free')).2 := e
  subst e
  exact ⟨⟨a1, a2, a3, rfl, a5, a6, a7, a8⟩, rfl⟩
theorem abF_id (α : ab_A) (o j : Nat) : abF α o j (aF α o j) = α := by
  obtain ⟨a, b, c⟩ := α
  show (a, (fun p i => if p = o ∧ i = j then b o j else b p i), c) = (a, b, c)
  congr 2
  funext p i
  by_cases h : p = o ∧ i = j
  · obtain ⟨rfl, rfl⟩ := h
    rw [if_pos ⟨rfl, rfl⟩]
  · rw [if_neg h]
theorem gc_ws1 {κ : sh_K} {σ : sh_S} {hf base ob free low scan tend nh made beg : Nat} {α : ab_A} {ad od : Nat → Nat} {Mv Mk Sn : List Nat} {brf : Nat → Nat → Nat}
    (k1 : kHalf κ = nI hf) (k2 : kLast κ = nI (2 * hf)) (N : gc_N σ base free low scan tend nh made beg) (I : gc_I (sMem σ) hf base ob free low scan tend nh α ad od Mv Mk Sn brf) (hs : scan < free) :
    ∃ (ad' : Nat → Nat) (Mv' : List Nat) (free' tend' nh' : Nat), gc_N (sh_ws1 κ σ (sMem σ scan)) base free' low scan tend' nh' made beg ∧ sReg (sh_ws1 κ σ (sMem σ scan)) = sReg σ ∧ gc_ext ad ad' Mv Mv' Mk ∧ free ≤ free' ∧ scan < tend' ∧ tend' < 2 ^ 31 ∧ tend' ≤ nh' ∧
      gc_I (sMem (sh_ws1 κ σ (sMem σ scan))) hf base ob free' low (if scan + 1 = tend' then nh' else scan + 1) tend' nh' α ad' od Mv' Mk Sn brf := by
  have F := gc_free_le I
  obtain ⟨⟨h1, h2, h3⟩, ⟨z1, z2, z3, z4, n1, n2, n3, s1, s2, s3⟩, c1, c2, ⟨L1, L2, e1, e2, e3⟩, ⟨o1, o2, o3, o4, o5⟩, w1, w2, w3, w4, w5⟩ := id I
  obtain ⟨a1, a2, a3, a4, a5, a6, a7, a8⟩ := id N
  by_cases hz : scan = nh
  · -- a head
    have hne : L2 ≠ [] := by
      intro z
      subst z
      rw [List.append_nil] at e1
      subst e1
      have q1 := gc_chain_sum c1
      have q2 := gc_chain_sum e2
      omega
    obtain ⟨cur, L3, rfl⟩ := List.exists_cons_of_ne_nil hne
    have hcur : cur ∈ Mv := by rw [e1]; simp
    have c1' := c1
    rw [e1] at c1'
    obtain ⟨mm, q1, q2, q3⟩ := (gc_chain_app L1).mp c1'
    have hmm : mm = nh := by
      have p1 := gc_chain_sum q1
      have p2 := gc_chain_sum e2
      omega
    subst hmm
    have hC : aC α cur = 1 + aT α cur + aP α cur := rfl
    have hok : aC α cur ≤ 16 := (s3 cur (Or.inl (s1 cur hcur))).2
    have hw : sMem σ scan = aH α cur := by rw [hz, ← q2]; exact (w1 cur (Or.inl hcur)).1
    have eq : sh_ws1 κ σ (sMem σ scan) = uNh (uTend σ (nI (scan + 1 + aT α cur))) (nI (scan + aC α cur)) := by
      unfold sh_ws1
      rw [if_pos (by rw [a6, a8, hz]), hw, hC_eq, (hT_lt (aH α cur)).2, a6, show (1 : Int32) = nI 1 from rfl, nI_add, nI_add, nI_add]
    rw [eq]
    refine ⟨ad, Mv, free, scan + 1 + aT α cur, scan + aC α cur, ⟨a1, a2, a3, a4, a5, a6, rfl, rfl⟩, rfl, gc_ext.rf, Nat.le_refl _, by omega, by omega, by omega, ?_⟩
    have hch : gc_chain ad (aC α) base (L1 ++ [cur]) (scan + aC α cur) := (gc_chain_app L1).mpr ⟨mm, e2, q2, by show mm + aC α cur = scan + aC α cur; rw [hz]⟩
    refine gc_adv I ⟨L1 ++ [cur], L3, by rw [e1]; simp, hch, ?_⟩ ?_
    · by_cases hT : scan + 1 = scan + 1 + aT α cur
      · rw [if_pos hT]; exact Or.inl rfl
      · rw [if_neg hT]
        exact Or.inr ⟨L1, cur, rfl, by omega, by omega, by omega⟩
    · intro o j ho hj g1 g2
      exfalso
      have hCo : aC α o = 1 + aT α o + aP α o := rfl
      have hin : ad o + 1 + j < scan + aC α cur := by
        by_cases hT : scan + 1 = scan + 1 + aT α cur
        · rw [if_pos hT] at g2; omega
        · rw [if_neg hT] at g2; omega
      have hz2 := gc_inj I (p := o) (q := cur) (i := 1 + j) (i' := ad o + 1 + j - scan) (Or.inl ho) (Or.inl hcur) (by omega) (by omega) (by omega)
      obtain ⟨rfl, hz3⟩ := hz2
      by_cases hT : scan + 1 = scan + 1 + aT α o
      · omega
      · rw [if_neg hT] at g2; omega
  · -- a reference
    rcases e3 with e3 | ⟨L0, cur, e3, e4, e5, e6⟩
    · exact absurd e3 hz
    subst e3
    have hcur : cur ∈ Mv := by rw [e1]; simp
    have hC : aC α cur = 1 + aT α cur + aP α cur := rfl
    obtain ⟨j, hj⟩ : ∃ j, scan = ad cur + 1 + j := ⟨scan - (ad cur + 1), by omega⟩
    have hjT : j < aT α cur := by omega
    have hin := gc_chain_in e2 (o := cur) (by simp)
    have hend : ad cur + aC α cur = nh := by
      obtain ⟨mm, q1, q2, q3⟩ := (gc_chain_app L0).mp e2
      have q3 : mm + aC α cur = nh := q3
      omega
    have hw : gc_gw ad od Mv Mk Sn (aF α cur j) (sMem σ scan) := by rw [hj]; exact w4 cur j hcur hjT
    obtain ⟨ad', Mv', free', I', b', e', x'⟩ := gc_piu k1 k2 I a3 a4 hw
    obtain ⟨N', r'⟩ := N.free e'
    have ea : ad' cur = ad cur := x'.1 cur (Or.inr (Or.inl hcur))
    have hcur' := x'.2 cur hcur
    have hgr : brf cur j = 0 ∨ brf cur j ∈ Mv' := by
      by_cases h0 : brf cur j = 0
      · exact Or.inl h0
      refine Or.inr ?_
      rcases w5 cur j hcur hjT h0 with h5 | ⟨-, h5⟩
      · exact x'.2 _ h5
      have ht : brf cur j ∈ Sn := (o5 cur j (s1 cur hcur) hjT).resolve_left h0
      have bt := o1 _ ht
      have hCt : aC α (brf cur j) = 1 + aT α (brf cur j) + aP α (brf cur j) := rfl
      rw [hj, h5] at hw
      rcases hw with ⟨g1, hr⟩ | ⟨g1, hr⟩
      · exfalso
        rcases hr with hr | hr
        · rw [hr, z1] at g1
          have := (nI_eq (by omega) (by omega)).mp g1
          omega
        · have hy := gc_half I hr (i := 0) (by have : aC α (aF α cur j) = 1 + aT α (aF α cur j) + aP α (aF α cur j) := rfl; omega)
          have := (nI_eq (by omega) (by omega)).mp g1
          omega
      · have br := o1 _ hr
        have hCr : aC α (aF α cur j) = 1 + aT α (aF α cur j) + aP α (aF α cur j) := rfl
        have g2 := (nI_eq (by omega) (by omega)).mp g1
        have g3 : brf cur j = aF α cur j := by
          by_cases hq : brf cur j = aF α cur j
          · exact hq
          · have := o2 _ _ ht hr hq
            omega
        rw [g3]
        rcases b'.2 with h6 | h6 | h6
        · exact absurd (g3.trans h6) h0
        · exact h6
        · exact absurd hr (s2 _ h6)
    have I2 := gc_wr I' (Or.inl hcur') hjT b' (fun _ => hgr)
    rw [abF_id, ea, ← hj] at I2
    obtain ⟨d1, d2, d3, d4, d5, d6, d7, d8⟩ := id N'
    have F' := gc_free_le I'
    have fin : ∀ σ2 : sh_S, σ2.2 = (sh_piu κ σ (sMem σ scan)).2.2 → sMem σ2 = upd (sMem (sh_piu κ σ (sMem σ scan)).2) scan (sh_piu κ σ (sMem σ scan)).1 → sh_ws1 κ σ (sMem σ scan) = σ2 → ∃ (ad' : Nat → Nat) (Mv' : List Nat) (free' tend' nh' : Nat), gc_N (sh_ws1 κ σ (sMem σ scan)) base free' low scan tend' nh' made beg ∧ sReg (sh_ws1 κ σ (sMem σ scan)) = sReg σ ∧ gc_ext ad ad' Mv Mv' Mk ∧ free ≤ free' ∧ scan < tend' ∧ tend' < 2 ^ 31 ∧ tend' ≤ nh' ∧
      gc_I (sMem (sh_ws1 κ σ (sMem σ scan))) hf base ob free' low (if scan + 1 = tend' then nh' else scan + 1) tend' nh' α ad' od Mv' Mk Sn brf := by
      intro σ2 g1 g2 g3
      rw [g3]
      have N2 := N.free (σ' := σ2) (g1.trans e')
      have hle : free ≤ free' := by
        have p1 := gc_sum_le (cz := aC α) _ _ n1 x'.2
        omega
      refine ⟨ad', Mv', free', tend, nh, N2.1, N2.2, x', hle, by omega, by omega, by omega, ?_⟩
      rw [g2]
      obtain ⟨L1', L2', p1, p2, p3⟩ := id I2.2.2.2.2.1
      refine gc_adv I2 ?_ ?_
      · rcases p3 with p3 | ⟨L0', cur', p4, p5, p6, p7⟩
        · exact absurd p3 hz
        · have hcc : cur' ∈ Mv' := by rw [p1, p4]; simp
          have hCc : aC α cur' = 1 + aT α cur' + aP α cur' := rfl
          refine ⟨L1', L2', p1, p2, ?_⟩
          by_cases hT : scan + 1 = tend
          · rw [if_pos hT]; exact Or.inl rfl
          · rw [if_neg hT]; exact Or.inr ⟨L0', cur', p4, by omega, by omega, p7⟩
      · intro o i ho hi g4 g5
        have hCo : aC α o = 1 + aT α o + aP α o := rfl
        have hin2 : ad' o + 1 + i < ad' cur + aC α cur := by
          by_cases hT : scan + 1 = tend
          · rw [if_pos hT] at g5; omega
          · rw [if_neg hT] at g5; omega
        obtain ⟨rfl, hz3⟩ := gc_inj I2 (p := o) (q := cur) (i := 1 + i) (i' := ad' o + 1 + i - ad' cur) (Or.inl ho) (Or.inl hcur') (by omega) (by omega) (by omega)
        have hij : i = j := by
          by_cases hT : scan + 1 = tend
          · omega
          · rw [if_neg hT] at g5; omega
        subst hij
        rw [ea, ← hj, pk_us]
        exact ⟨b', hgr⟩
    by_cases hq : (sh_piu κ σ (sMem σ scan)).1 = sMem σ scan
    · refine fin (sh_piu κ σ (sMem σ scan)).2 rfl ?_ ?_
      · have hx := gc_half I (Or.inl hcur) (i := 1 + j) (by omega)
        have hmem : sMem (sh_piu κ σ (sMem σ scan)).2 scan = sMem σ scan := by
          have h7 := b'
          rw [hq] at h7
          -- the word led to the half in use already: nothing has moved
          have ho : sh_old κ σ (sMem σ scan) = 0 := by
            rw [h7.1]
            refine gc_oldNo k1 a3 (by omega) ?_
            rcases h7.2 with h | h
            · rw [h]; exact Or.inl I'.2.1.1
            · have hy := gc_half I' h (i := 0) (by have : aC α (aF α cur j) = 1 + aT α (aF α cur j) + aP α (aF α cur j) := rfl; omega)
              right; omega
          unfold sh_piu
          rw [if_pos ho]
        funext y
        by_cases hy : y = scan
        · subst hy; rw [pk_us, hmem, hq]
        · rw [pk_un hy]
      · unfold sh_ws1
        rw [if_neg (by rw [a6, a8]; intro z; exact hz ((nI_eq (by omega) (by omega)).mp z)), if_pos hq]
    · refine fin (uC (sh_piu κ σ (sMem σ scan)).2 (sh_write κ (sh_piu κ σ (sMem σ scan)).2.1 (sScan (sh_piu κ σ (sMem σ scan)).2) (sh_piu κ σ (sMem σ scan)).1)) rfl ?_ ?_
      · show (sh_write κ (sh_piu κ σ (sMem σ scan)).2.1 (sScan (sh_piu κ σ (sMem σ scan)).2) (sh_piu κ σ (sMem σ scan)).1).2.2.1 = _
        rw [d6, gc_writeI k2 (by omega) (by omega) (by omega)]
      · unfold sh_ws1
        rw [if_neg (by rw [a6, a8]; intro z; exact hz ((nI_eq (by omega) (by omega)).mp z)), if_neg hq]
theorem gc_work1 {κ : sh_K} {σ : sh_S} {hf base ob free low scan tend nh made beg : Nat} {α : ab_A} {ad od : Nat → Nat} {Mv Mk Sn : List Nat} {brf : Nat → Nat → Nat}
    (k1 : kHalf κ = nI hf) (k2 : kLast κ = nI (2 * hf)) (N : gc_N σ base free low scan tend nh made beg) (I : gc_I (sMem σ) hf base ob free low scan tend nh α ad od Mv Mk Sn brf) (hs : scan < free) :
    ∃ (ad' : Nat → Nat) (Mv' : List Nat) (free' scan' tend' nh' : Nat), gc_N (sh_workStep κ σ) base free' low scan' tend' nh' made beg ∧ sReg (sh_workStep κ σ) = sReg σ ∧ gc_ext ad ad' Mv Mv' Mk ∧ scan < scan' ∧
      gc_I (sMem (sh_workStep κ σ)) hf base ob free' low scan' tend' nh' α ad' od Mv' Mk Sn brf := by
  have F := gc_free_le I
  obtain ⟨h1, h2, -⟩ := I.1
  have hv : sh_val κ σ.1 (sScan σ) = sMem σ scan := by rw [N.2.2.2.2.2.1]; exact gc_valI k2 (by omega) (by omega) (by omega)
  obtain ⟨ad', Mv', free', tend', nh', N', r', x', l1, l2, l3, l4, I'⟩ := gc_ws1 (σ := uC σ (sh_touch κ σ.1)) k1 k2 N I hs
  have N' : gc_N (sh_ws1 κ (uC σ (sh_touch κ σ.1)) (sMem σ scan)) base free' low scan tend' nh' made beg := N'
  have r' : sReg (sh_ws1 κ (uC σ (sh_touch κ σ.1)) (sMem σ scan)) = sReg σ := r'
  refine ⟨ad', Mv', free', (if scan + 1 = tend' then nh' else scan + 1), tend', nh', ?_, ?_, x', by split <;> omega, ?_⟩
  · unfold sh_workStep
    rw [hv]
    obtain ⟨a1, a2, a3, a4, a5, a6, a7, a8⟩ := id N'
    unfold sh_ws2
    by_cases hT : scan + 1 = tend'
    · rw [if_pos (by rw [a6, a7, nI_1, hT]), if_pos hT]
      exact ⟨a1, a2, a3, a4, a5, a8, a7, a8⟩
    · rw [if_neg (by rw [a6, a7, nI_1]; intro z; exact hT ((nI_eq (by omega) (by omega)).mp z)), if_neg hT]
      exact ⟨a1, a2, a3, a4, a5, by rw [← nI_1]; exact congrArg (· + 1) a6, a7, a8⟩
  · unfold sh_workStep
    rw [hv, ← r']
    unfold sh_ws2
    split <;> rfl
  · unfold sh_workStep
    rw [hv]
    have : sMem (sh_ws2 (sh_ws1 κ (uC σ (sh_touch κ σ.1)) (sMem σ scan))) = sMem (sh_ws1 κ (uC σ (sh_touch κ σ.1)) (sMem σ scan)) := by
      unfold sh_ws2
      split <;> rfl
    rw [this]
    exact I'
theorem gc_workN {κ : sh_K} {hf base ob low made beg goal : Nat} {α : ab_A} {od : Nat → Nat} {Mk Sn : List Nat} {brf : Nat → Nat → Nat} (k1 : kHalf κ = nI hf) (k2 : kLast κ = nI (2 * hf)) (hg : goal < 2 ^ 31) :
    ∀ (n : Nat) (σ : sh_S) (free scan tend nh : Nat) (ad : Nat → Nat) (Mv : List Nat), gc_N σ base free low scan tend nh made beg → gc_I (sMem σ) hf base ob free low scan tend nh α ad od Mv Mk Sn brf →
    ∃ (ad' : Nat → Nat) (Mv' : List Nat) (free' scan' tend' nh' : Nat), gc_N (sh_workN κ (nI goal) σ n) base free' low scan' tend' nh' made beg ∧ sReg (sh_workN κ (nI goal) σ n) = sReg σ ∧ gc_ext ad ad' Mv Mv' Mk ∧
      gc_I (sMem (sh_workN κ (nI goal) σ n)) hf base ob free' low scan' tend' nh' α ad' od Mv' Mk Sn brf ∧ (scan' = free' ∨ goal ≤ scan' ∨ (scan < free ∧ scan + n ≤ scan'))
  | 0, σ, free, scan, tend, nh, ad, Mv, N, I => ⟨ad, Mv, free, scan, tend, nh, N, rfl, gc_ext.rf, I, by have F := gc_free_le I; omega⟩
  | n + 1, σ, free, scan, tend, nh, ad, Mv, N, I => by
    have F := gc_free_le I
    obtain ⟨h1, h2, -⟩ := I.1
    obtain ⟨a1, a2, a3, a4, a5, a6, a7, a8⟩ := id N
    by_cases hs : scan < free
    · by_cases hq : scan < goal
      · have eq : sh_workN κ (nI goal) σ (n + 1) = sh_workN κ (nI goal) (sh_workStep κ σ) n := by
          show (if sScan σ < sFree σ then (if sScan σ < nI goal then _ else _) else _) = _
          rw [a6, a4, if_pos (nI_lt hs (by omega)), if_pos (nI_lt hq (by omega))]
        rw [eq]
        obtain ⟨ad', Mv', free', scan', tend', nh', N', r', x', l1, I'⟩ := gc_work1 k1 k2 N I hs
        obtain ⟨ad2, Mv2, free2, scan2, tend2, nh2, N2, r2, x2, I2, l2⟩ := gc_workN k1 k2 hg n _ _ _ _ _ _ _ N' I'
        exact ⟨ad2, Mv2, free2, scan2, tend2, nh2, N2, r2.trans r', x'.tr x2, I2, by omega⟩
      · have eq : sh_workN κ (nI goal) σ (n + 1) = σ := by
          show (if sScan σ < sFree σ then (if sScan σ < nI goal then _ else _) else _) = _
          rw [a6, a4, if_pos (nI_lt hs (by omega)), if_neg (nI_nlt (by omega) (by omega))]
        rw [eq]
        exact ⟨ad, Mv, free, scan, tend, nh, N, rfl, gc_ext.rf, I, Or.inr (Or.inl (by omega))⟩
    · have eq : sh_workN κ (nI goal) σ (n + 1) = σ := by
        show (if sScan σ < sFree σ then (if sScan σ < nI goal then _ else _) else _) = _
        rw [a6, a4, if_neg (nI_nlt (by omega) (by omega))]
      rw [eq]
      exact ⟨ad, Mv, free, scan, tend, nh, N, rfl, gc_ext.rf, I, Or.inl (by omega)⟩
end
section
/-! ===== A NEW CYCLE ===== -/
def gc_rs (Sn : List Nat) (ad : Nat → Nat) (o : Nat) : Nat := if o ∈ Sn then ad o else 0
theorem gc_rs_in {Sn : List Nat} {ad : Nat → Nat} {o : Nat} (h : o ∈ Sn) : gc_rs Sn ad o = ad o := if_pos h
theorem gc_rs_out {Sn : List Nat} {ad : Nat → Nat} {o : Nat} (h : o ∉ Sn) : gc_rs Sn ad o = 0 := if_neg h
theorem gc_beg0 {mem : Nat → Int32} {hf base ob free low scan tend nh : Nat} {α : ab_A} {ad od : Nat → Nat} {Mv Mk Sn Sn' : List Nat} {brf : Nat → Nat → Nat} (I : gc_I mem hf base ob free low scan tend nh α ad od Mv Mk Sn brf) (hs : scan = free)
    (d1 : Sn'.Nodup) (d2 : ∀ o, o ∈ Sn' → o ∈ Mv ∨ o ∈ Mk) (d3 : ∀ o j, o ∈ Sn' → j < aT α o → aF α o j = 0 ∨ aF α o j ∈ Sn') (d4 : gc_sum (aC α) Sn' ≤ hf) :
    gc_I mem hf ob base ob (ob + hf) ob ob ob α (fun _ => 0) (gc_rs Sn' ad) [] [] Sn' (aF α) := by
  have F := gc_free_le I
  have bl := fun {p : Nat} (hp : p ∈ Mv ∨ p ∈ Mk) => gc_half I hp (i := 0) (by have : aC α p = 1 + aT α p + aP α p := rfl; omega)
  obtain ⟨⟨h1, h2, h3⟩, ⟨z1, z2, z3, z4, n1, n2, n3, s1, s2, s3⟩, c1, c2, -, -, w1, w2, w3, -, -⟩ := I
  have z0 : 0 ∉ Sn' := by
    intro z
    rcases d2 0 z with h | h
    · exact z3 (s1 0 h)
    · exact z4 h
  have inn : ∀ o, o ∈ Sn' → gc_rs Sn' ad o = ad o := fun o h => gc_rs_in h
  refine ⟨⟨h1, by omega, by show gc_sum (aC α) Sn' + 0 ≤ hf; omega⟩, ⟨rfl, gc_rs_out z0, z0, List.not_mem_nil, List.nodup_nil, List.nodup_nil, d1, fun o h => absurd h List.not_mem_nil, fun o h => absurd h List.not_mem_nil, ?_⟩, rfl, rfl, ⟨[], [], rfl, rfl, Or.inl rfl⟩, ⟨?_, ?_, fun o h => absurd h List.not_mem_nil, ?_, d3⟩, ?_, fun o j h => absurd h List.not_mem_nil, fun o j h => absurd h List.not_mem_nil, fun o j h => absurd h List.not_mem_nil, fun o j h => absurd h List.not_mem_nil⟩
  · intro o h
    rcases h with h | h
    · rcases d2 o h with h | h
      · exact s3 o (Or.inl (s1 o h))
      · exact s3 o (Or.inr h)
    · exact absurd h List.not_mem_nil
  · intro o h
    rw [inn o h]
    rcases d2 o h with h | h
    · have := gc_chain_in c1 h; omega
    · have := gc_chain_in c2 h; omega
  · intro o q ho hq hne
    rw [inn o ho, inn q hq]
    rcases d2 o ho with h | h <;> rcases d2 q hq with h' | h'
    · exact gc_chain_dis c1 h h' hne
    · have p1 := gc_chain_in c1 h; have p2 := gc_chain_in c2 h'; left; omega
    · have p1 := gc_chain_in c2 h; have p2 := gc_chain_in c1 h'; right; omega
    · exact gc_chain_dis c2 h h' hne
  · intro o ho _
    rw [inn o ho]
    obtain ⟨a1, a2⟩ := w1 o (d2 o ho)
    refine ⟨a1, fun j hj => ⟨?_, rfl⟩, a2⟩
    have hb : gc_bw ad Mv Mk (aF α o j) (mem (ad o + 1 + j)) := by
      rcases d2 o ho with h | h
      · refine w3 o j h hj ?_
        have p1 := gc_chain_in c1 h
        have : aC α o = 1 + aT α o + aP α o := rfl
        omega
      · exact w2 o j h hj
    rw [hb.1]
    congr 1
    rcases d3 o j ho hj with h | h
    · rw [h, gc_rs_out z0, z1]
    · rw [gc_rs_in h]
  · intro o h
    rcases h with h | h <;> exact absurd h List.not_mem_nil
theorem gc_regsN {κ : sh_K} {hf base ob low scan tend nh made beg : Nat} {α : ab_A} {od : Nat → Nat} {Mk Sn : List Nat} {brf : Nat → Nat → Nat} (k1 : kHalf κ = nI hf) (k2 : kLast κ = nI (2 * hf)) :
    ∀ (n i : Nat) (σ : sh_S) (free : Nat) (ad : Nat → Nat) (Mv : List Nat), i + n = 8 → gc_N σ base free low scan tend nh made beg → gc_I (sMem σ) hf base ob free low scan tend nh α ad od Mv Mk Sn brf →
    (∀ t, t < i → gc_bw ad Mv Mk (aR α t) (sReg σ t)) → (∀ t, i ≤ t → t < 8 → gc_gw ad od Mv Mk Sn (aR α t) (sReg σ t)) →
    ∃ (ad' : Nat → Nat) (Mv' : List Nat) (free' : Nat), gc_N (sh_regsN κ σ i n) base free' low scan tend nh made beg ∧ gc_I (sMem (sh_regsN κ σ i n)) hf base ob free' low scan tend nh α ad' od Mv' Mk Sn brf ∧
      (∀ t, t < 8 → gc_bw ad' Mv' Mk (aR α t) (sReg (sh_regsN κ σ i n) t))
  | 0, i, σ, free, ad, Mv, hi, N, I, r1, _ => ⟨ad, Mv, free, N, I, fun t ht => r1 t (by omega)⟩
  | n + 1, i, σ, free, ad, Mv, hi, N, I, r1, r2 => by
    obtain ⟨a1, a2, a3, a4, a5, a6, a7, a8⟩ := id N
    obtain ⟨ad', Mv', free', I', b', e', x'⟩ := gc_piu k1 k2 I a3 a4 (r2 i (Nat.le_refl _) (by omega))
    obtain ⟨N', er⟩ := N.free e'
    have N2 : gc_N (uReg (sh_piu κ σ (sReg σ i)).2 (upd (sReg (sh_piu κ σ (sReg σ i)).2) i (sh_piu κ σ (sReg σ i)).1)) base free' low scan tend nh made beg := N'
    refine gc_regsN k1 k2 n (i + 1) (uReg (sh_piu κ σ (sReg σ i)).2 (upd (sReg (sh_piu κ σ (sReg σ i)).2) i (sh_piu κ σ (sReg σ i)).1)) free' ad' Mv' (by omega) N2 I' ?_ ?_
    · intro t ht
      show gc_bw ad' Mv' Mk (aR α t) (upd (sReg (sh_piu κ σ (sReg σ i)).2) i (sh_piu κ σ (sReg σ i)).1 t)
      by_cases hz : t = i
      · subst hz; rw [pk_us]; exact b'
      · rw [pk_un hz, er]
        exact x'.bw (r1 t (by omega))
    · intro t h1 h2
      show gc_gw ad' od Mv' Mk Sn (aR α t) (upd (sReg (sh_piu κ σ (sReg σ i)).2) i (sh_piu κ σ (sReg σ i)).1 t)
      rw [pk_un (by omega), er]
      exact x'.gw (r2 t (by omega) h2)
theorem gc_begin {κ : sh_K} {σ : sh_S} {hf base ob free low scan tend nh made beg : Nat} {α : ab_A} {ad od : Nat → Nat} {Mv Mk Sn Sn' : List Nat} {brf : Nat → Nat → Nat} (k1 : kHalf κ = nI hf) (k2 : kLast κ = nI (2 * hf))
    (N : gc_N σ base free low scan tend nh made beg) (I : gc_I (sMem σ) hf base ob free low scan tend nh α ad od Mv Mk Sn brf) (hs : scan = free) (hr : ∀ t, t < 8 → gc_bw ad Mv Mk (aR α t) (sReg σ t))
    (d1 : Sn'.Nodup) (d2 : ∀ o, o ∈ Sn' → o ∈ Mv ∨ o ∈ Mk) (d3 : ∀ o j, o ∈ Sn' → j < aT α o → aF α o j = 0 ∨ aF α o j ∈ Sn') (d4 : gc_sum (aC α) Sn' ≤ hf) (d5 : ∀ t, t < 8 → aR α t = 0 ∨ aR α t ∈ Sn') :
    ∃ (ad' od' : Nat → Nat) (Mv' : List Nat) (free' : Nat), gc_N (sh_begin κ σ) ob free' (ob + hf) ob ob ob 0 (beg + 1) ∧ gc_I (sMem (sh_begin κ σ)) hf ob base free' (ob + hf) ob ob ob α ad' od' Mv' [] Sn' (aF α) ∧
      (∀ t, t < 8 → gc_bw ad' Mv' [] (aR α t) (sReg (sh_begin κ σ) t)) ∧ (∀ t, t < 8 → aR α t ≠ 0 → aR α t ∈ Mv') := by
  have I0 := gc_beg0 I hs d1 d2 d3 d4
  obtain ⟨a1, a2, a3, a4, a5, a6, a7, a8⟩ := id N
  obtain ⟨h1, h2, -⟩ := I.1
  have hob : (if sBase σ = 1 then 1 + kHalf κ else 1) = nI ob := by
    rw [a3, k1, show (1 : Int32) = nI 1 from rfl, nI_add]
    rcases h2 with ⟨h3, h4⟩ | ⟨h3, h4⟩
    · rw [if_pos (by rw [h3]), h4]
    · by_cases hz : nI base = nI 1
      · have := (nI_eq (by omega) (by omega)).mp hz
        rw [if_pos hz]
        congr 1
        omega
      · rw [if_neg hz, h4]
  have z0 : 0 ∉ Sn' := I0.2.1.2.2.1
  obtain ⟨ad', Mv', free', N', I', r'⟩ := gc_regsN (κ := κ) (base := ob) (ob := base) (low := ob + hf) (scan := ob) (tend := ob) (nh := ob) (made := 0) (beg := beg + 1) (α := α) k1 k2 8 0 (uBeg (uMade (sh_useHalf κ σ (nI ob)) 0) (sBeg (sh_useHalf κ σ (nI ob)) + 1)) ob (fun _ => 0) [] rfl
    ⟨rfl, by show sBeg σ + 1 = _; rw [a2, nI_1], rfl, rfl, by show nI ob + kHalf κ = _; rw [k1, nI_add], rfl, rfl, rfl⟩ I0 (fun t ht => by omega) (fun t _ ht => by
      show gc_gw (fun _ => 0) (gc_rs Sn' ad) [] [] Sn' (aR α t) (sReg σ t)
      rcases d5 t ht with h | h
      · refine Or.inl ⟨?_, Or.inl h⟩
        rw [(hr t ht).1, h, I.2.1.1]
      · refine Or.inr ⟨?_, h⟩
        rw [(hr t ht).1, gc_rs_in h])
  have eq : sh_begin κ σ = sh_regsN κ (uBeg (uMade (sh_useHalf κ σ (nI ob)) 0) (sBeg (sh_useHalf κ σ (nI ob)) + 1)) 0 8 := by
    unfold sh_begin
    rw [hob]
  rw [eq]
  refine ⟨ad', _, Mv', free', N', I', r', fun t ht hne => ?_⟩
  rcases (r' t ht).2 with h | h | h
  · exact absurd h hne
  · exact h
  · exact absurd h List.not_mem_nil
end
section
/-! ===== A NEW THING ===== -/
def abN (α : ab_A) (o : Nat) (h : Int32) : ab_A := (va_up (aH α) o h, fun p i => if p = o then 0 else aF α p i, fun p i => if p = o then 0 else aI α p i, α.2.2.2)
def gc_pm (mem : Nat → Int32) (lo n : Nat) (h : Int32) : Nat → Int32 := fun x => if x = lo then h else if lo < x ∧ x < lo + n then 0 else mem x
theorem abN_H {α : ab_A} {o p : Nat} {h : Int32} (hp : p ≠ o) : aH (abN α o h) p = aH α p := by
  show va_up (aH α) o h p = _
  simp [va_up, hp]
theorem abN_F {α : ab_A} {o p j : Nat} {h : Int32} (hp : p ≠ o) : aF (abN α o h) p j = aF α p j := by
  show (if p = o then 0 else aF α p j) = _
  rw [if_neg hp]
theorem abN_I {α : ab_A} {o p j : Nat} {h : Int32} (hp : p ≠ o) : aI (abN α o h) p j = aI α p j := by
  show (if p = o then 0 else aI α p j) = _
  rw [if_neg hp]
theorem abN_Ho {α : ab_A} {o : Nat} {h : Int32} : aH (abN α o h) o = h := by
  show va_up (aH α) o h o = _
  simp [va_up]
theorem abN_Fo {α : ab_A} {o j : Nat} {h : Int32} : aF (abN α o h) o j = 0 := by
  show (if o = o then 0 else aF α o j) = _
  rw [if_pos rfl]
theorem abN_Io {α : ab_A} {o j : Nat} {h : Int32} : aI (abN α o h) o j = 0 := by
  show (if o = o then 0 else aI α o j) = _
  rw [if_pos rfl]
theorem gc_place0 {mem : Nat → Int32} {hf base ob free low scan tend nh : Nat} {α : ab_A} {ad od : Nat → Nat} {Mv Mk Sn : List Nat} {brf : Nat → Nat → Nat} (I : gc_I mem hf base ob free low scan tend nh α ad od Mv Mk Sn brf)
    {o : Nat} {h : Int32} (f0 : o ≠ 0) (f1 : o ∉ Sn) (f2 : o ∉ Mk) (hok : gc_ok h) (hr : gc_sum (aC α) Sn + gc_sum (aC α) Mk + hC h ≤ hf) :
    free + hC h ≤ low ∧ gc_I (gc_pm mem (low - hC h) (hC h) h) hf base ob free (low - hC h) scan tend nh (abN α o h) (va_up ad o (low - hC h)) od Mv (o :: Mk) Sn brf := by
  have F := gc_free_le I
  have hh := fun {p i : Nat} (hp : p ∈ Mv ∨ p ∈ Mk) (hi : i < aC α p) => gc_half I hp hi
  obtain ⟨⟨h1, h2, h3⟩, ⟨z1, z2, z3, z4, n1, n2, n3, s1, s2, s3⟩, c1, c2, ⟨L1, L2, e1, k1, k2⟩, ⟨o1, o2, o3, o4, o5⟩, w1, w2, w3, w4, w5⟩ := I
  have hCh : hC h = 1 + hT h + hP h := rfl
  have hl : free + hC h ≤ low := by omega
  have nS : ∀ p, p ∈ Sn → p ≠ o := fun p hp z => f1 (z ▸ hp)
  have nM : ∀ p, p ∈ Mv → p ≠ o := fun p hp => nS p (s1 p hp)
  have nK : ∀ p, p ∈ Mk → p ≠ o := fun p hp z => f2 (z ▸ hp)
  have cC : ∀ p, p ≠ o → aC (abN α o h) p = aC α p := fun p hp => by show hC _ = hC _; rw [abN_H hp]
  have cT : ∀ p, p ≠ o → aT (abN α o h) p = aT α p := fun p hp => by show hT _ = hT _; rw [abN_H hp]
  have cP : ∀ p, p ≠ o → aP (abN α o h) p = aP α p := fun p hp => by show hP _ = hP _; rw [abN_H hp]
  have up : ∀ p, p ≠ o → va_up ad o (low - hC h) p = ad p := fun p hp => by simp [va_up, hp]
  have upo : va_up ad o (low - hC h) o = low - hC h := by simp [va_up]
  have eS : gc_sum (aC (abN α o h)) Sn = gc_sum (aC α) Sn := gc_sum_congr _ (fun p hp => cC p (nS p hp))
  have eK : gc_sum (aC (abN α o h)) Mk = gc_sum (aC α) Mk := gc_sum_congr _ (fun p hp => cC p (nK p hp))
  have eo : aC (abN α o h) o = hC h := by show hC _ = hC _; rw [abN_Ho]
  have keep : ∀ x, x < low - hC h ∨ low ≤ x → gc_pm mem (low - hC h) (hC h) h x = mem x := by
    intro x hx
    unfold gc_pm
    rw [if_neg (by omega), if_neg (by omega)]
  have kO : ∀ x, ob ≤ x → x < ob + hf → gc_pm mem (low - hC h) (hC h) h x = mem x := fun x h4 h5 => keep x (by omega)
  have kN : ∀ p i, p ∈ Mv ∨ p ∈ Mk → i < aC α p → gc_pm mem (low - hC h) (hC h) h (ad p + i) = mem (ad p + i) := by
    intro p i hp hi
    refine keep _ ?_
    rcases hp with hp | hp
    · have := gc_chain_in c1 hp; omega
    · have := gc_chain_in c2 hp; omega
  have bw : ∀ q w, gc_bw ad Mv Mk q w → gc_bw (va_up ad o (low - hC h)) Mv (o :: Mk) q w := by
    rintro q w ⟨e, hq⟩
    have hne : q ≠ o := by
      rcases hq with hq | hq | hq
      · rw [hq]; exact Ne.symm f0
      · exact nM q hq
      · exact nK q hq
    refine ⟨by rw [up q hne]; exact e, ?_⟩
    rcases hq with hq | hq | hq
    · exact Or.inl hq
    · exact Or.inr (Or.inl hq)
    · exact Or.inr (Or.inr (List.mem_cons_of_mem _ hq))
  have gw : ∀ q w, gc_gw ad od Mv Mk Sn q w → gc_gw (va_up ad o (low - hC h)) od Mv (o :: Mk) Sn q w := by
    rintro q w (hq | hq)
    · exact Or.inl (bw q w hq)
    · exact Or.inr hq
  refine ⟨hl, ⟨h1, h2, ?_⟩, ⟨by rw [up 0 (Ne.symm f0)]; exact z1, z2, z3, ?_, n1, List.nodup_cons.mpr ⟨f2, n2⟩, n3, s1, ?_, ?_⟩, ?_, ?_, ⟨L1, L2, e1, ?_, ?_⟩, ⟨?_, ?_, ?_, ?_, ?_⟩, ?_, ?_, ?_, ?_, ?_⟩
  · show gc_sum (aC (abN α o h)) Sn + (aC (abN α o h) o + gc_sum (aC (abN α o h)) Mk) ≤ hf
    rw [eS, eK, eo]; omega
  · intro z
    rcases List.mem_cons.mp z with z | z
    · exact f0 z.symm
    · exact z4 z
  · intro p hp
    rcases List.mem_cons.mp hp with z | z
    · rw [z]; exact f1
    · exact s2 p z
  · intro p hp
    by_cases hz : p = o
    · rw [hz, abN_Ho]; exact hok
    · rw [abN_H hz]
      rcases hp with hp | hp
      · exact s3 p (Or.inl hp)
      · exact s3 p (Or.inr ((List.mem_cons.mp hp).resolve_left hz))
  · exact gc_chain_congr (fun p hp => ⟨up p (nM p hp), cC p (nM p hp)⟩) c1
  · refine ⟨upo, ?_⟩
    rw [eo, show low - hC h + hC h = low by omega]
    exact gc_chain_congr (fun p hp => ⟨up p (nK p hp), cC p (nK p hp)⟩) c2
  · exact gc_chain_congr (fun p hp => by
      have hp' : p ∈ Mv := by rw [e1]; exact List.mem_append_left _ hp
      exact ⟨up p (nM p hp'), cC p (nM p hp')⟩) k1
  · rcases k2 with k2 | ⟨L0, cur, k2, k3, k4, k5⟩
    · exact Or.inl k2
    · have hc : cur ∈ Mv := by rw [e1, k2]; simp
      exact Or.inr ⟨L0, cur, k2, by rw [up cur (nM cur hc)]; exact k3, k4, by rw [up cur (nM cur hc), cT cur (nM cur hc)]; exact k5⟩
  · intro p hp
    rw [cC p (nS p hp)]; exact o1 p hp
  · intro p q hp hq hne
    rw [cC p (nS p hp), cC q (nS q hq)]; exact o2 p q hp hq hne
  · intro p hp
    have b := o1 p (s1 p hp)
    have : aC α p = 1 + aT α p + aP α p := rfl
    rw [kO _ (by omega) (by omega), up p (nM p hp)]
    exact o3 p hp
  · intro p hp hn
    have hne := nS p hp
    have b := o1 p hp
    have hCp : aC α p = 1 + aT α p + aP α p := rfl
    obtain ⟨a1, a2, a3⟩ := o4 p hp hn
    rw [cT p hne, cP p hne, abN_H hne]
    refine ⟨by rw [kO _ (by omega) (by omega)]; exact a1, fun j hj => ?_, fun j hj => ?_⟩
    · rw [kO _ (by omega) (by omega), abN_F hne]; exact a2 j hj
    · rw [kO _ (by omega) (by omega), abN_I hne]; exact a3 j hj
  · intro p j hp hj
    rw [cT p (nS p hp)] at hj
    exact o5 p j hp hj
  · intro p hp
    by_cases hz : p = o
    · subst hz
      rw [upo, abN_Ho]
      refine ⟨by unfold gc_pm; rw [if_pos rfl], fun j hj => ?_⟩
      have hj : j < hP h := by
        have : aP (abN α p h) p = hP h := by show hP _ = hP _; rw [abN_Ho]
        omega
      have hTo : aT (abN α p h) p = hT h := by show hT _ = hT _; rw [abN_Ho]
      rw [hTo, abN_Io]
      unfold gc_pm
      rw [if_neg (by omega), if_pos (by omega)]
    · have hp' : p ∈ Mv ∨ p ∈ Mk := by
        rcases hp with hp | hp
        · exact Or.inl hp
        · exact Or.inr ((List.mem_cons.mp hp).resolve_left hz)
      have hCp : aC α p = 1 + aT α p + aP α p := rfl
      obtain ⟨a1, a2⟩ := w1 p hp'
      rw [up p hz, abN_H hz, cP p hz, cT p hz]
      refine ⟨by rw [show ad p = ad p + 0 from rfl, kN p 0 hp' (by omega)]; exact a1, fun j hj => ?_⟩
      rw [show ad p + 1 + aT α p + j = ad p + (1 + aT α p + j) by omega, kN p _ hp' (by omega), show ad p + (1 + aT α p + j) = ad p + 1 + aT α p + j by omega, abN_I hz]
      exact a2 j hj
  · intro p j hp hj
    by_cases hz : p = o
    · subst hz
      have hTo : aT (abN α p h) p = hT h := by show hT _ = hT _; rw [abN_Ho]
      rw [hTo] at hj
      rw [upo, abN_Fo]
      refine ⟨?_, Or.inl rfl⟩
      rw [up 0 (Ne.symm f0), z1, nI_0]
      unfold gc_pm
      rw [if_neg (by omega), if_pos (by omega)]
    · have hp' := (List.mem_cons.mp hp).resolve_left hz
      have hCp : aC α p = 1 + aT α p + aP α p := rfl
      rw [cT p hz] at hj
      rw [up p hz, abN_F hz, show ad p + 1 + j = ad p + (1 + j) by omega, kN p _ (Or.inr hp') (by omega), show ad p + (1 + j) = ad p + 1 + j by omega]
      exact bw _ _ (w2 p j hp' hj)
  · intro p j hp hj hs
    have hz := nM p hp
    have hCp : aC α p = 1 + aT α p + aP α p := rfl
    rw [cT p hz] at hj
    rw [up p hz] at hs ⊢
    rw [abN_F hz, show ad p + 1 + j = ad p + (1 + j) by omega, kN p _ (Or.inl hp) (by omega), show ad p + (1 + j) = ad p + 1 + j by omega]
    exact bw _ _ (w3 p j hp hj hs)
  · intro p j hp hj
    have hz := nM p hp
    have hCp : aC α p = 1 + aT α p + aP α p := rfl
    rw [cT p hz] at hj
    rw [up p hz, abN_F hz, show ad p + 1 + j = ad p + (1 + j) by omega, kN p _ (Or.inl hp) (by omega), show ad p + (1 + j) = ad p + 1 + j by omega]
    exact gw _ _ (w4 p j hp hj)
  · intro p j hp hj hne
    have hz := nM p hp
    have hCp : aC α p = 1 + aT α p + aP α p := rfl
    rw [cT p hz] at hj
    rw [up p hz]
    rcases w5 p j hp hj hne with h5 | ⟨h5, h6⟩
    · exact Or.inl h5
    · refine Or.inr ⟨h5, ?_⟩
      rw [show ad p + 1 + j = ad p + (1 + j) by omega, kN p _ (Or.inl hp) (by omega), show ad p + (1 + j) = ad p + 1 + j by omega]
      exact h6
theorem gc_zeroN {κ : sh_K} {la lo : Nat} (hl : kLast κ = nI la) (hb : la < 2 ^ 31) (h0 : 1 ≤ lo) : ∀ (n i : Nat) (c : sh_C), lo + i + n ≤ la + 1 →
    (sh_zeroN κ c (nI lo) (nI i) n).2.2.1 = fun x => if lo + i ≤ x ∧ x < lo + i + n then 0 else c.2.2.1 x
  | 0, i, c, _ => by
    funext x
    rw [if_neg (by omega)]
    rfl
  | n + 1, i, c, h => by
    show (sh_zeroN κ (sh_write κ c (nI lo + nI i) 0) (nI lo) (nI i + 1) n).2.2.1 = _
    rw [nI_add, nI_1, gc_zeroN hl hb h0 n (i + 1) _ (by omega), gc_writeI hl hb (by omega) (by omega)]
    funext x
    by_cases hx : lo + (i + 1) ≤ x ∧ x < lo + (i + 1) + n
    · rw [if_pos hx, if_pos (by omega)]
    · rw [if_neg hx]
      by_cases hy : x = lo + i
      · subst hy
        rw [if_pos (by omega), pk_us]
      · rw [if_neg (by omega), pk_un hy]
theorem gc_place {κ : sh_K} {σ : sh_S} {hf k base ob free low scan tend nh made beg : Nat} {α : ab_A} {ad od : Nat → Nat} {Mv Mk Sn : List Nat} {brf : Nat → Nat → Nat} (k1 : kHalf κ = nI hf) (k2 : kLast κ = nI (2 * hf)) (k3 : kK κ = nI k) (hk : k ≤ 64)
    (N : gc_N σ base free low scan tend nh made beg) (I : gc_I (sMem σ) hf base ob free low scan tend nh α ad od Mv Mk Sn brf) (hm : made = gc_sum (aC α) Mk) (hp : scan = free ∨ base + k * made ≤ scan)
    {o : Nat} {h : Int32} (f0 : o ≠ 0) (f1 : o ∉ Sn) (f2 : o ∉ Mk) (hok : gc_ok h) (hr : gc_sum (aC α) Sn + gc_sum (aC α) Mk + hC h ≤ hf) :
    ∃ (ad' : Nat → Nat) (Mv' : List Nat) (free' scan' tend' nh' : Nat), gc_N (sh_place κ σ h).2 base free' (low - hC h) scan' tend' nh' (made + hC h) beg ∧ sReg (sh_place κ σ h).2 = sReg σ ∧ gc_ext ad ad' Mv Mv' Mk ∧
      gc_I (sMem (sh_place κ σ h).2) hf base ob free' (low - hC h) scan' tend' nh' (abN α o h) ad' od Mv' (o :: Mk) Sn brf ∧ (scan' = free' ∨ base + k * (made + hC h) ≤ scan') ∧ (sh_place κ σ h).1 = nI (ad' o) := by
  obtain ⟨hl, I1⟩ := gc_place0 I f0 f1 f2 hok hr
  have F := gc_free_le I
  obtain ⟨h1, h2, -⟩ := I.1
  obtain ⟨a1, a2, a3, a4, a5, a6, a7, a8⟩ := id N
  have hC0 : hC h = 1 + hT h + hP h := rfl
  have hC16 := hok.2
  -- the state ahead of work
  have eq : sh_place κ σ h = (sLow (sh_work κ (uMade (uC (uLow σ (nI (low - hC h))) (sh_zeroN κ (sh_write κ σ.1 (nI (low - hC h)) h) (nI (low - hC h)) (nI 1) (hC h - 1))) (nI (made + hC h)))), sh_work κ (uMade (uC (uLow σ (nI (low - hC h))) (sh_zeroN κ (sh_write κ σ.1 (nI (low - hC h)) h) (nI (low - hC h)) (nI 1) (hC h - 1))) (nI (made + hC h)))) := by
    have e1 : sLow σ - hd_cells h = nI (low - hC h) := by rw [a5, hC_eq, pk_sub (by omega)]
    have e2 : sMade σ + hd_cells h = nI (made + hC h) := by rw [a1, hC_eq, nI_add]
    have e3 : (hd_cells h).toNatClampNeg - 1 = hC h - 1 := by rw [hC_eq, nI_clamp (by omega)]
    unfold sh_place
    show (sLow (sh_work κ (uMade (uC (uLow σ (sLow σ - hd_cells h)) (sh_zeroN κ (sh_write κ σ.1 (sLow σ - hd_cells h) h) (sLow σ - hd_cells h) 1 ((hd_cells h).toNatClampNeg - 1))) (sMade σ + hd_cells h))), sh_work κ (uMade (uC (uLow σ (sLow σ - hd_cells h)) (sh_zeroN κ (sh_write κ σ.1 (sLow σ - hd_cells h) h) (sLow σ - hd_cells h) 1 ((hd_cells h).toNatClampNeg - 1))) (sMade σ + hd_cells h))) = _
    rw [e1, e2, e3]
    rfl
  have N1 : gc_N (uMade (uC (uLow σ (nI (low - hC h))) (sh_zeroN κ (sh_write κ σ.1 (nI (low - hC h)) h) (nI (low - hC h)) (nI 1) (hC h - 1))) (nI (made + hC h))) base free (low - hC h) scan tend nh (made + hC h) beg := ⟨rfl, a2, a3, a4, rfl, a6, a7, a8⟩
  have em : sMem (uMade (uC (uLow σ (nI (low - hC h))) (sh_zeroN κ (sh_write κ σ.1 (nI (low - hC h)) h) (nI (low - hC h)) (nI 1) (hC h - 1))) (nI (made + hC h))) = gc_pm (sMem σ) (low - hC h) (hC h) h := by
    show (sh_zeroN κ (sh_write κ σ.1 (nI (low - hC h)) h) (nI (low - hC h)) (nI 1) (hC h - 1)).2.2.1 = _
    rw [gc_zeroN k2 (by omega) (by omega) _ _ _ (by omega), gc_writeI k2 (by omega) (by omega) (by omega)]
    funext x
    unfold gc_pm
    by_cases hx : low - hC h + 1 ≤ x ∧ x < low - hC h + 1 + (hC h - 1)
    · rw [if_pos hx, if_neg (by omega), if_pos (by omega)]
    · rw [if_neg hx]
      by_cases hy : x = low - hC h
      · rw [if_pos hy, hy, pk_us]
      · rw [if_neg hy, if_neg (by omega), pk_un hy]
  have hkm : k * (made + hC h) ≤ 64 * (hf + 16) := Nat.mul_le_mul hk (by omega)
  rw [← em] at I1
  obtain ⟨ad', Mv', free', scan', tend', nh', N', r', x', I', l'⟩ := gc_workN (κ := κ) (goal := base + k * (made + hC h)) k1 k2 (by omega) (16 * k) _ _ _ _ _ _ _ N1 I1
  have ew : sh_work κ (uMade (uC (uLow σ (nI (low - hC h))) (sh_zeroN κ (sh_write κ σ.1 (nI (low - hC h)) h) (nI (low - hC h)) (nI 1) (hC h - 1))) (nI (made + hC h))) = sh_workN κ (nI (base + k * (made + hC h))) (uMade (uC (uLow σ (nI (low - hC h))) (sh_zeroN κ (sh_write κ σ.1 (nI (low - hC h)) h) (nI (low - hC h)) (nI 1) (hC h - 1))) (nI (made + hC h))) (16 * k) := by
    have e4 : kK κ * 16 = nI (16 * k) := by rw [k3, show (16 : Int32) = nI 16 from rfl, pk_mul, Nat.mul_comm]
    unfold sh_work
    show sh_workN κ (sBase σ + kK κ * nI (made + hC h)) _ (kK κ * 16).toNatClampNeg = _
    rw [e4, nI_clamp (by omega), a3, k3, pk_mul, nI_add]
  rw [eq, ew]
  have ha : ad' o = low - hC h := by
    rw [x'.1 o (Or.inr (Or.inr List.mem_cons_self))]
    simp [va_up]
  refine ⟨ad', Mv', free', scan', tend', nh', N', r', ⟨fun p hp => ?_, x'.2⟩, I', ?_, ?_⟩
  · have hne : p ≠ o := by
      intro z
      subst z
      rcases hp with hp | hp | hp
      · exact f0 hp
      · exact f1 (I.2.1.2.2.2.2.2.2.2.1 p hp)
      · exact f2 hp
    rw [x'.1 p (hp.imp id (Or.imp id (List.mem_cons_of_mem _)))]
    simp [va_up, hne]
  · rcases l' with l' | l' | l'
    · exact Or.inl l'
    · exact Or.inr l'
    · have F' := gc_free_le I'
      rcases hp with hp | hp
      · omega
      · right
        have : k * (made + hC h) = k * made + k * hC h := Nat.mul_add _ _ _
        have : k * hC h ≤ k * 16 := Nat.mul_le_mul_left _ hC16
        omega
  · show sLow _ = _
    rw [N'.2.2.2.2.1, ha]
end
section
/-! ===== REACHED; THE INVARIANT BETWEEN CALLS; THE RULE OF MAKING ===== -/
def ab_cl (α : ab_A) (P : Nat → Prop) : Prop := (∀ t, t < 8 → aR α t ≠ 0 → P (aR α t)) ∧ ∀ o j, P o → j < aT α o → aF α o j ≠ 0 → P (aF α o j)
def ab_reach (α : ab_A) (o : Nat) : Prop := ∀ P : Nat → Prop, ab_cl α P → P o
def ab_R (α : ab_A) (Sn : List Nat) : Prop := Sn.Nodup ∧ ∀ o, o ∈ Sn ↔ ab_reach α o
theorem ab_reach_cl (α : ab_A) : ab_cl α (ab_reach α) := ⟨fun t ht hne P hP => hP.1 t ht hne, fun o j ho hj hne P hP => hP.2 o j (ho P hP) hj hne⟩
/-- every thing of the cycle was reached from what has been moved already -/
def gc_B (α : ab_A) (Mv Sn : List Nat) (brf : Nat → Nat → Nat) : Prop := ∀ P : Nat → Prop, (∀ o, o ∈ Mv → P o) → (∀ o j, P o → o ∈ Sn → j < aT α o → brf o j ≠ 0 → P (brf o j)) → ∀ o, o ∈ Sn → P o
theorem gc_B.mono {α α' : ab_A} {Mv Mv' Sn : List Nat} {brf : Nat → Nat → Nat} (h : gc_B α Mv Sn brf) (hM : ∀ o, o ∈ Mv → o ∈ Mv') (hT : ∀ o, o ∈ Sn → aT α' o = aT α o) : gc_B α' Mv' Sn brf :=
  fun P h1 h2 o ho => h P (fun q hq => h1 q (hM q hq)) (fun q j hq hs hj hne => h2 q j hq hs (by rw [hT q hs]; exact hj) hne) o ho
/-- all has been gone through: all is moved -/
theorem gc_all {mem : Nat → Int32} {hf base ob free low scan tend nh : Nat} {α : ab_A} {ad od : Nat → Nat} {Mv Mk Sn : List Nat} {brf : Nat → Nat → Nat} (I : gc_I mem hf base ob free low scan tend nh α ad od Mv Mk Sn brf) (hB : gc_B α Mv Sn brf) (hs : scan = free) : ∀ o, o ∈ Sn → o ∈ Mv := by
  have F := gc_free_le I
  obtain ⟨-, ⟨-, -, -, -, -, -, -, s1, -⟩, c1, -, -, -, -, -, -, -, w5⟩ := I
  refine hB (· ∈ Mv) (fun o h => h) (fun o j ho _ hj hne => ?_)
  rcases w5 o j ho hj hne with h | ⟨h, -⟩
  · exact h
  · have := gc_chain_in c1 ho
    have hC : aC α o = 1 + aT α o + aP α o := rfl
    omega
/-- the class between two calls: h is H, k is k; made, beg and R as the document has them -/
def gc_G (κ : sh_K) (σ : sh_S) (α : ab_A) (h k made beg R : Nat) : Prop :=
  (1024 ≤ h ∧ h ≤ 60000 ∧ 1 ≤ k ∧ k ≤ 64 ∧ kHalf κ = nI (2 * h + 64) ∧ kK κ = nI k ∧ kLim κ = nI (h * k / (k + 1)) ∧ kLast κ = nI (2 * (2 * h + 64)) ∧ kAl κ = nI (700 * k + 200)) ∧
  ∃ (base ob free low scan tend nh : Nat) (ad od : Nat → Nat) (Mv Mk Sn : List Nat) (brf : Nat → Nat → Nat),
    gc_N σ base free low scan tend nh made beg ∧ gc_I (sMem σ) (2 * h + 64) base ob free low scan tend nh α ad od Mv Mk Sn brf ∧ (∀ t, t < 8 → gc_bw ad Mv Mk (aR α t) (sReg σ t)) ∧ gc_B α Mv Sn brf ∧
    made = gc_sum (aC α) Mk ∧ R = gc_sum (aC α) Sn ∧ (scan = free ∨ base + k * made ≤ scan) ∧ R < h + 16 ∧ (k * made < R + 16 * k ∨ R + made ≤ h * k / (k + 1))
theorem gc_doneI {κ : sh_K} {σ : sh_S} {α : ab_A} {h k made beg R : Nat} (G : gc_G κ σ α h k made beg R) : sh_done κ σ = (if R ≤ k * made then 1 else 0) ∧ (R ≤ k * made → sh_moved σ = nI R ∧ sScan σ = sFree σ) := by
  obtain ⟨⟨h1, h2, h3, h4, k1, k2, k3, k4, k5⟩, base, ob, free, low, scan, tend, nh, ad, od, Mv, Mk, Sn, brf, N, I, hr, hB, e1, e2, hp, hR, hq⟩ := G
  have F := gc_free_le I
  obtain ⟨b1, b2, b3⟩ := I.1
  obtain ⟨a1, a2, a3, a4, a5, a6, a7, a8⟩ := id N
  have em : sh_moved σ = nI (free - base) := by unfold sh_moved; rw [a4, a3, pk_sub (by omega)]
  have hkm : k * made ≤ 64 * (2 * h + 64) := Nat.mul_le_mul h4 (by omega)
  have hall : scan = free → free - base = R := by
    intro hs
    have q := gc_all I hB hs
    have := gc_sum_eq (cz := aC α) I.2.1.2.2.2.2.1 I.2.1.2.2.2.2.2.2.1 (fun o => ⟨I.2.1.2.2.2.2.2.2.2.1 o, q o⟩)
    omega
  unfold sh_done
  rw [a6, a4, em, k2, a1, pk_mul]
  by_cases hs : scan = free
  · have hm := hall hs
    rw [if_pos (by rw [hs]), hm]
    by_cases hd : R ≤ k * made
    · rw [if_neg (nI_nlt hd (by omega)), if_pos hd]
      exact ⟨rfl, fun _ => ⟨rfl, by rw [hs]⟩⟩
    · rw [if_pos (nI_lt (by omega) (by omega)), if_neg hd]
      exact ⟨rfl, fun z => absurd z hd⟩
  · rw [if_neg (fun z => hs ((nI_eq (by omega) (by omega)).mp z))]
    have hd : ¬ R ≤ k * made := by omega
    rw [if_neg hd]
    exact ⟨rfl, fun z => absurd z hd⟩
theorem gc_arith {h k R made : Nat} (hk : 1 ≤ k) (h1 : R ≤ h * k / (k + 1)) (h2 : k * made < R + 16 * k ∨ R + made ≤ h * k / (k + 1)) : R + made < h + 16 := by
  have hl : h * k / (k + 1) ≤ h := by
    have : h * k / (k + 1) * (k + 1) ≤ h * k := Nat.div_mul_le_self _ _
    have q : h * k / (k + 1) * k ≤ h * k / (k + 1) * (k + 1) := Nat.mul_le_mul_left _ (by omega)
    exact Nat.le_of_mul_le_mul_right (Nat.le_trans q this) (by omega)
  rcases h2 with h2 | h2
  · have a : R * (k + 1) ≤ h * k := Nat.le_trans (Nat.mul_le_mul_right _ h1) (Nat.div_mul_le_self _ _)
    have b : k * (R + made) < k * (h + 16) := by
      rw [Nat.mul_add, Nat.mul_add]
      have e : R * (k + 1) = k * R + R := by rw [Nat.mul_add, Nat.mul_comm R k]; omega
      have e2 : h * k = k * h := Nat.mul_comm _ _
      omega
    exact Nat.lt_of_mul_lt_mul_left b
  · omega
end
section
/-! ===== THE CLASS'S WORLD: the cells that hold a state. cx_a: where StepHeap, Cells, Mover, the registers and the pages' row stand ===== -/
abbrev nal (σ : sh_S) : Nat := (sPgs σ).length
abbrev cx_a : Type := Nat × Nat × Nat × Nat × Nat
abbrev aXX (a : cx_a) : Nat := a.1
abbrev aXC (a : cx_a) : Nat := a.2.1
abbrev aXM (a : cx_a) : Nat := a.2.2.1
abbrev aXR (a : cx_a) : Nat := a.2.2.2.1
abbrev aXP (a : cx_a) : Nat := a.2.2.2.2
/-- the words that a call does not keep by itself: private members of nest mates -/
def nx_w : List Cond := [.fieldLinkNest "StepHeap" 137 "StepHeap$Cells" "steady" "Z" "StepHeap", .fieldLinkNest "StepHeap" 30 "StepHeap$Mover" "cells" "LStepHeap$Cells;" "StepHeap", .fieldLinkNest "StepHeap" 134 "StepHeap$Mover" "limit" "I" "StepHeap", .fieldLinkNest "StepHeap" 131 "StepHeap$Mover" "made" "I" "StepHeap", .fieldLinkNest "StepHeap" 119 "StepHeap$Mover" "begun" "I" "StepHeap", .fieldLinkNest "StepHeap$Cells" 32 "StepHeap$Page" "row" "[I" "StepHeap", .methodLinkNest "StepHeap$Cells" 36 ⟨"StepHeap$Page", "<init>", "()V"⟩ "StepHeap", .methodLinkNest "StepHeap$Mover" 44 ⟨"StepHeap", "isRegister", "(I)Z"⟩ "StepHeap"]
def nx (U : State) : Prop := ∀ w ∈ nx_w, va_Nw w U
theorem nx.same {u U : State} (h : u.vm = U.vm) (hn : nx u) : nx U := by
  intro w hw
  refine va_Nw.same ?_ h (hn w hw)
  simp only [nx_w, List.mem_cons, List.not_mem_nil, or_false] at hw
  rcases hw with rfl | rfl | rfl | rfl | rfl | rfl | rfl | rfl <;> rfl
theorem nx.warm {s U : State} (hW : s.WarmedH U.vm) (hn : nx s) : nx U := by
  intro w hw
  have h := hn w hw
  simp only [nx_w, List.mem_cons, List.not_mem_nil, or_false] at hw
  rcases hw with rfl | rfl | rfl | rfl | rfl | rfl | rfl | rfl
  · exact va_Nw.warmF hW h
  · exact va_Nw.warmF hW h
  · exact va_Nw.warmF hW h
  · exact va_Nw.warmF hW h
  · exact va_Nw.warmF hW h
  · exact va_Nw.warmF hW h
  · exact va_Nw.warmM hW h
  · exact va_Nw.warmM hW h
def cx_pf (Lp : List (Nat × Nat × Nat)) (i : Nat) : Option Nat := (Lp.find? (fun t => t.1 == i)).map (fun t => t.2.1)
def cx_row (mem : Nat → Int32) (i : Nat) : Nat → Int32 := fun j => if j < 1024 then mem (i * 1024 + j) else 0
def cx_pl (cI : ClassId) (Lp : List (Nat × Nat × Nat)) (mem : Nat → Int32) : va_W := Lp.flatMap (fun t => [(t.2.1, .inr (3, [.ref t.2.2])), (t.2.2, .inl (cI, 1024, .inl (cx_row mem t.1)))])
abbrev cx_w (cI cP : ClassId) (a : cx_a) (κ : sh_K) (np : Nat) (σ : sh_S) (Lp : List (Nat × Nat × Nat)) : va_W :=
  (aXX a, .inr (0, [.ref (aXC a), .ref (aXM a)])) ::
  (aXC a, .inr (1, [.ref (aXP a), .int (kLast κ), .int (kAl κ), .int (sTou σ), .int (sSte σ)])) ::
  (aXM a, .inr (2, [.ref (aXC a), .int (kHalf κ), .int (kK κ), .int (kLim κ), .ref (aXR a), .int (sMade σ), .int (sBeg σ), .int (sBase σ), .int (sFree σ), .int (sLow σ), .int (sScan σ), .int (sTend σ), .int (sNh σ)])) ::
  (aXR a, .inl (cI, 8, .inl (sReg σ))) :: (aXP a, .inl (cP, np, .inr (.inr (.inr (.inr (cx_pf Lp)))))) :: cx_pl cI Lp (sMem σ)
def cx_ok (κ : sh_K) (np : Nat) (σ : sh_S) (Lp : List (Nat × Nat × Nat)) : Prop := Lp.map (fun t => t.1) = sPgs σ ∧ (sPgs σ).Nodup ∧ (∀ i, i ∈ sPgs σ → i < np) ∧ (∀ j, j / 1024 ∉ sPgs σ → sMem σ j = 0) ∧ (∃ la, kLast κ = nI la ∧ la < 2 ^ 30 ∧ np = la / 1024 + 1) ∧ (Lp.map (fun t => t.2.2)).Nodup
abbrev cx_tys (cI cP : ClassId) : List (ClassId × FieldType) := [(cI, .int), (cP, .object "StepHeap$Page")]
def cx_St (D : va_G) (cI cP : ClassId) (a : cx_a) (κ : sh_K) (np : Nat) (σ : sh_S) (Lp : List (Nat × Nat × Nat)) (A : Nat → Prop) (H : Heap) : Prop := cx_ok κ np σ Lp ∧ va_P D vwC (cx_w cI cP a κ np σ Lp) H ∧ va_D A (cx_w cI cP a κ np σ Lp)
def cx_Pre (D : va_G) (cI cP : ClassId) (a : cx_a) (κ : sh_K) (np : Nat) (σ : sh_S) (Lp : List (Nat × Nat × Nat)) (sz : Nat) (U : State) : Prop := U.heap.size = sz ∧ cx_St D cI cP a κ np σ Lp (fun _ => True) U.heap ∧ va_K D vwC (cx_tys cI cP) U ∧ nx U
theorem cx_Pre.blind {D : va_G} {cI cP : ClassId} {a : cx_a} {κ : sh_K} {np : Nat} {σ : sh_S} {Lp : List (Nat × Nat × Nat)} {sz : Nat} {av : List Value} : FrameBlind (va_Pc av (cx_Pre D cI cP a κ np σ Lp sz)) := by
  intro v U g mk h
  obtain ⟨h0, h1, h2, h3, h4⟩ := h
  exact ⟨h0, h1, h2, va_K.moved (u := U) (U := U.calling g mk v) (Vm.Alike.refl U.vm) h3, nx.same (u := U) rfl h4⟩
theorem cx_len {κ : sh_K} {np : Nat} {σ : sh_S} {Lp : List (Nat × Nat × Nat)} (h : cx_ok κ np σ Lp) : nal σ ≤ np := by
  obtain ⟨-, h1, h2, -⟩ := h
  have : ∀ (n : Nat) (l : List Nat), l.Nodup → (∀ i, i ∈ l → i < n) → l.length ≤ n := by
    intro n
    induction n with
    | zero =>
      intro l _ hl
      cases l with
      | nil => exact Nat.le_refl _
      | cons x l => exact absurd (hl x List.mem_cons_self) (Nat.not_lt_zero _)
    | succ n ih =>
      intro l hn hl
      by_cases hx : n ∈ l
      · obtain ⟨s, t, rfl⟩ := List.append_of_mem hx
        have hn' : (s ++ t).Nodup := by
          rw [List.nodup_append] at hn ⊢
          obtain ⟨p1, p2, p3⟩ := hn
          exact ⟨p1, (List.nodup_cons.mp p2).2, fun x hx y hy => p3 x hx y (List.mem_cons_of_mem _ hy)⟩
        have hnn : n ∉ s ++ t := by
          rw [List.nodup_append] at hn
          obtain ⟨p1, p2, p3⟩ := hn
          intro z
          rcases List.mem_append.mp z with z | z
          · exact p3 n z n List.mem_cons_self rfl
          · exact (List.nodup_cons.mp p2).1 z
        have := ih (s ++ t) hn' (fun i hi => by
          have h5 : i < n + 1 := hl i (by
            rcases List.mem_append.mp hi with z | z
            · exact List.mem_append_left _ z
            · exact List.mem_append_right _ (List.mem_cons_of_mem _ z))
          have h6 : i ≠ n := fun z => hnn (z ▸ hi)
          omega)
        simp only [List.length_append, List.length_cons] at this ⊢
        omega
      · have := ih l hn (fun i hi => by
          have h5 := hl i hi
          have h6 : i ≠ n := fun z => hx (z ▸ hi)
          omega)
        omega
  exact this np _ h1 h2
/-- a method of the class: from state σ it answers r and leaves σ', whatever the budget (its pages' worth at least) -/
def cx_Met (l : Launch) (D : va_G) (cI cP : ClassId) (a : cx_a) (κ : sh_K) (np : Nat) (y : MethodName) (b : ByteArray) (maxL : Nat) (ret : Option FieldType) (fr lc : Nat) (av : List Value) (σ : sh_S) (r : Option Value) (σ' : sh_S) : Prop :=
  nal σ ≤ nal σ' ∧ ∀ (Lp : List (Nat × Nat × Nat)) (sz bc bs : Nat), 2 * (np - nal σ) ≤ bc → 1025 * (np - nal σ) ≤ bs →
    Met l y (.code y b maxL ret :: bt) ({ frames := fr, cells := bc, slots := bs, locals := lc }) (va_Pc av (cx_Pre D cI cP a κ np σ Lp sz)) (sx_Q r (fun t => ∃ Lp', cx_St D cI cP a κ np σ' Lp' (va_A (cx_w cI cP a κ np σ Lp) sz) t.heap) (va_A (cx_w cI cP a κ np σ Lp) sz) (2 * (nal σ' - nal σ)) (1025 * (nal σ' - nal σ))) bc bs (va_A (cx_w cI cP a κ np σ Lp) sz)
/-- one that only looks -/
def cx_Rd (l : Launch) (D : va_G) (cI cP : ClassId) (a : cx_a) (κ : sh_K) (np : Nat) (y : MethodName) (b : ByteArray) (maxL : Nat) (ret : Option FieldType) (fr lc : Nat) (av : List Value) (σ : sh_S) (r : Int32) : Prop :=
  ∀ (Lp : List (Nat × Nat × Nat)) (sz : Nat), Met l y (.code y b maxL ret :: bt) ({ frames := fr, cells := 0, slots := 0, locals := lc }) (va_Pc av (cx_Pre D cI cP a κ np σ Lp sz)) (QcRead r) 0 0 (fun _ => False)
/-- a static function of ints -/
def cx_Fn (l : Launch) (y : MethodName) (b : ByteArray) (maxL : Nat) (ret : Option FieldType) (fr lc : Nat) (av : List Value) (r : Int32) : Prop :=
  Met l y (.code y b maxL ret :: bt) ({ frames := fr, cells := 0, slots := 0, locals := lc }) (va_Pc av (fun _ => True)) (QcRead r) 0 0 (fun _ => False)
/-- what a walk inside the class knows -/
def cx_Wd (D : va_G) (cI cP : ClassId) (a : cx_a) (κ : sh_K) (np : Nat) (s : State) (A : Nat → Prop) (n0 : Nat) (σ : sh_S) (H : Heap) (locs : List Loc) : Prop :=
  (∃ Lp, cx_St D cI cP a κ np σ Lp A H) ∧ va_S A s.heap H locs ∧ va_K D vwC (cx_tys cI cP) s ∧ nx s ∧ n0 ≤ nal σ ∧ (∀ q, s.heap.size ≤ q → A q)
section CXR
variable {p : Program} {l : Launch} {e : Env} {R : Room} {s : State} {m : MethodId} {args : Array Value} {below : List Frame} {meth : Method} {c : Code} {H : Heap} {locs : List Loc} {Q : State → Prop} {D : va_G} {cI cP : ClassId} {a : cx_a} {κ : sh_K} {np n0 nL : Nat} {A : Nat → Prop} {σ : sh_S} {cc : ByteArray} {pc cells slots : Nat} {ls : Array Slot} {rest st0 : List Value} {c1 : Cond} {own : String}
theorem cx_Wd.le (h : cx_Wd D cI cP a κ np s A n0 σ H locs) : nal σ ≤ np := by
  obtain ⟨⟨Lp, h1, -⟩, -⟩ := h
  exact cx_len h1
theorem cx_get (S : CallFix p m c cc nL s args (c1 :: bt) own) (hw : cx_Wd D cI cP a κ np s A n0 σ H locs) {q0 ci k index N ao : Nat} {C : String} {T : u_T} {fs : List Value} {v : Value} (he : ∀ Lp, (cx_w cI cP a κ np σ Lp)[q0]? = some (ao, .inr (ci, fs))) (hc : vwC[ci]? = some (C, T, N)) (hk : k < N) (hin : ∀ w ∈ u_ws C T N, w ∈ bt)
    (hlink : Cond.fieldLink own index C (T k).2.1 (T k).2.2.1 ∈ bt) (hsame : (T k).1 = C) (hv : fs[k]? = some v) (hdg : decode cc pc = .ok (.getfield index, 3)) (kk : W p l e R s m args below meth c H locs cells slots Q (F0 m (pc + 3) ls (v :: rest))) : W p l e R s m args below meth c H locs cells slots Q (F0 m pc ls (.ref ao :: rest)) := by
  obtain ⟨hx, hb, hml, hown, hts⟩ := S
  obtain ⟨⟨Lp, -, hP, hD⟩, hS, hK, -⟩ := hw
  exact va_get (D := D) (ci := ci) (v := v) (C := C) (T := T) (N := N) hx hb hts (fun w h => List.mem_cons_of_mem _ (hin w h)) hown hK hP q0 (he Lp) hc k hk (hts _ (List.mem_cons_of_mem _ hlink)) (fun _ h9 => by rw [← hsame]; exact h9) hv hdg kk
theorem cx_getN (S : CallFix p m c cc nL s args (c1 :: bt) own) (hw : cx_Wd D cI cP a κ np s A n0 σ H locs) {q0 ci k index N ao : Nat} {C : String} {T : u_T} {fs : List Value} {v : Value} (he : ∀ Lp, (cx_w cI cP a κ np σ Lp)[q0]? = some (ao, .inr (ci, fs))) (hc : vwC[ci]? = some (C, T, N)) (hk : k < N) (hin : ∀ w ∈ u_ws C T N, w ∈ bt)
    (hlink : Cond.fieldLinkNest own index C (T k).2.1 (T k).2.2.1 "StepHeap" ∈ nx_w) (hsame : (T k).1 = C) (hv : fs[k]? = some v) (hdg : decode cc pc = .ok (.getfield index, 3)) (kk : W p l e R s m args below meth c H locs cells slots Q (F0 m (pc + 3) ls (v :: rest))) : W p l e R s m args below meth c H locs cells slots Q (F0 m pc ls (.ref ao :: rest)) := by
  obtain ⟨hx, hb, hml, hown, hts⟩ := S
  obtain ⟨⟨Lp, -, hP, hD⟩, hS, hK, hn, -⟩ := hw
  exact va_getN (D := D) (ci := ci) (v := v) (C := C) (T := T) (N := N) hx hb hts (fun w h => List.mem_cons_of_mem _ (hin w h)) hown hK hP q0 (he Lp) hc k hk (va_Nw.use rfl (hn _ hlink)) (fun _ h9 => by rw [← hsame]; exact h9) hv hdg kk
theorem cx_put (S : CallFix p m c cc nL s args (c1 :: bt) own) (hw : cx_Wd D cI cP a κ np s A n0 σ H locs) {q0 ci k index N ao : Nat} {C : String} {T : u_T} {fs : List Value} {v : Value} {σ' : sh_S} {ty : FieldType} (he : ∀ Lp, (cx_w cI cP a κ np σ Lp)[q0]? = some (ao, .inr (ci, fs))) (hc : vwC[ci]? = some (C, T, N)) (hk : k < N) (hin : ∀ w ∈ u_ws C T N, w ∈ bt)
    (ty0 : Nat → FieldType) (hty : ∀ k, k < N → parseFieldDescriptor (T k).2.2.1 = some (ty0 k)) (hnm : ∀ a, a < N → ∀ b, b < N → a ≠ b → (T a).2.1 ≠ (T b).2.1) (hlink : Cond.fieldLink own index C (T k).2.1 (T k).2.2.1 ∈ bt) (hsame : (T k).1 = C) (hfin : (T k).2.2.2 = false) (hd : ty0 k = ty) (hn : narrow ty v = v) (hfit : fits ty v = true) (hl : k < fs.length)
    (hset : ∀ Lp, (cx_w cI cP a κ np σ Lp).set q0 (ao, .inr (ci, fs.set k v)) = cx_w cI cP a κ np σ' Lp) (e1 : sPgs σ' = sPgs σ) (e2 : sMem σ' = sMem σ) (hdg : decode cc pc = .ok (.putfield index, 3))
    (kk : ∀ (H1 : Heap) (locs1 : List Loc), cx_Wd D cI cP a κ np s A n0 σ' H1 locs1 → W p l e R s m args below meth c H1 locs1 cells slots Q (F0 m (pc + 3) ls rest)) : W p l e R s m args below meth c H locs cells slots Q (F0 m pc ls (v :: .ref ao :: rest)) := by
  obtain ⟨hx, hb, hml, hown, hts⟩ := S
  obtain ⟨⟨Lp, hok, hP, hD⟩, hS, hK, hrest⟩ := hw
  refine va_put (D := D) (ci := ci) (v := v) (ty := ty) (C := C) (T := T) (N := N) hx hb hts (fun w h => List.mem_cons_of_mem _ (hin w h)) ty0 hty hnm hown hK hP hD hS q0 (he Lp) hc k hk (hts _ (List.mem_cons_of_mem _ hlink)) (fun _ h9 => by rw [← hsame]; exact h9) hfin (by rw [hty k hk, hd]) hn hfit hl hdg (fun H1 locs1 hP hD hS => ?_)
  rw [hset Lp] at hP hD
  exact kk H1 locs1 ⟨⟨Lp, by unfold cx_ok at hok ⊢; rw [e1, e2]; exact hok, hP, hD⟩, hS, hK, by rw [show nal σ' = nal σ from congrArg List.length e1]; exact hrest⟩
theorem cx_rld (S : CallFix p m c cc nL s args (c1 :: bt) own) (hw : cx_Wd D cI cP a κ np s A n0 σ H locs) {i : Int32} (hin : vp_in i 8) (hdg : decode cc pc = .ok (.iaload, 1)) (kk : W p l e R s m args below meth c H locs cells slots Q (F0 m (pc + 1) ls (.int (sReg σ i.toNatClampNeg) :: rest))) : W p l e R s m args below meth c H locs cells slots Q (F0 m pc ls (.int i :: .ref (aXR a) :: rest)) := by
  obtain ⟨hx, hb, hml, hown, hts⟩ := S
  obtain ⟨⟨Lp, -, hP, hD⟩, hS, hK, -⟩ := hw
  exact va_iald (D := D) hx hb hK hP 3 0 rfl rfl hin hdg kk
theorem cx_rst (S : CallFix p m c cc nL s args (c1 :: bt) own) (hw : cx_Wd D cI cP a κ np s A n0 σ H locs) {i v : Int32} (hin : vp_in i 8) (hdg : decode cc pc = .ok (.iastore, 1)) (kk : ∀ (H1 : Heap) (locs1 : List Loc), cx_Wd D cI cP a κ np s A n0 (uReg σ (upd (sReg σ) i.toNatClampNeg v)) H1 locs1 → W p l e R s m args below meth c H1 locs1 cells slots Q (F0 m (pc + 1) ls rest)) : W p l e R s m args below meth c H locs cells slots Q (F0 m pc ls (.int v :: .int i :: .ref (aXR a) :: rest)) := by
  obtain ⟨hx, hb, hml, hown, hts⟩ := S
  obtain ⟨⟨Lp, hok, hP, hD⟩, hS, hK, hrest⟩ := hw
  refine va_iast (D := D) hx hb hK hP hD hS 3 0 rfl rfl hin hdg (fun H1 locs1 hP hD hS => ?_)
  exact kk H1 locs1 ⟨⟨Lp, hok, hP, hD⟩, hS, hK, hrest⟩
/-- a static function is called -/
theorem cx_fn (S : CallFix p m c cc nL s args (c1 :: bt) own) {y : MethodName} {b : ByteArray} {maxL fr lc n index : Nat} {ret : Option FieldType} {As : List Value} {r : Int32} (hM : cx_Fn l y b maxL ret fr lc As r) (h1 : Cond.code y b maxL ret ∈ bt) (h2 : Cond.methodLink own index y ∈ bt) (h3 : Cond.static y ∈ bt) (h4 : Cond.initialized y.cls ∈ bt)
    (hd : y.cls ≠ "java/lang/invoke/MethodHandle" ∧ y.cls ≠ "java/lang/invoke/VarHandle" ∧ (parseMethodDescriptor y.desc).map (fun d => d.parameters.length) = some n) (hn : As.length = n) (hR : fr + 1 ≤ R.frames ∧ 8 + (maxL + 11) + lc ≤ R.locals) (hsize : ls.size = nL) (hst : st0 = As.reverse ++ rest) (hr : (rest.map fun v => v.category).sum ≤ 8) (hdg : decode cc pc = .ok (.invokestatic index, 3)) (hf : cells ≤ R.cells ∧ slots ≤ R.slots)
    (kk : W p l e R s m args below meth c H locs cells slots Q (F0 m (pc + 3) ls (.int r :: rest))) : W p l e R s m args below meth c H locs cells slots Q (F0 m pc ls st0) := by
  have hts := S.2.2.2.2
  have up := fun {w : Cond} (h : w ∈ bt) => hts w (List.mem_cons_of_mem _ h)
  refine W.callR (W.runS (As := As) (rest := rest) S hM ⟨callB_of (ws' := bt) n hts (bt_gi h1) rfl rfl rfl (up h4) (up h2) hd hR, up h3⟩ ⟨fun v U g mk q => q, fun U hU hW => ⟨rfl, trivial⟩⟩ rfl hn hsize hst (lv_room hr) hdg ⟨hf.1, hf.2⟩) kk
end CXR
end
section
/-! ===== CALLS OF THE CLASS'S OWN METHODS; a method's start and end ===== -/
section CXC
variable {p : Program} {l : Launch} {e : Env} {R : Room} {s : State} {m : MethodId} {args : Array Value} {below : List Frame} {meth : Method} {c : Code} {H : Heap} {locs : List Loc} {Q : State → Prop} {D : va_G} {cI cP : ClassId} {a : cx_a} {κ : sh_K} {np n0 nL : Nat} {A : Nat → Prop} {σ : sh_S} {cc : ByteArray} {pc cells slots : Nat} {ls : Array Slot} {rest st0 : List Value} {c1 : Cond} {own : String}
theorem cx_Wd.free {Lp : List (Nat × Nat × Nat)} {H0 : Heap} (hD : va_D A (cx_w cI cP a κ np σ Lp)) (hS : va_S A H0 H locs) (hA : ∀ q, H0.size ≤ q → A q) : ∀ q, va_A (cx_w cI cP a κ np σ Lp) H.size q → A q := by
  intro q h
  rcases h with ⟨k, e, h⟩ | h
  · exact hD.2 k (q, e) h
  · exact hA q (Nat.le_trans hS.1 h)
theorem cx_Wd.fit (h : cx_Wd D cI cP a κ np s A n0 σ H locs) (hb : 2 * (np - n0) ≤ R.cells ∧ 1025 * (np - n0) ≤ R.slots) : 2 * (nal σ - n0) ≤ R.cells ∧ 1025 * (nal σ - n0) ≤ R.slots := by
  have := h.le
  omega
theorem cx_call (S : CallFix p m c cc nL s args (c1 :: bt) own) (hw : cx_Wd D cI cP a κ np s A n0 σ H locs) (hbud : 2 * (np - n0) ≤ R.cells ∧ 1025 * (np - n0) ≤ R.slots)
    {y : MethodName} {b : ByteArray} {maxL fr lc n index q0 ci ao : Nat} {ret : Option FieldType} {As fs : List Value} {r : Option Value} {σ' : sh_S} {q : vw_C} (hM : cx_Met l D cI cP a κ np y b maxL ret fr lc (.ref ao :: As) σ r σ')
    (he : ∀ Lp, (cx_w cI cP a κ np σ Lp)[q0]? = some (ao, .inr (ci, fs))) (hc : vwC[ci]? = some q) (h1 : Cond.code y b maxL ret ∈ bt) (h2 : Cond.methodLink own index y ∈ bt) (h3 : Cond.instanceMethod y ∈ bt) (h4 : Cond.selects q.1 y y ∈ bt) (h5 : Cond.initialized q.1 ∈ bt)
    (hd : y.cls = q.1 ∧ y.cls ≠ "java/lang/invoke/MethodHandle" ∧ y.cls ≠ "java/lang/invoke/VarHandle" ∧ (parseMethodDescriptor y.desc).map (fun d => d.parameters.length) = some n) (hn : As.length = n) (hR : fr + 1 ≤ R.frames ∧ 8 + (maxL + 11) + lc ≤ R.locals) (hsize : ls.size = nL) (hst : st0 = As.reverse ++ .ref ao :: rest) (hr : (rest.map fun v => v.category).sum ≤ 8) (hdg : decode cc pc = .ok (.invokevirtual index, 3))
    (kk : ∀ (H1 : Heap) (locs1 : List Loc), cx_Wd D cI cP a κ np s A n0 σ' H1 locs1 → W p l e R s m args below meth c H1 locs1 (2 * (nal σ' - n0)) (1025 * (nal σ' - n0)) Q (F0 m (pc + 3) ls (r.toList ++ rest))) : W p l e R s m args below meth c H locs (2 * (nal σ - n0)) (1025 * (nal σ - n0)) Q (F0 m pc ls st0) := by
  have hle := hw.le
  obtain ⟨⟨Lp, hok, hP, hD⟩, hS, hK, hnx, h0, hA⟩ := hw
  have hts := S.2.2.2.2
  have hFc := cx_Wd.free hD hS hA
  have hm := hM.1
  refine sx_call (va_runV (As := As) (rest := rest) S (hM.2 Lp H.size (R.cells - 2 * (nal σ - n0)) (R.slots - 1025 * (nal σ - n0)) (by omega) (by omega)) (cwV n hts (bt_V h1 h2 h3 h4 h5) rfl rfl rfl hd hR)
    ⟨cx_Pre.blind, va_recv hK hP hc (he Lp), fun U hU hW => ⟨rfl, by rw [hU], ⟨hok, by rw [hU]; exact hP, hD.weaken (fun _ _ _ _ => trivial)⟩, va_K.moved hW.alike hK, nx.warm hW hnx⟩⟩ rfl hn hsize hst (lv_room hr) hdg ⟨by omega, by omega⟩) hS (fun q _ h => hFc q h) hFc (fun t H1 locs1 ht hvm hB hz hk1 hS1 => ?_)
  obtain ⟨Lp', hB1, hP1, hD1⟩ := hB
  rw [ht] at hP1
  exact W.cs (by omega) (by omega) (kk H1 locs1 ⟨⟨Lp', hB1, hP1, hD1.weaken (fun k q _ h => hFc q.1 h)⟩, hS1, hK, hnx, by omega, hA⟩)
theorem cx_rd (S : CallFix p m c cc nL s args (c1 :: bt) own) (hw : cx_Wd D cI cP a κ np s A n0 σ H locs) (hf : cells ≤ R.cells ∧ slots ≤ R.slots)
    {y : MethodName} {b : ByteArray} {maxL fr lc n index q0 ci ao : Nat} {ret : Option FieldType} {As fs : List Value} {r : Int32} {q : vw_C} (hM : cx_Rd l D cI cP a κ np y b maxL ret fr lc (.ref ao :: As) σ r)
    (he : ∀ Lp, (cx_w cI cP a κ np σ Lp)[q0]? = some (ao, .inr (ci, fs))) (hc : vwC[ci]? = some q) (h1 : Cond.code y b maxL ret ∈ bt) (h2 : Cond.methodLink own index y ∈ bt) (h3 : Cond.instanceMethod y ∈ bt) (h4 : Cond.selects q.1 y y ∈ bt) (h5 : Cond.initialized q.1 ∈ bt)
    (hd : y.cls = q.1 ∧ y.cls ≠ "java/lang/invoke/MethodHandle" ∧ y.cls ≠ "java/lang/invoke/VarHandle" ∧ (parseMethodDescriptor y.desc).map (fun d => d.parameters.length) = some n) (hn : As.length = n) (hR : fr + 1 ≤ R.frames ∧ 8 + (maxL + 11) + lc ≤ R.locals) (hsize : ls.size = nL) (hst : st0 = As.reverse ++ .ref ao :: rest) (hr : (rest.map fun v => v.category).sum ≤ 8) (hdg : decode cc pc = .ok (.invokevirtual index, 3))
    (kk : W p l e R s m args below meth c H locs cells slots Q (F0 m (pc + 3) ls (.int r :: rest))) : W p l e R s m args below meth c H locs cells slots Q (F0 m pc ls st0) := by
  obtain ⟨⟨Lp, hok, hP, hD⟩, hS, hK, hnx, h0, hA⟩ := hw
  have hts := S.2.2.2.2
  exact W.callR (W.runV (As := As) (rest := rest) S (hM Lp H.size) (cwV n hts (bt_V h1 h2 h3 h4 h5) rfl rfl rfl hd hR)
    ⟨cx_Pre.blind, va_recv hK hP hc (he Lp), fun U hU hW => ⟨rfl, by rw [hU], ⟨hok, by rw [hU]; exact hP, hD.weaken (fun _ _ _ _ => trivial)⟩, va_K.moved hW.alike hK, nx.warm hW hnx⟩⟩ rfl hn hsize hst (lv_room hr) hdg ⟨hf.1, hf.2⟩) kk
/-- a private static function of a nest mate -/
theorem cx_fnN (S : CallFix p m c cc nL s args (c1 :: bt) own) (hnx : nx s) {y : MethodName} {b : ByteArray} {maxL fr lc n index : Nat} {ret : Option FieldType} {As : List Value} {r : Int32} (hM : cx_Fn l y b maxL ret fr lc As r) (h1 : Cond.code y b maxL ret ∈ bt) (h2 : Cond.methodLinkNest own index y "StepHeap" ∈ nx_w) (h3 : Cond.static y ∈ bt) (h4 : Cond.initialized y.cls ∈ bt)
    (hd : y.cls ≠ "java/lang/invoke/MethodHandle" ∧ y.cls ≠ "java/lang/invoke/VarHandle" ∧ (parseMethodDescriptor y.desc).map (fun d => d.parameters.length) = some n) (hn : As.length = n) (hR : fr + 1 ≤ R.frames ∧ 8 + (maxL + 11) + lc ≤ R.locals) (hsize : ls.size = nL) (hst : st0 = As.reverse ++ rest) (hr : (rest.map fun v => v.category).sum ≤ 8) (hdg : decode cc pc = .ok (.invokestatic index, 3)) (hf : cells ≤ R.cells ∧ slots ≤ R.slots)
    (kk : W p l e R s m args below meth c H locs cells slots Q (F0 m (pc + 3) ls (.int r :: rest))) : W p l e R s m args below meth c H locs cells slots Q (F0 m pc ls st0) := by
  have hts := S.2.2.2.2
  have up := fun {w : Cond} (h : w ∈ bt) => hts w (List.mem_cons_of_mem _ h)
  refine W.callR (va_Run.run (va_runSN (As := As) (rest := rest) S hM ⟨va_cnB (ws' := bt) n hts (bt_gi h1) rfl rfl rfl (hnx _ h2) (up h4) hd hR, up h3, trivial⟩ ⟨fun v U g mk q => q, fun U hU hW => ⟨rfl, trivial⟩⟩ rfl hn hsize hst (lv_room hr) hdg ⟨hf.1, hf.2⟩)) kk
end CXC
section CXS
variable {l : Launch} {D : va_G} {cI cP : ClassId} {a : cx_a} {κ : sh_K} {np : Nat} {σ σ' : sh_S} {y : MethodName} {b : ByteArray} {maxL fr lc : Nat} {ret : Option FieldType} {av : List Value}
/-- a method's start -/
theorem cx_start {r : Option Value} (hy : plainName y.cls = true) (hlen : (lg_sl av).length ≤ maxL) (hle : nal σ ≤ nal σ')
    (body : ∀ (p : Program) (e : Env) (R : Room) (s : State) (m : MethodId) (args : Array Value) (below : List Frame) (meth : Method) (c : Code) (A : Nat → Prop) (ls : Array Slot), CallFix p m c b maxL s args (.code y b maxL ret :: bt) y.cls → meth.sig.returnType = ret → meth.locks = false → R.frames = fr → R.locals = lc → cx_Wd D cI cP a κ np s A (nal σ) σ s.heap [] → (2 * (np - nal σ) ≤ R.cells ∧ 1025 * (np - nal σ) ≤ R.slots) → lv_has ls maxL (lv_args 0 av) →
      W p l e R s m args below meth c s.heap [] (2 * (nal σ - nal σ)) (1025 * (nal σ - nal σ)) (MQ below (sx_Q r (fun t => ∃ Lp', cx_St D cI cP a κ np σ' Lp' A t.heap) A (2 * (nal σ' - nal σ)) (1025 * (nal σ' - nal σ))) args s R.cells R.slots A) (F0 m 0 ls [])) :
    cx_Met l D cI cP a κ np y b maxL ret fr lc av σ r σ' := by
  refine ⟨hle, fun Lp sz bc bs h1 h2 => ?_⟩
  refine Met.ofW (cc := b) (maxL := maxL) (ret := ret) hy rfl ?_
  intro p e s m args below meth c s₁ B hml hv
  obtain ⟨rfl, hsz, ⟨hok, hP, hD0⟩, hK, hnx⟩ := hv
  have hts := atoms_spec (ws := .code y b maxL ret :: bt) B.pre
  subst hsz
  have hD := hD0.self (sz := s.heap.size)
  have hl := lv_entry av (n := maxL) hlen
  rw [lg_entry_eq]
  refine W.cs (by omega) (by omega) (body p e _ s m _ below meth c _ _ ⟨B.exec, B.bytes, hml, findClass_of_methodNamed B.named, hts⟩ B.returns B.notSynchronized rfl rfl ⟨⟨Lp, hok, hP, hD⟩, va_S.rf, hK, hnx, Nat.le_refl _, fun q h => Or.inr h⟩ ⟨h1, h2⟩ hl)
theorem cx_startR {r : Int32} (hy : plainName y.cls = true) (hlen : (lg_sl av).length ≤ maxL)
    (body : ∀ (p : Program) (e : Env) (R : Room) (s : State) (m : MethodId) (args : Array Value) (below : List Frame) (meth : Method) (c : Code) (A : Nat → Prop) (ls : Array Slot), CallFix p m c b maxL s args (.code y b maxL ret :: bt) y.cls → meth.sig.returnType = ret → meth.locks = false → R.frames = fr → R.locals = lc → cx_Wd D cI cP a κ np s A (nal σ) σ s.heap [] → lv_has ls maxL (lv_args 0 av) →
      W p l e R s m args below meth c s.heap [] 0 0 (MQ below (QcRead r) args s 0 0 (fun _ => False)) (F0 m 0 ls [])) :
    cx_Rd l D cI cP a κ np y b maxL ret fr lc av σ r := by
  intro Lp sz
  refine Met.ofW (cc := b) (maxL := maxL) (ret := ret) hy rfl ?_
  intro p e s m args below meth c s₁ B hml hv
  obtain ⟨rfl, hsz, ⟨hok, hP, hD0⟩, hK, hnx⟩ := hv
  have hts := atoms_spec (ws := .code y b maxL ret :: bt) B.pre
  subst hsz
  have hD := hD0.self (sz := s.heap.size)
  have hl := lv_entry av (n := maxL) hlen
  rw [lg_entry_eq]
  exact body p e _ s m _ below meth c _ _ ⟨B.exec, B.bytes, hml, findClass_of_methodNamed B.named, hts⟩ B.returns B.notSynchronized rfl rfl ⟨⟨Lp, hok, hP, hD⟩, va_S.rf, hK, hnx, Nat.le_refl _, fun q h => Or.inr h⟩ hl
theorem cx_startF {r : Int32} (hy : plainName y.cls = true) (hlen : (lg_sl av).length ≤ maxL)
    (body : ∀ (p : Program) (e : Env) (R : Room) (s : State) (m : MethodId) (args : Array Value) (below : List Frame) (meth : Method) (c : Code) (ls : Array Slot), CallFix p m c b maxL s args (.code y b maxL ret :: bt) y.cls → meth.sig.returnType = ret → meth.locks = false → R.frames = fr → R.locals = lc → lv_has ls maxL (lv_args 0 av) →
      W p l e R s m args below meth c s.heap [] 0 0 (MQ below (QcRead r) args s 0 0 (fun _ => False)) (F0 m 0 ls [])) :
    cx_Fn l y b maxL ret fr lc av r := by
  refine Met.ofW (cc := b) (maxL := maxL) (ret := ret) hy rfl ?_
  intro p e s m args below meth c s₁ B hml hv
  obtain ⟨rfl, -⟩ := hv
  have hts := atoms_spec (ws := .code y b maxL ret :: bt) B.pre
  have hl := lv_entry av (n := maxL) hlen
  rw [lg_entry_eq]
  exact body p e _ s m _ below meth c _ ⟨B.exec, B.bytes, hml, findClass_of_methodNamed B.named, hts⟩ B.returns B.notSynchronized rfl rfl hl
end CXS
section CXE
variable {p : Program} {l : Launch} {e : Env} {R : Room} {s : State} {m : MethodId} {args : Array Value} {below : List Frame} {meth : Method} {c : Code} {H : Heap} {locs : List Loc} {D : va_G} {cI cP : ClassId} {a : cx_a} {κ : sh_K} {np n0 nL : Nat} {A : Nat → Prop} {σ σ' : sh_S} {cc : ByteArray} {pc : Nat} {ls : Array Slot} {c1 : Cond} {own : String}
theorem cx_retI {v : Int32} {r : Option Value} (S : CallFix p m c cc nL s args (c1 :: bt) own) (hr : meth.sig.returnType = some .int) (hlk : meth.locks = false) (hw : cx_Wd D cI cP a κ np s A n0 σ H locs) (hbud : 2 * (np - n0) ≤ R.cells ∧ 1025 * (np - n0) ≤ R.slots) (hv : r = some (.int v)) (hs : σ' = σ) (hdg : decode cc pc = .ok (.ireturn, 1)) :
    W p l e R s m args below meth c H locs (2 * (nal σ - n0)) (1025 * (nal σ - n0)) (MQ below (sx_Q r (fun t => ∃ Lp', cx_St D cI cP a κ np σ' Lp' A t.heap) A (2 * (nal σ' - n0)) (1025 * (nal σ' - n0))) args s R.cells R.slots A) (F0 m pc ls [.int v]) := by
  subst hs; subst hv
  have hf := hw.fit hbud
  obtain ⟨⟨Lp, h1⟩, hS, -⟩ := hw
  exact sx_end hf.1 hf.2 (W.iret S.1 S.2.1 hr (fun t ht hW => ⟨rfl, ⟨Lp, by rw [ht]; exact h1⟩, hS.F ht⟩) hS.2.2 hdg hlk)
theorem cx_retZ {v : Int32} {r : Option Value} (S : CallFix p m c cc nL s args (c1 :: bt) own) (hr : meth.sig.returnType = some .boolean) (hlk : meth.locks = false) (hw : cx_Wd D cI cP a κ np s A n0 σ H locs) (hbud : 2 * (np - n0) ≤ R.cells ∧ 1025 * (np - n0) ≤ R.slots) (hv : r = some (.int v)) (hz : v = 0 ∨ v = 1) (hs : σ' = σ) (hdg : decode cc pc = .ok (.ireturn, 1)) :
    W p l e R s m args below meth c H locs (2 * (nal σ - n0)) (1025 * (nal σ - n0)) (MQ below (sx_Q r (fun t => ∃ Lp', cx_St D cI cP a κ np σ' Lp' A t.heap) A (2 * (nal σ' - n0)) (1025 * (nal σ' - n0))) args s R.cells R.slots A) (F0 m pc ls [.int v]) := by
  subst hs; subst hv
  have hf := hw.fit hbud
  obtain ⟨⟨Lp, h1⟩, hS, -⟩ := hw
  exact sx_end hf.1 hf.2 (W.zret S.1 S.2.1 hr (by rcases hz with rfl | rfl <;> rfl) (fun t ht hW => ⟨rfl, ⟨Lp, by rw [ht]; exact h1⟩, hS.F ht⟩) hS.2.2 hdg hlk)
theorem cx_retL {v : Int64} {r : Option Value} (S : CallFix p m c cc nL s args (c1 :: bt) own) (hr : meth.sig.returnType = some .long) (hlk : meth.locks = false) (hw : cx_Wd D cI cP a κ np s A n0 σ H locs) (hbud : 2 * (np - n0) ≤ R.cells ∧ 1025 * (np - n0) ≤ R.slots) (hv : r = some (.long v)) (hs : σ' = σ) (hdg : decode cc pc = .ok (.lreturn, 1)) :
    W p l e R s m args below meth c H locs (2 * (nal σ - n0)) (1025 * (nal σ - n0)) (MQ below (sx_Q r (fun t => ∃ Lp', cx_St D cI cP a κ np σ' Lp' A t.heap) A (2 * (nal σ' - n0)) (1025 * (nal σ' - n0))) args s R.cells R.slots A) (F0 m pc ls [.long v]) := by
  subst hs; subst hv
  have hf := hw.fit hbud
  obtain ⟨⟨Lp, h1⟩, hS, -⟩ := hw
  exact sx_end hf.1 hf.2 (W.lret S.1 S.2.1 hr (fun t ht hW => ⟨rfl, ⟨Lp, by rw [ht]; exact h1⟩, hS.F ht⟩) hS.2.2 hdg hlk)
theorem cx_retV {r : Option Value} (S : CallFix p m c cc nL s args (c1 :: bt) own) (hr : meth.sig.returnType = none) (hlk : meth.locks = false) (hw : cx_Wd D cI cP a κ np s A n0 σ H locs) (hbud : 2 * (np - n0) ≤ R.cells ∧ 1025 * (np - n0) ≤ R.slots) (hv : r = none) (hs : σ' = σ) (hdg : decode cc pc = .ok (.return_, 1)) :
    W p l e R s m args below meth c H locs (2 * (nal σ - n0)) (1025 * (nal σ - n0)) (MQ below (sx_Q r (fun t => ∃ Lp', cx_St D cI cP a κ np σ' Lp' A t.heap) A (2 * (nal σ' - n0)) (1025 * (nal σ' - n0))) args s R.cells R.slots A) (F0 m pc ls []) := by
  subst hs; subst hv
  have hf := hw.fit hbud
  obtain ⟨⟨Lp, h1⟩, hS, -⟩ := hw
  exact sx_end hf.1 hf.2 (W.vret S.1 S.2.1 hr (fun t ht hW => ⟨rfl, ⟨Lp, by rw [ht]; exact h1⟩, hS.F ht⟩) hS.2.2 hdg hlk)
theorem cx_endI {v r : Int32} (S : CallFix p m c cc nL s args (c1 :: bt) own) (hr : meth.sig.returnType = some .int) (hlk : meth.locks = false) (hv : r = v) (hdg : decode cc pc = .ok (.ireturn, 1)) :
    W p l e R s m args below meth c s.heap [] 0 0 (MQ below (QcRead r) args s 0 0 (fun _ => False)) (F0 m pc ls [.int v]) := by
  subst hv
  exact W.iret S.1 S.2.1 hr (fun t ht hW => ⟨rfl, ht⟩) (fun _ h => absurd h List.not_mem_nil) hdg hlk
theorem cx_endZ {v r : Int32} (S : CallFix p m c cc nL s args (c1 :: bt) own) (hr : meth.sig.returnType = some .boolean) (hlk : meth.locks = false) (hv : r = v) (hz : v = 0 ∨ v = 1) (hdg : decode cc pc = .ok (.ireturn, 1)) :
    W p l e R s m args below meth c s.heap [] 0 0 (MQ below (QcRead r) args s 0 0 (fun _ => False)) (F0 m pc ls [.int v]) := by
  subst hv
  exact W.zret S.1 S.2.1 hr (by rcases hz with rfl | rfl <;> rfl) (fun t ht hW => ⟨rfl, ht⟩) (fun _ h => absurd h List.not_mem_nil) hdg hlk
end CXE
end
section
/-! ===== nest words; static functions of ints ===== -/
theorem nxw_0 : Cond.fieldLinkNest "StepHeap" 137 "StepHeap$Cells" "steady" "Z" "StepHeap" ∈ nx_w := List.mem_of_getElem? (i := 0) rfl
theorem nxw_1 : Cond.fieldLinkNest "StepHeap" 30 "StepHeap$Mover" "cells" "LStepHeap$Cells;" "StepHeap" ∈ nx_w := List.mem_of_getElem? (i := 1) rfl
theorem nxw_2 : Cond.fieldLinkNest "StepHeap" 134 "StepHeap$Mover" "limit" "I" "StepHeap" ∈ nx_w := List.mem_of_getElem? (i := 2) rfl
theorem nxw_3 : Cond.fieldLinkNest "StepHeap" 131 "StepHeap$Mover" "made" "I" "StepHeap" ∈ nx_w := List.mem_of_getElem? (i := 3) rfl
theorem nxw_4 : Cond.fieldLinkNest "StepHeap" 119 "StepHeap$Mover" "begun" "I" "StepHeap" ∈ nx_w := List.mem_of_getElem? (i := 4) rfl
theorem nxw_5 : Cond.fieldLinkNest "StepHeap$Cells" 32 "StepHeap$Page" "row" "[I" "StepHeap" ∈ nx_w := List.mem_of_getElem? (i := 5) rfl
theorem nxw_6 : Cond.methodLinkNest "StepHeap$Cells" 36 ⟨"StepHeap$Page", "<init>", "()V"⟩ "StepHeap" ∈ nx_w := List.mem_of_getElem? (i := 6) rfl
theorem nxw_7 : Cond.methodLinkNest "StepHeap$Mover" 44 ⟨"StepHeap", "isRegister", "(I)Z"⟩ "StepHeap" ∈ nx_w := List.mem_of_getElem? (i := 7) rfl
theorem i32_nlt {x y : Int32} (h : y ≤ x) : ¬ x < y := by rw [Int32.lt_iff_toInt_lt]; rw [Int32.le_iff_toInt_le] at h; omega
theorem i32_lt {x y : Int32} (h : ¬ y ≤ x) : x < y := by rw [Int32.lt_iff_toInt_lt]; rw [Int32.le_iff_toInt_le] at h; omega
theorem i32_nle {x y : Int32} (h : y < x) : ¬ x ≤ y := by rw [Int32.le_iff_toInt_le]; rw [Int32.lt_iff_toInt_lt] at h; omega
theorem i32_le {x y : Int32} (h : ¬ y < x) : x ≤ y := by rw [Int32.le_iff_toInt_le]; rw [Int32.lt_iff_toInt_lt] at h; omega
abbrev uTouS (σ : sh_S) (v : Int32) : sh_S := ((v, σ.1.2), σ.2)
abbrev uSteS (σ : sh_S) (v : Int32) : sh_S := ((σ.1.1, v, σ.1.2.2), σ.2)
theorem z_isArr (h : Int32) : hd_isArr h = 0 ∨ hd_isArr h = 1 := by unfold hd_isArr; split <;> simp
theorem z_refIt (h : Int32) : hd_refIt h = 0 ∨ hd_refIt h = 1 := by unfold hd_refIt; split <;> simp
theorem z_below (x b : Int32) : sh_below x b = 0 ∨ sh_below x b = 1 := by unfold sh_below; split; exact Or.inl rfl; split; exact Or.inl rfl; exact Or.inr rfl
def sh_shape (r i : Int32) : Int32 := if sh_below r 16 = 0 then 0 else if sh_below i 16 = 0 then 0 else if 16 < 1 + r + i then 0 else 1
theorem sh_isReg_eq (r : Int32) : sh_isReg r = sh_below r 8 := rfl
set_option maxHeartbeats 4000000 in
set_option maxRecDepth 100000 in
theorem c_H_ofObject (l : Launch) (r i : Int32) : cx_Fn l y_H_ofObject b_H_ofObject 2 (some .int) 0 0 [.int r, .int i] (hd_obj r i) := by
  refine cx_startF (by decide) (Nat.le_of_ble_eq_true rfl) ?_
  intro p e R s m args below meth c ls S hr hlk hfr hlc hl
  have hl : lv_has ls 2 [(0, .int r), (1, .int i)] := hl
  refine lv_iconst (v := 1) S.1 S.2.1 d_H_ofObject_0 (by decide) ?_
  refine lv_iload_n S.1 S.2.1 d_H_ofObject_1 rfl (lv_at hl 0 rfl) ?_
  refine lv_iconst (v := 1) S.1 S.2.1 d_H_ofObject_2 (by decide) ?_
  refine lv_ishl S.1 S.2.1 d_H_ofObject_3 ?_
  refine lv_ior S.1 S.2.1 d_H_ofObject_4 ?_
  refine lv_iload_n S.1 S.2.1 d_H_ofObject_5 rfl (lv_at hl 1 rfl) ?_
  refine lv_iconst (v := 5) S.1 S.2.1 d_H_ofObject_6 (by decide) ?_
  refine lv_ishl S.1 S.2.1 d_H_ofObject_7 ?_
  refine lv_ior S.1 S.2.1 d_H_ofObject_8 ?_
  exact cx_endI S hr hlk (by first | rfl | (unfold hd_obj; rfl)) d_H_ofObject_9
set_option maxHeartbeats 4000000 in
set_option maxRecDepth 100000 in
theorem c_H_ofNode (l : Launch) (t : Int32) : cx_Fn l y_H_ofNode b_H_ofNode 1 (some .int) 1 21 [.int t] (hd_node t) := by
  refine cx_startF (by decide) (Nat.le_of_ble_eq_true rfl) ?_
  intro p e R s m args below meth c ls S hr hlk hfr hlc hl
  have hl : lv_has ls 1 [(0, .int t)] := hl
  refine lv_iload_n S.1 S.2.1 d_H_ofNode_0 rfl (lv_at hl 0 rfl) ?_
  refine lv_if_eq (tgt := 13) S.1 S.2.1 d_H_ofNode_1 (by decide) (fun c_1 => ?_) (fun c_1 => ?_)
  · refine lv_iconst (v := 0) S.1 S.2.1 d_H_ofNode_13 (by decide) ?_
    refine lv_bipush (v := 15) S.1 S.2.1 d_H_ofNode_14 (by decide) ?_
    refine cx_fn S (As := [.int 0, .int 15]) (rest := []) (c_H_ofObject l 0 15) tb_125 tb_214 tb_124 tb_6 hdf_H_ofObject rfl ⟨by omega, by omega⟩ hl.1 rfl (Nat.le_of_ble_eq_true rfl) d_H_ofNode_16 ⟨Nat.zero_le _, Nat.zero_le _⟩ ?_
    exact cx_endI S hr hlk (by first | rfl | (unfold hd_node; rfl) | (unfold hd_node; simp only [if_pos c_1]; done) | (unfold hd_node; simp only [if_pos c_1]; rfl) | (unfold hd_node; dsimp only; simp only [if_pos c_1]; done) | (unfold hd_node; simp only [if_pos c_1]; done)) d_H_ofNode_19
  · refine lv_bipush (v := 15) S.1 S.2.1 d_H_ofNode_4 (by decide) ?_
    refine lv_iconst (v := 0) S.1 S.2.1 d_H_ofNode_6 (by decide) ?_
    refine cx_fn S (As := [.int 15, .int 0]) (rest := []) (c_H_ofObject l 15 0) tb_125 tb_214 tb_124 tb_6 hdf_H_ofObject rfl ⟨by omega, by omega⟩ hl.1 rfl (Nat.le_of_ble_eq_true rfl) d_H_ofNode_7 ⟨Nat.zero_le _, Nat.zero_le _⟩ ?_
    refine lv_goto (tgt := 19) S.1 S.2.1 d_H_ofNode_10 (by decide) ?_
    exact cx_endI S hr hlk (by first | rfl | (unfold hd_node; rfl) | (unfold hd_node; simp only [if_neg c_1]; done) | (unfold hd_node; simp only [if_neg c_1]; rfl) | (unfold hd_node; dsimp only; simp only [if_neg c_1]; done) | (unfold hd_node; simp only [if_neg c_1]; done)) d_H_ofNode_19
set_option maxHeartbeats 4000000 in
set_option maxRecDepth 100000 in
theorem c_H_ofArray (l : Launch) (n r : Int32) : cx_Fn l y_H_ofArray b_H_ofArray 3 (some .int) 2 41 [.int n, .int r] (hd_arr n r) := by
  refine cx_startF (by decide) (Nat.le_of_ble_eq_true rfl) ?_
  intro p e R s m args below meth c ls S hr hlk hfr hlc hl
  have hl : lv_has ls 3 [(0, .int n), (1, .int r)] := hl
  refine lv_iload_n S.1 S.2.1 d_H_ofArray_0 rfl (lv_at hl 1 rfl) ?_
  refine lv_if_ne (tgt := 10) S.1 S.2.1 d_H_ofArray_1 (by decide) (fun c_1 => ?_) (fun c_1 => ?_)
  · refine lv_iconst (v := 1) S.1 S.2.1 d_H_ofArray_10 (by decide) ?_
    refine lv_goto (tgt := 15) S.1 S.2.1 d_H_ofArray_11 (by decide) ?_
    refine cx_fn S (As := [.int 1]) (rest := []) (c_H_ofNode l 1) tb_213 tb_211 tb_212 tb_6 hdf_H_ofNode rfl ⟨by omega, by omega⟩ hl.1 rfl (Nat.le_of_ble_eq_true rfl) d_H_ofArray_15 ⟨Nat.zero_le _, Nat.zero_le _⟩ ?_
    refine lv_istore_n (lv' := [(2, .int (hd_node 1)), (0, .int n), (1, .int r)]) S.1 S.2.1 d_H_ofArray_18 rfl hl (by decide) rfl (fun ls hl => ?_)
    refine lv_iload_n S.1 S.2.1 d_H_ofArray_19 rfl (lv_at hl 0 rfl) ?_
    refine lv_sipush (v := 512) S.1 S.2.1 d_H_ofArray_20 (by decide) ?_
    refine lv_ior S.1 S.2.1 d_H_ofArray_23 ?_
    refine lv_iload_n S.1 S.2.1 d_H_ofArray_24 rfl (lv_at hl 2 rfl) ?_
    refine lv_if_eq (tgt := 34) S.1 S.2.1 d_H_ofArray_25 (by decide) (fun c_2 => ?_) (fun c_2 => ?_)
    · refine lv_iconst (v := 0) S.1 S.2.1 d_H_ofArray_34 (by decide) ?_
      refine lv_ior S.1 S.2.1 d_H_ofArray_35 ?_
      refine lv_iload_n S.1 S.2.1 d_H_ofArray_36 rfl (lv_at hl 1 rfl) ?_
      refine lv_bipush (v := 11) S.1 S.2.1 d_H_ofArray_37 (by decide) ?_
      refine lv_ishl S.1 S.2.1 d_H_ofArray_39 ?_
      refine lv_ior S.1 S.2.1 d_H_ofArray_40 ?_
      exact cx_endI S hr hlk (by first | exact absurd c_2 c_1 | rfl | (unfold hd_arr; rfl) | (unfold hd_arr; simp only [if_neg c_1, if_pos c_2]; done) | (unfold hd_arr; simp only [if_neg c_1, if_pos c_2]; rfl) | (unfold hd_arr; dsimp only; simp only [if_neg c_1, if_pos c_2]; done) | (unfold hd_arr; simp only [if_neg c_1, if_pos c_2]; done)) d_H_ofArray_41
    · refine lv_sipush (v := 1024) S.1 S.2.1 d_H_ofArray_28 (by decide) ?_
      refine lv_goto (tgt := 35) S.1 S.2.1 d_H_ofArray_31 (by decide) ?_
      refine lv_ior S.1 S.2.1 d_H_ofArray_35 ?_
      refine lv_iload_n S.1 S.2.1 d_H_ofArray_36 rfl (lv_at hl 1 rfl) ?_
      refine lv_bipush (v := 11) S.1 S.2.1 d_H_ofArray_37 (by decide) ?_
      refine lv_ishl S.1 S.2.1 d_H_ofArray_39 ?_
      refine lv_ior S.1 S.2.1 d_H_ofArray_40 ?_
      exact cx_endI S hr hlk (by first | rfl | (unfold hd_arr; rfl) | (unfold hd_arr; simp only [if_neg c_1, if_neg c_2]; done) | (unfold hd_arr; simp only [if_neg c_1, if_neg c_2]; rfl) | (unfold hd_arr; dsimp only; simp only [if_neg c_1, if_neg c_2]; done) | (unfold hd_arr; simp only [if_neg c_1, if_neg c_2]; done)) d_H_ofArray_41
  · refine lv_iload_n S.1 S.2.1 d_H_ofArray_4 rfl (lv_at hl 0 rfl) ?_
    refine lv_bipush (v := 15) S.1 S.2.1 d_H_ofArray_5 (by decide) ?_
    refine lv_icmp_le (tgt := 14) S.1 S.2.1 d_H_ofArray_7 (by decide) (fun c_3 => ?_) (fun c_3 => ?_)
    · refine lv_iconst (v := 0) S.1 S.2.1 d_H_ofArray_14 (by decide) ?_
      refine cx_fn S (As := [.int 0]) (rest := []) (c_H_ofNode l 0) tb_213 tb_211 tb_212 tb_6 hdf_H_ofNode rfl ⟨by omega, by omega⟩ hl.1 rfl (Nat.le_of_ble_eq_true rfl) d_H_ofArray_15 ⟨Nat.zero_le _, Nat.zero_le _⟩ ?_
      refine lv_istore_n (lv' := [(2, .int (hd_node 0)), (0, .int n), (1, .int r)]) S.1 S.2.1 d_H_ofArray_18 rfl hl (by decide) rfl (fun ls hl => ?_)
      refine lv_iload_n S.1 S.2.1 d_H_ofArray_19 rfl (lv_at hl 0 rfl) ?_
      refine lv_sipush (v := 512) S.1 S.2.1 d_H_ofArray_20 (by decide) ?_
      refine lv_ior S.1 S.2.1 d_H_ofArray_23 ?_
      refine lv_iload_n S.1 S.2.1 d_H_ofArray_24 rfl (lv_at hl 2 rfl) ?_
      refine lv_if_eq (tgt := 34) S.1 S.2.1 d_H_ofArray_25 (by decide) (fun c_4 => ?_) (fun c_4 => ?_)
      · refine lv_iconst (v := 0) S.1 S.2.1 d_H_ofArray_34 (by decide) ?_
        refine lv_ior S.1 S.2.1 d_H_ofArray_35 ?_
        refine lv_iload_n S.1 S.2.1 d_H_ofArray_36 rfl (lv_at hl 1 rfl) ?_
        refine lv_bipush (v := 11) S.1 S.2.1 d_H_ofArray_37 (by decide) ?_
        refine lv_ishl S.1 S.2.1 d_H_ofArray_39 ?_
        refine lv_ior S.1 S.2.1 d_H_ofArray_40 ?_
        exact cx_endI S hr hlk (by first | rfl | (unfold hd_arr; rfl) | (unfold hd_arr; simp only [if_pos c_1, if_pos c_3, if_pos c_4]; done) | (unfold hd_arr; simp only [if_pos c_1, if_pos c_3, if_pos c_4]; rfl) | (unfold hd_arr; dsimp only; simp only [if_pos c_1, if_pos c_3, if_pos c_4]; done) | (unfold hd_arr; simp only [if_pos c_1, if_pos c_3, if_pos c_4]; done)) d_H_ofArray_41
      · refine lv_sipush (v := 1024) S.1 S.2.1 d_H_ofArray_28 (by decide) ?_
        refine lv_goto (tgt := 35) S.1 S.2.1 d_H_ofArray_31 (by decide) ?_
        refine lv_ior S.1 S.2.1 d_H_ofArray_35 ?_
        refine lv_iload_n S.1 S.2.1 d_H_ofArray_36 rfl (lv_at hl 1 rfl) ?_
        refine lv_bipush (v := 11) S.1 S.2.1 d_H_ofArray_37 (by decide) ?_
        refine lv_ishl S.1 S.2.1 d_H_ofArray_39 ?_
        refine lv_ior S.1 S.2.1 d_H_ofArray_40 ?_
        exact cx_endI S hr hlk (by first | exact absurd c_1 c_4 | exact absurd c_3 c_4 | rfl | (unfold hd_arr; rfl) | (unfold hd_arr; simp only [if_pos c_1, if_pos c_3, if_neg c_4]; done) | (unfold hd_arr; simp only [if_pos c_1, if_pos c_3, if_neg c_4]; rfl) | (unfold hd_arr; dsimp only; simp only [if_pos c_1, if_pos c_3, if_neg c_4]; done) | (unfold hd_arr; simp only [if_pos c_1, if_pos c_3, if_neg c_4]; done)) d_H_ofArray_41
    · refine lv_iconst (v := 1) S.1 S.2.1 d_H_ofArray_10 (by decide) ?_
      refine lv_goto (tgt := 15) S.1 S.2.1 d_H_ofArray_11 (by decide) ?_
      refine cx_fn S (As := [.int 1]) (rest := []) (c_H_ofNode l 1) tb_213 tb_211 tb_212 tb_6 hdf_H_ofNode rfl ⟨by omega, by omega⟩ hl.1 rfl (Nat.le_of_ble_eq_true rfl) d_H_ofArray_15 ⟨Nat.zero_le _, Nat.zero_le _⟩ ?_
      refine lv_istore_n (lv' := [(2, .int (hd_node 1)), (0, .int n), (1, .int r)]) S.1 S.2.1 d_H_ofArray_18 rfl hl (by decide) rfl (fun ls hl => ?_)
      refine lv_iload_n S.1 S.2.1 d_H_ofArray_19 rfl (lv_at hl 0 rfl) ?_
      refine lv_sipush (v := 512) S.1 S.2.1 d_H_ofArray_20 (by decide) ?_
      refine lv_ior S.1 S.2.1 d_H_ofArray_23 ?_
      refine lv_iload_n S.1 S.2.1 d_H_ofArray_24 rfl (lv_at hl 2 rfl) ?_
      refine lv_if_eq (tgt := 34) S.1 S.2.1 d_H_ofArray_25 (by decide) (fun c_5 => ?_) (fun c_5 => ?_)
      · refine lv_iconst (v := 0) S.1 S.2.1 d_H_ofArray_34 (by decide) ?_
        refine lv_ior S.1 S.2.1 d_H_ofArray_35 ?_
        refine lv_iload_n S.1 S.2.1 d_H_ofArray_36 rfl (lv_at hl 1 rfl) ?_
        refine lv_bipush (v := 11) S.1 S.2.1 d_H_ofArray_37 (by decide) ?_
        refine lv_ishl S.1 S.2.1 d_H_ofArray_39 ?_
        refine lv_ior S.1 S.2.1 d_H_ofArray_40 ?_
        exact cx_endI S hr hlk (by first | exact absurd c_1 c_3 | exact absurd c_5 c_3 | rfl | (unfold hd_arr; rfl) | (unfold hd_arr; simp only [if_pos c_1, if_neg c_3, if_pos c_5]; done) | (unfold hd_arr; simp only [if_pos c_1, if_neg c_3, if_pos c_5]; rfl) | (unfold hd_arr; dsimp only; simp only [if_pos c_1, if_neg c_3, if_pos c_5]; done) | (unfold hd_arr; simp only [if_pos c_1, if_neg c_3, if_pos c_5]; done)) d_H_ofArray_41
      · refine lv_sipush (v := 1024) S.1 S.2.1 d_H_ofArray_28 (by decide) ?_
        refine lv_goto (tgt := 35) S.1 S.2.1 d_H_ofArray_31 (by decide) ?_
        refine lv_ior S.1 S.2.1 d_H_ofArray_35 ?_
        refine lv_iload_n S.1 S.2.1 d_H_ofArray_36 rfl (lv_at hl 1 rfl) ?_
        refine lv_bipush (v := 11) S.1 S.2.1 d_H_ofArray_37 (by decide) ?_
        refine lv_ishl S.1 S.2.1 d_H_ofArray_39 ?_
        refine lv_ior S.1 S.2.1 d_H_ofArray_40 ?_
        exact cx_endI S hr hlk (by first | exact absurd c_1 c_3 | exact absurd c_1 c_5 | rfl | (unfold hd_arr; rfl) | (unfold hd_arr; simp only [if_pos c_1, if_neg c_3, if_neg c_5]; done) | (unfold hd_arr; simp only [if_pos c_1, if_neg c_3, if_neg c_5]; rfl) | (unfold hd_arr; dsimp only; simp only [if_pos c_1, if_neg c_3, if_neg c_5]; done) | (unfold hd_arr; simp only [if_pos c_1, if_neg c_3, if_neg c_5]; done)) d_H_ofArray_41
set_option maxHeartbeats 4000000 in
set_option maxRecDepth 100000 in
theorem c_H_traced (l : Launch) (h : Int32) : cx_Fn l y_H_traced b_H_traced 1 (some .int) 0 0 [.int h] (hd_traced h) := by
  refine cx_startF (by decide) (Nat.le_of_ble_eq_true rfl) ?_
  intro p e R s m args below meth c ls S hr hlk hfr hlc hl
  have hl : lv_has ls 1 [(0, .int h)] := hl
  refine lv_iload_n S.1 S.2.1 d_H_traced_0 rfl (lv_at hl 0 rfl) ?_
  refine lv_iconst (v := 1) S.1 S.2.1 d_H_traced_1 (by decide) ?_
  refine lv_ishr S.1 S.2.1 d_H_traced_2 ?_
  refine lv_bipush (v := 15) S.1 S.2.1 d_H_traced_3 (by decide) ?_
  refine lv_iand S.1 S.2.1 d_H_traced_5 ?_
  exact cx_endI S hr hlk (by first | rfl | (unfold hd_traced; rfl)) d_H_traced_6
set_option maxHeartbeats 4000000 in
set_option maxRecDepth 100000 in
theorem c_H_plain (l : Launch) (h : Int32) : cx_Fn l y_H_plain b_H_plain 1 (some .int) 0 0 [.int h] (hd_plain h) := by
  refine cx_startF (by decide) (Nat.le_of_ble_eq_true rfl) ?_
  intro p e R s m args below meth c ls S hr hlk hfr hlc hl
  have hl : lv_has ls 1 [(0, .int h)] := hl
  refine lv_iload_n S.1 S.2.1 d_H_plain_0 rfl (lv_at hl 0 rfl) ?_
  refine lv_iconst (v := 5) S.1 S.2.1 d_H_plain_1 (by decide) ?_
  refine lv_ishr S.1 S.2.1 d_H_plain_2 ?_
  refine lv_bipush (v := 15) S.1 S.2.1 d_H_plain_3 (by decide) ?_
  refine lv_iand S.1 S.2.1 d_H_plain_5 ?_
  exact cx_endI S hr hlk (by first | rfl | (unfold hd_plain; rfl)) d_H_plain_6
set_option maxHeartbeats 4000000 in
set_option maxRecDepth 100000 in
theorem c_H_cells (l : Launch) (h : Int32) : cx_Fn l y_H_cells b_H_cells 1 (some .int) 1 20 [.int h] (hd_cells h) := by
  refine cx_startF (by decide) (Nat.le_of_ble_eq_true rfl) ?_
  intro p e R s m args below meth c ls S hr hlk hfr hlc hl
  have hl : lv_has ls 1 [(0, .int h)] := hl
  refine lv_iconst (v := 1) S.1 S.2.1 d_H_cells_0 (by decide) ?_
  refine lv_iload_n S.1 S.2.1 d_H_cells_1 rfl (lv_at hl 0 rfl) ?_
  refine cx_fn S (As := [.int h]) (rest := [.int 1]) (c_H_traced l h) tb_139 tb_137 tb_138 tb_6 hdf_H_traced rfl ⟨by omega, by omega⟩ hl.1 rfl (Nat.le_of_ble_eq_true rfl) d_H_cells_2 ⟨Nat.zero_le _, Nat.zero_le _⟩ ?_
  refine lv_iadd S.1 S.2.1 d_H_cells_5 ?_
  refine lv_iload_n S.1 S.2.1 d_H_cells_6 rfl (lv_at hl 0 rfl) ?_
  refine cx_fn S (As := [.int h]) (rest := [.int (1 + (hd_traced h))]) (c_H_plain l h) tb_142 tb_140 tb_141 tb_6 hdf_H_plain rfl ⟨by omega, by omega⟩ hl.1 rfl (Nat.le_of_ble_eq_true rfl) d_H_cells_7 ⟨Nat.zero_le _, Nat.zero_le _⟩ ?_
  refine lv_iadd S.1 S.2.1 d_H_cells_10 ?_
  exact cx_endI S hr hlk (by first | rfl | (unfold hd_cells; rfl)) d_H_cells_11
set_option maxHeartbeats 4000000 in
set_option maxRecDepth 100000 in
theorem c_H_isArray (l : Launch) (h : Int32) : cx_Fn l y_H_isArray b_H_isArray 1 (some .boolean) 0 0 [.int h] (hd_isArr h) := by
  refine cx_startF (by decide) (Nat.le_of_ble_eq_true rfl) ?_
  intro p e R s m args below meth c ls S hr hlk hfr hlc hl
  have hl : lv_has ls 1 [(0, .int h)] := hl
  refine lv_iload_n S.1 S.2.1 d_H_isArray_0 rfl (lv_at hl 0 rfl) ?_
  refine lv_sipush (v := 512) S.1 S.2.1 d_H_isArray_1 (by decide) ?_
  refine lv_iand S.1 S.2.1 d_H_isArray_4 ?_
  refine lv_if_eq (tgt := 12) S.1 S.2.1 d_H_isArray_5 (by decide) (fun c_1 => ?_) (fun c_1 => ?_)
  · refine lv_iconst (v := 0) S.1 S.2.1 d_H_isArray_12 (by decide) ?_
    exact cx_endZ S hr hlk (by first | rfl | (unfold hd_isArr; rfl) | (unfold hd_isArr; simp only [if_pos c_1]; done) | (unfold hd_isArr; simp only [if_pos c_1]; rfl) | (unfold hd_isArr; dsimp only; simp only [if_pos c_1]; done) | (unfold hd_isArr; simp only [if_pos c_1]; done)) (Or.inl rfl) d_H_isArray_13
  · refine lv_iconst (v := 1) S.1 S.2.1 d_H_isArray_8 (by decide) ?_
    refine lv_goto (tgt := 13) S.1 S.2.1 d_H_isArray_9 (by decide) ?_
    exact cx_endZ S hr hlk (by first | rfl | (unfold hd_isArr; rfl) | (unfold hd_isArr; simp only [if_neg c_1]; done) | (unfold hd_isArr; simp only [if_neg c_1]; rfl) | (unfold hd_isArr; dsimp only; simp only [if_neg c_1]; done) | (unfold hd_isArr; simp only [if_neg c_1]; done)) (Or.inr rfl) d_H_isArray_13
set_option maxHeartbeats 4000000 in
set_option maxRecDepth 100000 in
theorem c_H_hasReferenceItems (l : Launch) (h : Int32) : cx_Fn l y_H_hasReferenceItems b_H_hasReferenceItems 1 (some .boolean) 0 0 [.int h] (hd_refIt h) := by
  refine cx_startF (by decide) (Nat.le_of_ble_eq_true rfl) ?_
  intro p e R s m args below meth c ls S hr hlk hfr hlc hl
  have hl : lv_has ls 1 [(0, .int h)] := hl
  refine lv_iload_n S.1 S.2.1 d_H_hasReferenceItems_0 rfl (lv_at hl 0 rfl) ?_
  refine lv_sipush (v := 1024) S.1 S.2.1 d_H_hasReferenceItems_1 (by decide) ?_
  refine lv_iand S.1 S.2.1 d_H_hasReferenceItems_4 ?_
  refine lv_if_eq (tgt := 12) S.1 S.2.1 d_H_hasReferenceItems_5 (by decide) (fun c_1 => ?_) (fun c_1 => ?_)
  · refine lv_iconst (v := 0) S.1 S.2.1 d_H_hasReferenceItems_12 (by decide) ?_
    exact cx_endZ S hr hlk (by first | rfl | (unfold hd_refIt; rfl) | (unfold hd_refIt; simp only [if_pos c_1]; done) | (unfold hd_refIt; simp only [if_pos c_1]; rfl) | (unfold hd_refIt; dsimp only; simp only [if_pos c_1]; done) | (unfold hd_refIt; simp only [if_pos c_1]; done)) (Or.inl rfl) d_H_hasReferenceItems_13
  · refine lv_iconst (v := 1) S.1 S.2.1 d_H_hasReferenceItems_8 (by decide) ?_
    refine lv_goto (tgt := 13) S.1 S.2.1 d_H_hasReferenceItems_9 (by decide) ?_
    exact cx_endZ S hr hlk (by first | rfl | (unfold hd_refIt; rfl) | (unfold hd_refIt; simp only [if_neg c_1]; done) | (unfold hd_refIt; simp only [if_neg c_1]; rfl) | (unfold hd_refIt; dsimp only; simp only [if_neg c_1]; done) | (unfold hd_refIt; simp only [if_neg c_1]; done)) (Or.inr rfl) d_H_hasReferenceItems_13
set_option maxHeartbeats 4000000 in
set_option maxRecDepth 100000 in
theorem c_H_references (l : Launch) (h : Int32) : cx_Fn l y_H_references b_H_references 1 (some .int) 1 20 [.int h] (hd_refs h) := by
  refine cx_startF (by decide) (Nat.le_of_ble_eq_true rfl) ?_
  intro p e R s m args below meth c ls S hr hlk hfr hlc hl
  have hl : lv_has ls 1 [(0, .int h)] := hl
  refine lv_iload_n S.1 S.2.1 d_H_references_0 rfl (lv_at hl 0 rfl) ?_
  refine cx_fn S (As := [.int h]) (rest := []) (c_H_isArray l h) tb_233 tb_231 tb_232 tb_6 hdf_H_isArray rfl ⟨by omega, by omega⟩ hl.1 rfl (Nat.le_of_ble_eq_true rfl) d_H_references_1 ⟨Nat.zero_le _, Nat.zero_le _⟩ ?_
  refine lv_if_eq (tgt := 11) S.1 S.2.1 d_H_references_4 (by decide) (fun c_1 => ?_) (fun c_1 => ?_)
  · refine lv_iload_n S.1 S.2.1 d_H_references_11 rfl (lv_at hl 0 rfl) ?_
    refine cx_fn S (As := [.int h]) (rest := []) (c_H_traced l h) tb_139 tb_137 tb_138 tb_6 hdf_H_traced rfl ⟨by omega, by omega⟩ hl.1 rfl (Nat.le_of_ble_eq_true rfl) d_H_references_12 ⟨Nat.zero_le _, Nat.zero_le _⟩ ?_
    exact cx_endI S hr hlk (by first | rfl | (unfold hd_refs; rfl) | (unfold hd_refs; simp only [if_pos c_1]; done) | (unfold hd_refs; simp only [if_pos c_1]; rfl) | (unfold hd_refs; dsimp only; simp only [if_pos c_1]; done) | (unfold hd_refs; simp only [if_pos c_1]; done)) d_H_references_15
  · refine lv_iconst (v := 0) S.1 S.2.1 d_H_references_7 (by decide) ?_
    refine lv_goto (tgt := 15) S.1 S.2.1 d_H_references_8 (by decide) ?_
    exact cx_endI S hr hlk (by first | rfl | (unfold hd_refs; rfl) | (unfold hd_refs; simp only [if_neg c_1]; done) | (unfold hd_refs; simp only [if_neg c_1]; rfl) | (unfold hd_refs; dsimp only; simp only [if_neg c_1]; done) | (unfold hd_refs; simp only [if_neg c_1]; done)) d_H_references_15
set_option maxHeartbeats 4000000 in
set_option maxRecDepth 100000 in
theorem c_H_ints (l : Launch) (h : Int32) : cx_Fn l y_H_ints b_H_ints 1 (some .int) 1 20 [.int h] (hd_ints h) := by
  refine cx_startF (by decide) (Nat.le_of_ble_eq_true rfl) ?_
  intro p e R s m args below meth c ls S hr hlk hfr hlc hl
  have hl : lv_has ls 1 [(0, .int h)] := hl
  refine lv_iload_n S.1 S.2.1 d_H_ints_0 rfl (lv_at hl 0 rfl) ?_
  refine cx_fn S (As := [.int h]) (rest := []) (c_H_isArray l h) tb_233 tb_231 tb_232 tb_6 hdf_H_isArray rfl ⟨by omega, by omega⟩ hl.1 rfl (Nat.le_of_ble_eq_true rfl) d_H_ints_1 ⟨Nat.zero_le _, Nat.zero_le _⟩ ?_
  refine lv_if_eq (tgt := 11) S.1 S.2.1 d_H_ints_4 (by decide) (fun c_1 => ?_) (fun c_1 => ?_)
  · refine lv_iload_n S.1 S.2.1 d_H_ints_11 rfl (lv_at hl 0 rfl) ?_
    refine cx_fn S (As := [.int h]) (rest := []) (c_H_plain l h) tb_142 tb_140 tb_141 tb_6 hdf_H_plain rfl ⟨by omega, by omega⟩ hl.1 rfl (Nat.le_of_ble_eq_true rfl) d_H_ints_12 ⟨Nat.zero_le _, Nat.zero_le _⟩ ?_
    exact cx_endI S hr hlk (by first | rfl | (unfold hd_ints; rfl) | (unfold hd_ints; simp only [if_pos c_1]; done) | (unfold hd_ints; simp only [if_pos c_1]; rfl) | (unfold hd_ints; dsimp only; simp only [if_pos c_1]; done) | (unfold hd_ints; simp only [if_pos c_1]; done)) d_H_ints_15
  · refine lv_iconst (v := 0) S.1 S.2.1 d_H_ints_7 (by decide) ?_
    refine lv_goto (tgt := 15) S.1 S.2.1 d_H_ints_8 (by decide) ?_
    exact cx_endI S hr hlk (by first | rfl | (unfold hd_ints; rfl) | (unfold hd_ints; simp only [if_neg c_1]; done) | (unfold hd_ints; simp only [if_neg c_1]; rfl) | (unfold hd_ints; dsimp only; simp only [if_neg c_1]; done) | (unfold hd_ints; simp only [if_neg c_1]; done)) d_H_ints_15
set_option maxHeartbeats 4000000 in
set_option maxRecDepth 100000 in
theorem c_H_length (l : Launch) (h : Int32) : cx_Fn l y_H_length b_H_length 1 (some .int) 0 0 [.int h] (hd_len h) := by
  refine cx_startF (by decide) (Nat.le_of_ble_eq_true rfl) ?_
  intro p e R s m args below meth c ls S hr hlk hfr hlc hl
  have hl : lv_has ls 1 [(0, .int h)] := hl
  refine lv_iload_n S.1 S.2.1 d_H_length_0 rfl (lv_at hl 0 rfl) ?_
  refine lv_bipush (v := 11) S.1 S.2.1 d_H_length_1 (by decide) ?_
  refine lv_ishr S.1 S.2.1 d_H_length_3 ?_
  exact cx_endI S hr hlk (by first | rfl | (unfold hd_len; rfl)) d_H_length_4
set_option maxHeartbeats 4000000 in
set_option maxRecDepth 100000 in
theorem c_H_items (l : Launch) (h r : Int32) : cx_Fn l y_H_items b_H_items 2 (some .int) 1 20 [.int h, .int r] (hd_items h r) := by
  refine cx_startF (by decide) (Nat.le_of_ble_eq_true rfl) ?_
  intro p e R s m args below meth c ls S hr hlk hfr hlc hl
  have hl : lv_has ls 2 [(0, .int h), (1, .int r)] := hl
  refine lv_iload_n S.1 S.2.1 d_H_items_0 rfl (lv_at hl 0 rfl) ?_
  refine cx_fn S (As := [.int h]) (rest := []) (c_H_isArray l h) tb_233 tb_231 tb_232 tb_6 hdf_H_isArray rfl ⟨by omega, by omega⟩ hl.1 rfl (Nat.le_of_ble_eq_true rfl) d_H_items_1 ⟨Nat.zero_le _, Nat.zero_le _⟩ ?_
  refine lv_if_eq (tgt := 22) S.1 S.2.1 d_H_items_4 (by decide) (fun c_1 => ?_) (fun c_1 => ?_)
  · refine lv_iconst (v := 0) S.1 S.2.1 d_H_items_22 (by decide) ?_
    exact cx_endI S hr hlk (by first | rfl | (unfold hd_items; rfl) | (unfold hd_items; simp only [if_pos c_1]; done) | (unfold hd_items; simp only [if_pos c_1]; rfl) | (unfold hd_items; dsimp only; simp only [if_pos c_1]; done) | (unfold hd_items; simp only [if_pos c_1]; done)) d_H_items_23
  · refine lv_iload_n S.1 S.2.1 d_H_items_7 rfl (lv_at hl 0 rfl) ?_
    refine cx_fn S (As := [.int h]) (rest := []) (c_H_hasReferenceItems l h) tb_277 tb_275 tb_276 tb_6 hdf_H_hasReferenceItems rfl ⟨by omega, by omega⟩ hl.1 rfl (Nat.le_of_ble_eq_true rfl) d_H_items_8 ⟨Nat.zero_le _, Nat.zero_le _⟩ ?_
    refine lv_iload_n S.1 S.2.1 d_H_items_11 rfl (lv_at hl 1 rfl) ?_
    refine lv_icmp_ne (tgt := 22) S.1 S.2.1 d_H_items_12 (by decide) (fun c_2 => ?_) (fun c_2 => ?_)
    · refine lv_iconst (v := 0) S.1 S.2.1 d_H_items_22 (by decide) ?_
      exact cx_endI S hr hlk (by first | rfl | (unfold hd_items; rfl) | (unfold hd_items; simp only [if_neg c_1, if_neg c_2]; done) | (unfold hd_items; simp only [if_neg c_1, if_neg c_2]; rfl) | (unfold hd_items; dsimp only; simp only [if_neg c_1, if_neg c_2]; done) | (unfold hd_items; simp only [if_neg c_1, if_neg c_2]; done)) d_H_items_23
    · refine lv_iload_n S.1 S.2.1 d_H_items_15 rfl (lv_at hl 0 rfl) ?_
      refine cx_fn S (As := [.int h]) (rest := []) (c_H_length l h) tb_280 tb_278 tb_279 tb_6 hdf_H_length rfl ⟨by omega, by omega⟩ hl.1 rfl (Nat.le_of_ble_eq_true rfl) d_H_items_16 ⟨Nat.zero_le _, Nat.zero_le _⟩ ?_
      refine lv_goto (tgt := 23) S.1 S.2.1 d_H_items_19 (by decide) ?_
      exact cx_endI S hr hlk (by first | exact absurd c_2 c_1 | rfl | (unfold hd_items; rfl) | (unfold hd_items; simp only [if_neg c_1, if_pos c_2]; done) | (unfold hd_items; simp only [if_neg c_1, if_pos c_2]; rfl) | (unfold hd_items; dsimp only; simp only [if_neg c_1, if_pos c_2]; done) | (unfold hd_items; simp only [if_neg c_1, if_pos c_2]; done)) d_H_items_23
set_option maxHeartbeats 4000000 in
set_option maxRecDepth 100000 in
theorem c_H_height (l : Launch) (h : Int32) : cx_Fn l y_H_height b_H_height 2 (some .int) 1 20 [.int h] (hd_height h) := by
  refine cx_startF (by decide) (Nat.le_of_ble_eq_true rfl) ?_
  intro p e R s m args below meth c ls S hr hlk hfr hlc hl
  have hl : lv_has ls 2 [(0, .int h)] := hl
  refine lv_iload_n S.1 S.2.1 d_H_height_0 rfl (lv_at hl 0 rfl) ?_
  refine cx_fn S (As := [.int h]) (rest := []) (c_H_length l h) tb_280 tb_278 tb_279 tb_6 hdf_H_length rfl ⟨by omega, by omega⟩ hl.1 rfl (Nat.le_of_ble_eq_true rfl) d_H_height_1 ⟨Nat.zero_le _, Nat.zero_le _⟩ ?_
  refine lv_istore_n (lv' := [(1, .int (hd_len h)), (0, .int h)]) S.1 S.2.1 d_H_height_4 rfl hl (by decide) rfl (fun ls hl => ?_)
  refine lv_iload_n S.1 S.2.1 d_H_height_5 rfl (lv_at hl 0 rfl) ?_
  refine lv_sipush (v := 225) S.1 S.2.1 d_H_height_6 (by decide) ?_
  refine lv_icmp_le (tgt := 16) S.1 S.2.1 d_H_height_9 (by decide) (fun c_1 => ?_) (fun c_1 => ?_)
  · refine lv_iload_n S.1 S.2.1 d_H_height_16 rfl (lv_at hl 0 rfl) ?_
    refine lv_bipush (v := 15) S.1 S.2.1 d_H_height_17 (by decide) ?_
    refine lv_icmp_le (tgt := 26) S.1 S.2.1 d_H_height_19 (by decide) (fun c_2 => ?_) (fun c_2 => ?_)
    · refine lv_iconst (v := 0) S.1 S.2.1 d_H_height_26 (by decide) ?_
      exact cx_endI S hr hlk (by first | rfl | (unfold hd_height; rfl) | (unfold hd_height; simp only [if_pos c_1, if_pos c_2]; done) | (unfold hd_height; simp only [if_pos c_1, if_pos c_2]; rfl) | (unfold hd_height; dsimp only; simp only [if_pos c_1, if_pos c_2]; done) | (unfold hd_height; simp only [if_pos c_1, if_pos c_2]; done)) d_H_height_27
    · refine lv_iconst (v := 1) S.1 S.2.1 d_H_height_22 (by decide) ?_
      refine lv_goto (tgt := 27) S.1 S.2.1 d_H_height_23 (by decide) ?_
      exact cx_endI S hr hlk (by first | exact absurd c_1 c_2 | rfl | (unfold hd_height; rfl) | (unfold hd_height; simp only [if_pos c_1, if_neg c_2]; done) | (unfold hd_height; simp only [if_pos c_1, if_neg c_2]; rfl) | (unfold hd_height; dsimp only; simp only [if_pos c_1, if_neg c_2]; done) | (unfold hd_height; simp only [if_pos c_1, if_neg c_2]; done)) d_H_height_27
  · refine lv_iconst (v := 2) S.1 S.2.1 d_H_height_12 (by decide) ?_
    refine lv_goto (tgt := 27) S.1 S.2.1 d_H_height_13 (by decide) ?_
    exact cx_endI S hr hlk (by first | rfl | (unfold hd_height; rfl) | (unfold hd_height; simp only [if_neg c_1]; done) | (unfold hd_height; simp only [if_neg c_1]; rfl) | (unfold hd_height; dsimp only; simp only [if_neg c_1]; done) | (unfold hd_height; simp only [if_neg c_1]; done)) d_H_height_27
set_option maxHeartbeats 4000000 in
set_option maxRecDepth 100000 in
theorem c_X_isBelow (l : Launch) (x b : Int32) : cx_Fn l y_X_isBelow b_X_isBelow 2 (some .boolean) 0 0 [.int x, .int b] (sh_below x b) := by
  refine cx_startF (by decide) (Nat.le_of_ble_eq_true rfl) ?_
  intro p e R s m args below meth c ls S hr hlk hfr hlc hl
  have hl : lv_has ls 2 [(0, .int x), (1, .int b)] := hl
  refine lv_iload_n S.1 S.2.1 d_X_isBelow_0 rfl (lv_at hl 0 rfl) ?_
  refine lv_if_lt (tgt := 13) S.1 S.2.1 d_X_isBelow_1 (by decide) (fun c_1 => ?_) (fun c_1 => ?_)
  · refine lv_iconst (v := 0) S.1 S.2.1 d_X_isBelow_13 (by decide) ?_
    exact cx_endZ S hr hlk (by first | rfl | (unfold sh_below; rfl) | (unfold sh_below; simp only [if_pos c_1]; done) | (unfold sh_below; simp only [if_pos c_1]; rfl) | (unfold sh_below; dsimp only; simp only [if_pos c_1]; done) | (unfold sh_below; simp only [if_pos c_1]; done)) (Or.inl rfl) d_X_isBelow_14
  · refine lv_iload_n S.1 S.2.1 d_X_isBelow_4 rfl (lv_at hl 0 rfl) ?_
    refine lv_iload_n S.1 S.2.1 d_X_isBelow_5 rfl (lv_at hl 1 rfl) ?_
    refine lv_icmp_ge (tgt := 13) S.1 S.2.1 d_X_isBelow_6 (by decide) (fun c_2 => ?_) (fun c_2 => ?_)
    · have c_2n := i32_nlt c_2
      refine lv_iconst (v := 0) S.1 S.2.1 d_X_isBelow_13 (by decide) ?_
      exact cx_endZ S hr hlk (by first | exact absurd c_2 c_1 | exact absurd c_2 c_2n | rfl | (unfold sh_below; rfl) | (unfold sh_below; simp only [if_neg c_1, if_pos c_2, if_neg c_2n]; done) | (unfold sh_below; simp only [if_neg c_1, if_pos c_2, if_neg c_2n]; rfl) | (unfold sh_below; dsimp only; simp only [if_neg c_1, if_pos c_2, if_neg c_2n]; done) | (unfold sh_below; simp only [if_neg c_1, if_pos c_2, if_neg c_2n]; done)) (Or.inl rfl) d_X_isBelow_14
    · have c_2n := i32_lt c_2
      refine lv_iconst (v := 1) S.1 S.2.1 d_X_isBelow_9 (by decide) ?_
      refine lv_goto (tgt := 14) S.1 S.2.1 d_X_isBelow_10 (by decide) ?_
      exact cx_endZ S hr hlk (by first | exact absurd c_2n c_1 | exact absurd c_2n c_2 | rfl | (unfold sh_below; rfl) | (unfold sh_below; simp only [if_neg c_1, if_neg c_2, if_pos c_2n]; done) | (unfold sh_below; simp only [if_neg c_1, if_neg c_2, if_pos c_2n]; rfl) | (unfold sh_below; dsimp only; simp only [if_neg c_1, if_neg c_2, if_pos c_2n]; done) | (unfold sh_below; simp only [if_neg c_1, if_neg c_2, if_pos c_2n]; done)) (Or.inr rfl) d_X_isBelow_14
set_option maxHeartbeats 4000000 in
set_option maxRecDepth 100000 in
theorem c_X_isRegister (l : Launch) (r : Int32) : cx_Fn l y_X_isRegister b_X_isRegister 1 (some .boolean) 1 21 [.int r] (sh_isReg r) := by
  refine cx_startF (by decide) (Nat.le_of_ble_eq_true rfl) ?_
  intro p e R s m args below meth c ls S hr hlk hfr hlc hl
  have hl : lv_has ls 1 [(0, .int r)] := hl
  refine lv_iload_n S.1 S.2.1 d_X_isRegister_0 rfl (lv_at hl 0 rfl) ?_
  refine lv_bipush (v := 8) S.1 S.2.1 d_X_isRegister_1 (by decide) ?_
  refine cx_fn S (As := [.int r, .int 8]) (rest := []) (c_X_isBelow l r 8) tb_119 tb_117 tb_118 tb_1 hdf_X_isBelow rfl ⟨by omega, by omega⟩ hl.1 rfl (Nat.le_of_ble_eq_true rfl) d_X_isRegister_3 ⟨Nat.zero_le _, Nat.zero_le _⟩ ?_
  exact cx_endZ S hr hlk (by first | rfl | (unfold sh_isReg; rfl)) (z_below _ _) d_X_isRegister_6
set_option maxHeartbeats 4000000 in
set_option maxRecDepth 100000 in
theorem c_X_isShape (l : Launch) (r i : Int32) : cx_Fn l y_X_isShape b_X_isShape 2 (some .boolean) 1 21 [.int r, .int i] (sh_shape r i) := by
  refine cx_startF (by decide) (Nat.le_of_ble_eq_true rfl) ?_
  intro p e R s m args below meth c ls S hr hlk hfr hlc hl
  have hl : lv_has ls 2 [(0, .int r), (1, .int i)] := hl
  refine lv_iload_n S.1 S.2.1 d_X_isShape_0 rfl (lv_at hl 0 rfl) ?_
  refine lv_bipush (v := 16) S.1 S.2.1 d_X_isShape_1 (by decide) ?_
  refine cx_fn S (As := [.int r, .int 16]) (rest := []) (c_X_isBelow l r 16) tb_119 tb_117 tb_118 tb_1 hdf_X_isBelow rfl ⟨by omega, by omega⟩ hl.1 rfl (Nat.le_of_ble_eq_true rfl) d_X_isShape_3 ⟨Nat.zero_le _, Nat.zero_le _⟩ ?_
  refine lv_if_eq (tgt := 32) S.1 S.2.1 d_X_isShape_6 (by decide) (fun c_1 => ?_) (fun c_1 => ?_)
  · refine lv_iconst (v := 0) S.1 S.2.1 d_X_isShape_32 (by decide) ?_
    exact cx_endZ S hr hlk (by first | rfl | (unfold sh_shape; rfl) | (unfold sh_shape; simp only [if_pos c_1]; done) | (unfold sh_shape; simp only [if_pos c_1]; rfl) | (unfold sh_shape; dsimp only; simp only [if_pos c_1]; done) | (unfold sh_shape; simp only [if_pos c_1]; done)) (Or.inl rfl) d_X_isShape_33
  · refine lv_iload_n S.1 S.2.1 d_X_isShape_9 rfl (lv_at hl 1 rfl) ?_
    refine lv_bipush (v := 16) S.1 S.2.1 d_X_isShape_10 (by decide) ?_
    refine cx_fn S (As := [.int i, .int 16]) (rest := []) (c_X_isBelow l i 16) tb_119 tb_117 tb_118 tb_1 hdf_X_isBelow rfl ⟨by omega, by omega⟩ hl.1 rfl (Nat.le_of_ble_eq_true rfl) d_X_isShape_12 ⟨Nat.zero_le _, Nat.zero_le _⟩ ?_
    refine lv_if_eq (tgt := 32) S.1 S.2.1 d_X_isShape_15 (by decide) (fun c_2 => ?_) (fun c_2 => ?_)
    · refine lv_iconst (v := 0) S.1 S.2.1 d_X_isShape_32 (by decide) ?_
      exact cx_endZ S hr hlk (by first | exact absurd c_2 c_1 | rfl | (unfold sh_shape; rfl) | (unfold sh_shape; simp only [if_neg c_1, if_pos c_2]; done) | (unfold sh_shape; simp only [if_neg c_1, if_pos c_2]; rfl) | (unfold sh_shape; dsimp only; simp only [if_neg c_1, if_pos c_2]; done) | (unfold sh_shape; simp only [if_neg c_1, if_pos c_2]; done)) (Or.inl rfl) d_X_isShape_33
    · refine lv_iconst (v := 1) S.1 S.2.1 d_X_isShape_18 (by decide) ?_
      refine lv_iload_n S.1 S.2.1 d_X_isShape_19 rfl (lv_at hl 0 rfl) ?_
      refine lv_iadd S.1 S.2.1 d_X_isShape_20 ?_
      refine lv_iload_n S.1 S.2.1 d_X_isShape_21 rfl (lv_at hl 1 rfl) ?_
      refine lv_iadd S.1 S.2.1 d_X_isShape_22 ?_
      refine lv_bipush (v := 16) S.1 S.2.1 d_X_isShape_23 (by decide) ?_
      refine lv_icmp_gt (tgt := 32) S.1 S.2.1 d_X_isShape_25 (by decide) (fun c_3 => ?_) (fun c_3 => ?_)
      · have c_3n := i32_nle c_3
        refine lv_iconst (v := 0) S.1 S.2.1 d_X_isShape_32 (by decide) ?_
        exact cx_endZ S hr hlk (by first | exact absurd c_3 c_1 | exact absurd c_3 c_2 | exact absurd c_3 c_3n | rfl | (unfold sh_shape; rfl) | (unfold sh_shape; simp only [if_neg c_1, if_neg c_2, if_pos c_3, if_neg c_3n]; done) | (unfold sh_shape; simp only [if_neg c_1, if_neg c_2, if_pos c_3, if_neg c_3n]; rfl) | (unfold sh_shape; dsimp only; simp only [if_neg c_1, if_neg c_2, if_pos c_3, if_neg c_3n]; done) | (unfold sh_shape; simp only [if_neg c_1, if_neg c_2, if_pos c_3, if_neg c_3n]; done)) (Or.inl rfl) d_X_isShape_33
      · have c_3n := i32_le c_3
        refine lv_iconst (v := 1) S.1 S.2.1 d_X_isShape_28 (by decide) ?_
        refine lv_goto (tgt := 33) S.1 S.2.1 d_X_isShape_29 (by decide) ?_
        exact cx_endZ S hr hlk (by first | exact absurd c_3n c_1 | exact absurd c_3n c_2 | exact absurd c_3n c_3 | rfl | (unfold sh_shape; rfl) | (unfold sh_shape; simp only [if_neg c_1, if_neg c_2, if_neg c_3, if_pos c_3n]; done) | (unfold sh_shape; simp only [if_neg c_1, if_neg c_2, if_neg c_3, if_pos c_3n]; rfl) | (unfold sh_shape; dsimp only; simp only [if_neg c_1, if_neg c_2, if_neg c_3, if_pos c_3n]; done) | (unfold sh_shape; simp only [if_neg c_1, if_neg c_2, if_neg c_3, if_pos c_3n]; done)) (Or.inr rfl) d_X_isShape_33
set_option maxHeartbeats 4000000 in
set_option maxRecDepth 100000 in
theorem c_X_slot (l : Launch) (i v : Int32) : cx_Fn l y_X_slot b_X_slot 3 (some .int) 0 0 [.int i, .int v] (sh_slot i v) := by
  refine cx_startF (by decide) (Nat.le_of_ble_eq_true rfl) ?_
  intro p e R s m args below meth c ls S hr hlk hfr hlc hl
  have hl : lv_has ls 3 [(0, .int i), (1, .int v)] := hl
  refine lv_iload_n S.1 S.2.1 d_X_slot_0 rfl (lv_at hl 1 rfl) ?_
  refine lv_if_ne (tgt := 8) S.1 S.2.1 d_X_slot_1 (by decide) (fun c_1 => ?_) (fun c_1 => ?_)
  · refine lv_iload_n S.1 S.2.1 d_X_slot_8 rfl (lv_at hl 1 rfl) ?_
    refine lv_iconst (v := 1) S.1 S.2.1 d_X_slot_9 (by decide) ?_
    refine lv_icmp_ne (tgt := 20) S.1 S.2.1 d_X_slot_10 (by decide) (fun c_2 => ?_) (fun c_2 => ?_)
    · refine lv_iload_n S.1 S.2.1 d_X_slot_20 rfl (lv_at hl 0 rfl) ?_
      refine lv_sipush (v := 225) S.1 S.2.1 d_X_slot_21 (by decide) ?_
      refine lv_idiv S.1 S.2.1 d_X_slot_24 (by decide) ?_
      refine lv_istore_n (lv' := [(2, .int (i / 225)), (0, .int i), (1, .int v)]) S.1 S.2.1 d_X_slot_25 rfl hl (by decide) rfl (fun ls hl => ?_)
      refine lv_iload_n S.1 S.2.1 d_X_slot_26 rfl (lv_at hl 0 rfl) ?_
      refine lv_bipush (v := 15) S.1 S.2.1 d_X_slot_27 (by decide) ?_
      refine lv_irem S.1 S.2.1 d_X_slot_29 (by decide) ?_
      exact cx_endI S hr hlk (by first | rfl | (unfold sh_slot; rfl) | (unfold sh_slot; simp only [if_neg c_1, if_neg c_2]; done) | (unfold sh_slot; simp only [if_neg c_1, if_neg c_2]; rfl) | (unfold sh_slot; dsimp only; simp only [if_neg c_1, if_neg c_2]; done) | (unfold sh_slot; simp only [if_neg c_1, if_neg c_2]; done)) d_X_slot_30
    · refine lv_iload_n S.1 S.2.1 d_X_slot_13 rfl (lv_at hl 0 rfl) ?_
      refine lv_bipush (v := 15) S.1 S.2.1 d_X_slot_14 (by decide) ?_
      refine lv_idiv S.1 S.2.1 d_X_slot_16 (by decide) ?_
      refine lv_goto (tgt := 25) S.1 S.2.1 d_X_slot_17 (by decide) ?_
      refine lv_istore_n (lv' := [(2, .int (i / 15)), (0, .int i), (1, .int v)]) S.1 S.2.1 d_X_slot_25 rfl hl (by decide) rfl (fun ls hl => ?_)
      refine lv_iload_n S.1 S.2.1 d_X_slot_26 rfl (lv_at hl 0 rfl) ?_
      refine lv_bipush (v := 15) S.1 S.2.1 d_X_slot_27 (by decide) ?_
      refine lv_irem S.1 S.2.1 d_X_slot_29 (by decide) ?_
      exact cx_endI S hr hlk (by first | exact absurd c_2 c_1 | rfl | (unfold sh_slot; rfl) | (unfold sh_slot; simp only [if_neg c_1, if_pos c_2]; done) | (unfold sh_slot; simp only [if_neg c_1, if_pos c_2]; rfl) | (unfold sh_slot; dsimp only; simp only [if_neg c_1, if_pos c_2]; done) | (unfold sh_slot; simp only [if_neg c_1, if_pos c_2]; done)) d_X_slot_30
  · refine lv_iload_n S.1 S.2.1 d_X_slot_4 rfl (lv_at hl 0 rfl) ?_
    refine lv_goto (tgt := 25) S.1 S.2.1 d_X_slot_5 (by decide) ?_
    refine lv_istore_n (lv' := [(2, .int i), (0, .int i), (1, .int v)]) S.1 S.2.1 d_X_slot_25 rfl hl (by decide) rfl (fun ls hl => ?_)
    refine lv_iload_n S.1 S.2.1 d_X_slot_26 rfl (lv_at hl 0 rfl) ?_
    refine lv_bipush (v := 15) S.1 S.2.1 d_X_slot_27 (by decide) ?_
    refine lv_irem S.1 S.2.1 d_X_slot_29 (by decide) ?_
    exact cx_endI S hr hlk (by first | rfl | (unfold sh_slot; rfl) | (unfold sh_slot; simp only [if_pos c_1]; done) | (unfold sh_slot; simp only [if_pos c_1]; rfl) | (unfold sh_slot; dsimp only; simp only [if_pos c_1]; done) | (unfold sh_slot; simp only [if_pos c_1]; done)) d_X_slot_30
end
section
/-! ===== Cells.startCall, touch; Mover: register, setRegister, moved, isDone, isOld, useHalf ===== -/
theorem in8 {r : Int32} (h : ¬ sh_isReg r = 0) : vp_in r 8 := by
  unfold sh_isReg sh_below at h
  by_cases h1 : r < 0
  · rw [if_pos h1] at h; exact absurd rfl h
  · rw [if_neg h1] at h
    by_cases h2 : (8 : Int32) ≤ r
    · rw [if_pos h2] at h; exact absurd rfl h
    · rw [vp_in_iff]
      rw [Int32.lt_iff_toInt_lt, Int32.toInt_zero] at h1
      rw [Int32.le_iff_toInt_le, show (8 : Int32).toInt = 8 from rfl] at h2
      omega
set_option maxHeartbeats 4000000 in
set_option maxRecDepth 100000 in
theorem c_C_startCall (l : Launch) (D : va_G) (cI cP : ClassId) (a : cx_a) (κ : sh_K) (np : Nat) (σ : sh_S) : cx_Met l D cI cP a κ np y_C_startCall b_C_startCall 1 (none) 0 0 [.ref (aXC a)] σ (none) (uC σ (sh_start (σ).1)) := by
  refine cx_start (by decide) (Nat.le_of_ble_eq_true rfl) (Nat.le_refl _) ?_
  intro p e R s m args below meth c A ls S hr hlk hfr hlc hw hbud hl
  have hl : lv_has ls 1 [(0, .ref (aXC a))] := hl
  refine lv_aload_n S.1 S.2.1 d_C_startCall_0 rfl (lv_at hl 0 rfl) ?_
  refine lv_iconst (v := 0) S.1 S.2.1 d_C_startCall_1 (by decide) ?_
  refine cx_put S hw (q0 := 1) (ci := 1) (k := 3) (σ' := uTouS σ (0)) (ty := .int) (fun _ => rfl) rfl (by decide) inC tyC tyC_ok nmC tb_40 rfl rfl rfl rfl rfl (Nat.le_of_ble_eq_true rfl) (fun _ => rfl) rfl rfl d_C_startCall_2 (fun H locs hw => ?_)
  refine W.cs (cells' := 2 * (nal (uTouS σ (0)) - nal σ)) (slots' := 1025 * (nal (uTouS σ (0)) - nal σ)) rfl rfl ?_
  exact cx_retV S hr hlk hw hbud (by first | rfl | (unfold sh_start; rfl)) (by first | rfl | (unfold sh_start; rfl)) d_C_startCall_5
set_option maxHeartbeats 4000000 in
set_option maxRecDepth 100000 in
theorem c_C_touch (l : Launch) (D : va_G) (cI cP : ClassId) (a : cx_a) (κ : sh_K) (np : Nat) (σ : sh_S) : cx_Met l D cI cP a κ np y_C_touch b_C_touch 1 (none) 0 0 [.ref (aXC a)] σ (none) (uC σ (sh_touch κ (σ).1)) := by
  refine cx_start (by decide) (Nat.le_of_ble_eq_true rfl) (Nat.le_refl _) ?_
  intro p e R s m args below meth c A ls S hr hlk hfr hlc hw hbud hl
  have hl : lv_has ls 1 [(0, .ref (aXC a))] := hl
  refine lv_aload_n S.1 S.2.1 d_C_touch_0 rfl (lv_at hl 0 rfl) ?_
  refine lv_dup S.1 S.2.1 d_C_touch_1 rfl ?_
  refine cx_get S hw (q0 := 1) (ci := 1) (k := 3) (v := .int (sTou σ)) (fun _ => rfl) rfl (by decide) inC tb_40 rfl rfl d_C_touch_2 ?_
  refine lv_iconst (v := 1) S.1 S.2.1 d_C_touch_5 (by decide) ?_
  refine lv_iadd S.1 S.2.1 d_C_touch_6 ?_
  refine cx_put S hw (q0 := 1) (ci := 1) (k := 3) (σ' := uTouS σ ((sTou σ) + 1)) (ty := .int) (fun _ => rfl) rfl (by decide) inC tyC tyC_ok nmC tb_40 rfl rfl rfl rfl rfl (Nat.le_of_ble_eq_true rfl) (fun _ => rfl) rfl rfl d_C_touch_7 (fun H locs hw => ?_)
  refine W.cs (cells' := 2 * (nal (uTouS σ ((sTou σ) + 1)) - nal σ)) (slots' := 1025 * (nal (uTouS σ ((sTou σ) + 1)) - nal σ)) rfl rfl ?_
  refine lv_aload_n S.1 S.2.1 d_C_touch_10 rfl (lv_at hl 0 rfl) ?_
  refine cx_get S hw (q0 := 1) (ci := 1) (k := 3) (v := .int (sTou (uTouS σ ((sTou σ) + 1)))) (fun _ => rfl) rfl (by decide) inC tb_40 rfl rfl d_C_touch_11 ?_
  refine lv_aload_n S.1 S.2.1 d_C_touch_14 rfl (lv_at hl 0 rfl) ?_
  refine cx_get S hw (q0 := 1) (ci := 1) (k := 2) (v := .int (kAl κ)) (fun _ => rfl) rfl (by decide) inC tb_39 rfl rfl d_C_touch_15 ?_
  refine lv_icmp_le (tgt := 26) S.1 S.2.1 d_C_touch_18 (by decide) (fun c_1 => ?_) (fun c_1 => ?_)
  · exact cx_retV S hr hlk hw hbud (by first | rfl | (unfold sh_touch; rfl) | (unfold sh_touch; simp only [if_pos c_1]; done) | (unfold sh_touch; simp only [if_pos c_1]; rfl) | (unfold sh_touch; dsimp only; simp only [if_pos c_1]; done) | (unfold sh_touch; simp only [if_pos c_1]; done)) (by first | rfl | (unfold sh_touch; rfl) | (unfold sh_touch; simp only [if_pos c_1]; done) | (unfold sh_touch; simp only [if_pos c_1]; rfl) | (unfold sh_touch; dsimp only; simp only [if_pos c_1]; done) | (unfold sh_touch; simp only [if_pos c_1]; done)) d_C_touch_26
  · refine lv_aload_n S.1 S.2.1 d_C_touch_21 rfl (lv_at hl 0 rfl) ?_
    refine lv_iconst (v := 0) S.1 S.2.1 d_C_touch_22 (by decide) ?_
    refine cx_put S hw (q0 := 1) (ci := 1) (k := 4) (σ' := uSteS (uTouS σ ((sTou σ) + 1)) (0)) (ty := .boolean) (fun _ => rfl) rfl (by decide) inC tyC tyC_ok nmC tb_41 rfl rfl rfl rfl rfl (Nat.le_of_ble_eq_true rfl) (fun _ => rfl) rfl rfl d_C_touch_23 (fun H locs hw => ?_)
    refine W.cs (cells' := 2 * (nal (uSteS (uTouS σ ((sTou σ) + 1)) (0)) - nal σ)) (slots' := 1025 * (nal (uSteS (uTouS σ ((sTou σ) + 1)) (0)) - nal σ)) rfl rfl ?_
    exact cx_retV S hr hlk hw hbud (by first | rfl | (unfold sh_touch; rfl) | (unfold sh_touch; simp only [if_neg c_1]; done) | (unfold sh_touch; simp only [if_neg c_1]; rfl) | (unfold sh_touch; dsimp only; simp only [if_neg c_1]; done) | (unfold sh_touch; simp only [if_neg c_1]; done)) (by first | rfl | (unfold sh_touch; rfl) | (unfold sh_touch; simp only [if_neg c_1]; done) | (unfold sh_touch; simp only [if_neg c_1]; rfl) | (unfold sh_touch; dsimp only; simp only [if_neg c_1]; done) | (unfold sh_touch; simp only [if_neg c_1]; done)) d_C_touch_26
set_option maxHeartbeats 4000000 in
set_option maxRecDepth 100000 in
theorem c_M_register (l : Launch) (D : va_G) (cI cP : ClassId) (a : cx_a) (κ : sh_K) (np : Nat) (σ : sh_S) (r : Int32) : cx_Rd l D cI cP a κ np y_M_register b_M_register 2 (some .int) 2 41 [.ref (aXM a), .int r] σ (sh_reg σ r) := by
  refine cx_startR (by decide) (Nat.le_of_ble_eq_true rfl) ?_
  intro p e R s m args below meth c A ls S hr hlk hfr hlc hw hl
  have hl : lv_has ls 2 [(0, .ref (aXM a)), (1, .int r)] := hl
  refine lv_iload_n S.1 S.2.1 d_M_register_0 rfl (lv_at hl 1 rfl) ?_
  refine cx_fnN S hw.2.2.2.1 (As := [.int r]) (rest := []) (c_X_isRegister l r) tb_116 nxw_7 tb_115 tb_1 hdf_X_isRegister rfl ⟨by omega, by omega⟩ hl.1 rfl (Nat.le_of_ble_eq_true rfl) d_M_register_1 ⟨Nat.zero_le _, Nat.zero_le _⟩ ?_
  refine lv_if_eq (tgt := 16) S.1 S.2.1 d_M_register_4 (by decide) (fun c_1 => ?_) (fun c_1 => ?_)
  · refine lv_iconst (v := 0) S.1 S.2.1 d_M_register_16 (by decide) ?_
    exact cx_endI S hr hlk (by first | rfl | (unfold sh_reg; rfl) | (unfold sh_reg; simp only [if_pos c_1]; done) | (unfold sh_reg; simp only [if_pos c_1]; rfl) | (unfold sh_reg; dsimp only; simp only [if_pos c_1]; done) | (unfold sh_reg; simp only [if_pos c_1]; done)) d_M_register_17
  · refine lv_aload_n S.1 S.2.1 d_M_register_7 rfl (lv_at hl 0 rfl) ?_
    refine cx_get S hw (q0 := 2) (ci := 2) (k := 4) (v := .ref (aXR a)) (fun _ => rfl) rfl (by decide) inM tb_65 rfl rfl d_M_register_8 ?_
    refine lv_iload_n S.1 S.2.1 d_M_register_11 rfl (lv_at hl 1 rfl) ?_
    refine cx_rld S hw (i := r) (in8 c_1) d_M_register_12 ?_
    refine lv_goto (tgt := 17) S.1 S.2.1 d_M_register_13 (by decide) ?_
    exact cx_endI S hr hlk (by first | rfl | (unfold sh_reg; rfl) | (unfold sh_reg; simp only [if_neg c_1]; done) | (unfold sh_reg; simp only [if_neg c_1]; rfl) | (unfold sh_reg; dsimp only; simp only [if_neg c_1]; done) | (unfold sh_reg; simp only [if_neg c_1]; done)) d_M_register_17
set_option maxHeartbeats 4000000 in
set_option maxRecDepth 100000 in
theorem c_M_setRegister (l : Launch) (D : va_G) (cI cP : ClassId) (a : cx_a) (κ : sh_K) (np : Nat) (σ : sh_S) (r v : Int32) : cx_Met l D cI cP a κ np y_M_setRegister b_M_setRegister 3 (none) 2 41 [.ref (aXM a), .int r, .int v] σ (none) (sh_setReg σ r v) := by
  refine cx_start (by decide) (Nat.le_of_ble_eq_true rfl) (Nat.le_of_eq (by unfold sh_setReg; split <;> rfl)) ?_
  intro p e R s m args below meth c A ls S hr hlk hfr hlc hw hbud hl
  have hl : lv_has ls 3 [(0, .ref (aXM a)), (1, .int r), (2, .int v)] := hl
  refine lv_iload_n S.1 S.2.1 d_M_setRegister_0 rfl (lv_at hl 1 rfl) ?_
  refine cx_fnN S hw.2.2.2.1 (As := [.int r]) (rest := []) (c_X_isRegister l r) tb_116 nxw_7 tb_115 tb_1 hdf_X_isRegister rfl ⟨by omega, by omega⟩ hl.1 rfl (Nat.le_of_ble_eq_true rfl) d_M_setRegister_1 (hw.fit hbud) ?_
  refine lv_if_eq (tgt := 14) S.1 S.2.1 d_M_setRegister_4 (by decide) (fun c_1 => ?_) (fun c_1 => ?_)
  · exact cx_retV S hr hlk hw hbud (by first | rfl | (unfold sh_setReg; rfl) | (unfold sh_setReg; simp only [if_pos c_1]; done) | (unfold sh_setReg; simp only [if_pos c_1]; rfl) | (unfold sh_setReg; dsimp only; simp only [if_pos c_1]; done) | (unfold sh_setReg; simp only [if_pos c_1]; done)) (by first | rfl | (unfold sh_setReg; rfl) | (unfold sh_setReg; simp only [if_pos c_1]; done) | (unfold sh_setReg; simp only [if_pos c_1]; rfl) | (unfold sh_setReg; dsimp only; simp only [if_pos c_1]; done) | (unfold sh_setReg; simp only [if_pos c_1]; done)) d_M_setRegister_14
  · refine lv_aload_n S.1 S.2.1 d_M_setRegister_7 rfl (lv_at hl 0 rfl) ?_
    refine cx_get S hw (q0 := 2) (ci := 2) (k := 4) (v := .ref (aXR a)) (fun _ => rfl) rfl (by decide) inM tb_65 rfl rfl d_M_setRegister_8 ?_
    refine lv_iload_n S.1 S.2.1 d_M_setRegister_11 rfl (lv_at hl 1 rfl) ?_
    refine lv_iload_n S.1 S.2.1 d_M_setRegister_12 rfl (lv_at hl 2 rfl) ?_
    refine cx_rst S hw (i := r) (v := v) (in8 c_1) d_M_setRegister_13 (fun H locs hw => ?_)
    refine W.cs (cells' := 2 * (nal (uReg σ (upd (sReg σ) (r).toNatClampNeg (v))) - nal σ)) (slots' := 1025 * (nal (uReg σ (upd (sReg σ) (r).toNatClampNeg (v))) - nal σ)) rfl rfl ?_
    exact cx_retV S hr hlk hw hbud (by first | rfl | (unfold sh_setReg; rfl) | (unfold sh_setReg; simp only [if_neg c_1]; done) | (unfold sh_setReg; simp only [if_neg c_1]; rfl) | (unfold sh_setReg; dsimp only; simp only [if_neg c_1]; done) | (unfold sh_setReg; simp only [if_neg c_1]; done)) (by first | rfl | (unfold sh_setReg; rfl) | (unfold sh_setReg; simp only [if_neg c_1]; done) | (unfold sh_setReg; simp only [if_neg c_1]; rfl) | (unfold sh_setReg; dsimp only; simp only [if_neg c_1]; done) | (unfold sh_setReg; simp only [if_neg c_1]; done)) d_M_setRegister_14
set_option maxHeartbeats 4000000 in
set_option maxRecDepth 100000 in
theorem c_M_moved (l : Launch) (D : va_G) (cI cP : ClassId) (a : cx_a) (κ : sh_K) (np : Nat) (σ : sh_S) : cx_Rd l D cI cP a κ np y_M_moved b_M_moved 1 (some .int) 0 0 [.ref (aXM a)] σ (sh_moved σ) := by
  refine cx_startR (by decide) (Nat.le_of_ble_eq_true rfl) ?_
  intro p e R s m args below meth c A ls S hr hlk hfr hlc hw hl
  have hl : lv_has ls 1 [(0, .ref (aXM a))] := hl
  refine lv_aload_n S.1 S.2.1 d_M_moved_0 rfl (lv_at hl 0 rfl) ?_
  refine cx_get S hw (q0 := 2) (ci := 2) (k := 8) (v := .int (sFree σ)) (fun _ => rfl) rfl (by decide) inM tb_71 rfl rfl d_M_moved_1 ?_
  refine lv_aload_n S.1 S.2.1 d_M_moved_4 rfl (lv_at hl 0 rfl) ?_
  refine cx_get S hw (q0 := 2) (ci := 2) (k := 7) (v := .int (sBase σ)) (fun _ => rfl) rfl (by decide) inM tb_70 rfl rfl d_M_moved_5 ?_
  refine lv_isub S.1 S.2.1 d_M_moved_8 ?_
  exact cx_endI S hr hlk (by first | rfl | (unfold sh_moved; rfl)) d_M_moved_9
set_option maxHeartbeats 4000000 in
set_option maxRecDepth 100000 in
theorem c_M_isDone (l : Launch) (D : va_G) (cI cP : ClassId) (a : cx_a) (κ : sh_K) (np : Nat) (σ : sh_S) : cx_Rd l D cI cP a κ np y_M_isDone b_M_isDone 1 (some .boolean) 1 20 [.ref (aXM a)] σ (sh_done κ σ) := by
  refine cx_startR (by decide) (Nat.le_of_ble_eq_true rfl) ?_
  intro p e R s m args below meth c A ls S hr hlk hfr hlc hw hl
  have hl : lv_has ls 1 [(0, .ref (aXM a))] := hl
  refine lv_aload_n S.1 S.2.1 d_M_isDone_0 rfl (lv_at hl 0 rfl) ?_
  refine cx_get S hw (q0 := 2) (ci := 2) (k := 10) (v := .int (sScan σ)) (fun _ => rfl) rfl (by decide) inM tb_73 rfl rfl d_M_isDone_1 ?_
  refine lv_aload_n S.1 S.2.1 d_M_isDone_4 rfl (lv_at hl 0 rfl) ?_
  refine cx_get S hw (q0 := 2) (ci := 2) (k := 8) (v := .int (sFree σ)) (fun _ => rfl) rfl (by decide) inM tb_71 rfl rfl d_M_isDone_5 ?_
  refine lv_icmp_ne (tgt := 31) S.1 S.2.1 d_M_isDone_8 (by decide) (fun c_1 => ?_) (fun c_1 => ?_)
  · refine lv_iconst (v := 0) S.1 S.2.1 d_M_isDone_31 (by decide) ?_
    exact cx_endZ S hr hlk (by first | rfl | (unfold sh_done; rfl) | (unfold sh_done; simp only [if_neg c_1]; done) | (unfold sh_done; simp only [if_neg c_1]; rfl) | (unfold sh_done; dsimp only; simp only [if_neg c_1]; done) | (unfold sh_done; simp only [if_neg c_1]; done)) (Or.inl rfl) d_M_isDone_32
  · refine lv_aload_n S.1 S.2.1 d_M_isDone_11 rfl (lv_at hl 0 rfl) ?_
    refine cx_get S hw (q0 := 2) (ci := 2) (k := 2) (v := .int (kK κ)) (fun _ => rfl) rfl (by decide) inM tb_62 rfl rfl d_M_isDone_12 ?_
    refine lv_aload_n S.1 S.2.1 d_M_isDone_15 rfl (lv_at hl 0 rfl) ?_
    refine cx_get S hw (q0 := 2) (ci := 2) (k := 5) (v := .int (sMade σ)) (fun _ => rfl) rfl (by decide) inM tb_66 rfl rfl d_M_isDone_16 ?_
    refine lv_imul S.1 S.2.1 d_M_isDone_19 ?_
    refine lv_aload_n S.1 S.2.1 d_M_isDone_20 rfl (lv_at hl 0 rfl) ?_
    refine cx_rd S hw ⟨Nat.zero_le _, Nat.zero_le _⟩ (As := []) (rest := [.int ((kK κ) * (sMade σ))]) (c_M_moved l D cI cP a κ np σ ) (q0 := 2) (fun _ => rfl) rfl tb_154 tb_151 tb_152 tb_153 tb_3 hd_M_moved rfl ⟨by omega, by omega⟩ hl.1 rfl (Nat.le_of_ble_eq_true rfl) d_M_isDone_21 ?_
    refine lv_icmp_lt (tgt := 31) S.1 S.2.1 d_M_isDone_24 (by decide) (fun c_2 => ?_) (fun c_2 => ?_)
    · refine lv_iconst (v := 0) S.1 S.2.1 d_M_isDone_31 (by decide) ?_
      exact cx_endZ S hr hlk (by first | rfl | (unfold sh_done; rfl) | (unfold sh_done; simp only [if_pos c_1, if_pos c_2]; done) | (unfold sh_done; simp only [if_pos c_1, if_pos c_2]; rfl) | (unfold sh_done; dsimp only; simp only [if_pos c_1, if_pos c_2]; done) | (unfold sh_done; simp only [if_pos c_1, if_pos c_2]; done)) (Or.inl rfl) d_M_isDone_32
    · refine lv_iconst (v := 1) S.1 S.2.1 d_M_isDone_27 (by decide) ?_
      refine lv_goto (tgt := 32) S.1 S.2.1 d_M_isDone_28 (by decide) ?_
      exact cx_endZ S hr hlk (by first | exact absurd c_1 c_2 | rfl | (unfold sh_done; rfl) | (unfold sh_done; simp only [if_pos c_1, if_neg c_2]; done) | (unfold sh_done; simp only [if_pos c_1, if_neg c_2]; rfl) | (unfold sh_done; dsimp only; simp only [if_pos c_1, if_neg c_2]; done) | (unfold sh_done; simp only [if_pos c_1, if_neg c_2]; done)) (Or.inr rfl) d_M_isDone_32
set_option maxHeartbeats 4000000 in
set_option maxRecDepth 100000 in
theorem c_M_isOld (l : Launch) (D : va_G) (cI cP : ClassId) (a : cx_a) (κ : sh_K) (np : Nat) (σ : sh_S) (x : Int32) : cx_Rd l D cI cP a κ np y_M_isOld b_M_isOld 2 (some .boolean) 0 0 [.ref (aXM a), .int x] σ (sh_old κ σ x) := by
  refine cx_startR (by decide) (Nat.le_of_ble_eq_true rfl) ?_
  intro p e R s m args below meth c A ls S hr hlk hfr hlc hw hl
  have hl : lv_has ls 2 [(0, .ref (aXM a)), (1, .int x)] := hl
  refine lv_iload_n S.1 S.2.1 d_M_isOld_0 rfl (lv_at hl 1 rfl) ?_
  refine lv_if_eq (tgt := 29) S.1 S.2.1 d_M_isOld_1 (by decide) (fun c_1 => ?_) (fun c_1 => ?_)
  · refine lv_iconst (v := 0) S.1 S.2.1 d_M_isOld_29 (by decide) ?_
    exact cx_endZ S hr hlk (by first | rfl | (unfold sh_old; rfl) | (unfold sh_old; simp only [if_pos c_1]; done) | (unfold sh_old; simp only [if_pos c_1]; rfl) | (unfold sh_old; dsimp only; simp only [if_pos c_1]; done) | (unfold sh_old; simp only [if_pos c_1]; done)) (Or.inl rfl) d_M_isOld_30
  · refine lv_iload_n S.1 S.2.1 d_M_isOld_4 rfl (lv_at hl 1 rfl) ?_
    refine lv_aload_n S.1 S.2.1 d_M_isOld_5 rfl (lv_at hl 0 rfl) ?_
    refine cx_get S hw (q0 := 2) (ci := 2) (k := 7) (v := .int (sBase σ)) (fun _ => rfl) rfl (by decide) inM tb_70 rfl rfl d_M_isOld_6 ?_
    refine lv_icmp_lt (tgt := 25) S.1 S.2.1 d_M_isOld_9 (by decide) (fun c_2 => ?_) (fun c_2 => ?_)
    · refine lv_iconst (v := 1) S.1 S.2.1 d_M_isOld_25 (by decide) ?_
      refine lv_goto (tgt := 30) S.1 S.2.1 d_M_isOld_26 (by decide) ?_
      exact cx_endZ S hr hlk (by first | exact absurd c_2 c_1 | rfl | (unfold sh_old; rfl) | (unfold sh_old; simp only [if_neg c_1, if_pos c_2]; done) | (unfold sh_old; simp only [if_neg c_1, if_pos c_2]; rfl) | (unfold sh_old; dsimp only; simp only [if_neg c_1, if_pos c_2]; done) | (unfold sh_old; simp only [if_neg c_1, if_pos c_2]; done)) (Or.inr rfl) d_M_isOld_30
    · refine lv_iload_n S.1 S.2.1 d_M_isOld_12 rfl (lv_at hl 1 rfl) ?_
      refine lv_aload_n S.1 S.2.1 d_M_isOld_13 rfl (lv_at hl 0 rfl) ?_
      refine cx_get S hw (q0 := 2) (ci := 2) (k := 7) (v := .int (sBase σ)) (fun _ => rfl) rfl (by decide) inM tb_70 rfl rfl d_M_isOld_14 ?_
      refine lv_aload_n S.1 S.2.1 d_M_isOld_17 rfl (lv_at hl 0 rfl) ?_
      refine cx_get S hw (q0 := 2) (ci := 2) (k := 1) (v := .int (kHalf κ)) (fun _ => rfl) rfl (by decide) inM tb_61 rfl rfl d_M_isOld_18 ?_
      refine lv_iadd S.1 S.2.1 d_M_isOld_21 ?_
      refine lv_icmp_lt (tgt := 29) S.1 S.2.1 d_M_isOld_22 (by decide) (fun c_3 => ?_) (fun c_3 => ?_)
      · refine lv_iconst (v := 0) S.1 S.2.1 d_M_isOld_29 (by decide) ?_
        exact cx_endZ S hr hlk (by first | exact absurd c_3 c_1 | exact absurd c_3 c_2 | rfl | (unfold sh_old; rfl) | (unfold sh_old; simp only [if_neg c_1, if_neg c_2, if_pos c_3]; done) | (unfold sh_old; simp only [if_neg c_1, if_neg c_2, if_pos c_3]; rfl) | (unfold sh_old; dsimp only; simp only [if_neg c_1, if_neg c_2, if_pos c_3]; done) | (unfold sh_old; simp only [if_neg c_1, if_neg c_2, if_pos c_3]; done)) (Or.inl rfl) d_M_isOld_30
      · refine lv_iconst (v := 1) S.1 S.2.1 d_M_isOld_25 (by decide) ?_
        refine lv_goto (tgt := 30) S.1 S.2.1 d_M_isOld_26 (by decide) ?_
        exact cx_endZ S hr hlk (by first | rfl | (unfold sh_old; rfl) | (unfold sh_old; simp only [if_neg c_1, if_neg c_2, if_neg c_3]; done) | (unfold sh_old; simp only [if_neg c_1, if_neg c_2, if_neg c_3]; rfl) | (unfold sh_old; dsimp only; simp only [if_neg c_1, if_neg c_2, if_neg c_3]; done) | (unfold sh_old; simp only [if_neg c_1, if_neg c_2, if_neg c_3]; done)) (Or.inr rfl) d_M_isOld_30
set_option maxHeartbeats 4000000 in
set_option maxRecDepth 100000 in
theorem c_M_useHalf (l : Launch) (D : va_G) (cI cP : ClassId) (a : cx_a) (κ : sh_K) (np : Nat) (σ : sh_S) (f : Int32) : cx_Met l D cI cP a κ np y_M_useHalf b_M_useHalf 2 (none) 0 0 [.ref (aXM a), .int f] σ (none) (sh_useHalf κ σ f) := by
  refine cx_start (by decide) (Nat.le_of_ble_eq_true rfl) (Nat.le_refl _) ?_
  intro p e R s m args below meth c A ls S hr hlk hfr hlc hw hbud hl
  have hl : lv_has ls 2 [(0, .ref (aXM a)), (1, .int f)] := hl
  refine lv_aload_n S.1 S.2.1 d_M_useHalf_0 rfl (lv_at hl 0 rfl) ?_
  refine lv_iload_n S.1 S.2.1 d_M_useHalf_1 rfl (lv_at hl 1 rfl) ?_
  refine cx_put S hw (q0 := 2) (ci := 2) (k := 7) (σ' := uBase σ (f)) (ty := .int) (fun _ => rfl) rfl (by decide) inM tyM tyM_ok nmM tb_70 rfl rfl rfl rfl rfl (Nat.le_of_ble_eq_true rfl) (fun _ => rfl) rfl rfl d_M_useHalf_2 (fun H locs hw => ?_)
  refine W.cs (cells' := 2 * (nal (uBase σ (f)) - nal σ)) (slots' := 1025 * (nal (uBase σ (f)) - nal σ)) rfl rfl ?_
  refine lv_aload_n S.1 S.2.1 d_M_useHalf_5 rfl (lv_at hl 0 rfl) ?_
  refine lv_iload_n S.1 S.2.1 d_M_useHalf_6 rfl (lv_at hl 1 rfl) ?_
  refine cx_put S hw (q0 := 2) (ci := 2) (k := 8) (σ' := uFree (uBase σ (f)) (f)) (ty := .int) (fun _ => rfl) rfl (by decide) inM tyM tyM_ok nmM tb_71 rfl rfl rfl rfl rfl (Nat.le_of_ble_eq_true rfl) (fun _ => rfl) rfl rfl d_M_useHalf_7 (fun H locs hw => ?_)
  refine W.cs (cells' := 2 * (nal (uFree (uBase σ (f)) (f)) - nal σ)) (slots' := 1025 * (nal (uFree (uBase σ (f)) (f)) - nal σ)) rfl rfl ?_
  refine lv_aload_n S.1 S.2.1 d_M_useHalf_10 rfl (lv_at hl 0 rfl) ?_
  refine lv_iload_n S.1 S.2.1 d_M_useHalf_11 rfl (lv_at hl 1 rfl) ?_
  refine lv_aload_n S.1 S.2.1 d_M_useHalf_12 rfl (lv_at hl 0 rfl) ?_
  refine cx_get S hw (q0 := 2) (ci := 2) (k := 1) (v := .int (kHalf κ)) (fun _ => rfl) rfl (by decide) inM tb_61 rfl rfl d_M_useHalf_13 ?_
  refine lv_iadd S.1 S.2.1 d_M_useHalf_16 ?_
  refine cx_put S hw (q0 := 2) (ci := 2) (k := 9) (σ' := uLow (uFree (uBase σ (f)) (f)) (f + (kHalf κ))) (ty := .int) (fun _ => rfl) rfl (by decide) inM tyM tyM_ok nmM tb_72 rfl rfl rfl rfl rfl (Nat.le_of_ble_eq_true rfl) (fun _ => rfl) rfl rfl d_M_useHalf_17 (fun H locs hw => ?_)
  refine W.cs (cells' := 2 * (nal (uLow (uFree (uBase σ (f)) (f)) (f + (kHalf κ))) - nal σ)) (slots' := 1025 * (nal (uLow (uFree (uBase σ (f)) (f)) (f + (kHalf κ))) - nal σ)) rfl rfl ?_
  refine lv_aload_n S.1 S.2.1 d_M_useHalf_20 rfl (lv_at hl 0 rfl) ?_
  refine lv_iload_n S.1 S.2.1 d_M_useHalf_21 rfl (lv_at hl 1 rfl) ?_
  refine cx_put S hw (q0 := 2) (ci := 2) (k := 10) (σ' := uScan (uLow (uFree (uBase σ (f)) (f)) (f + (kHalf κ))) (f)) (ty := .int) (fun _ => rfl) rfl (by decide) inM tyM tyM_ok nmM tb_73 rfl rfl rfl rfl rfl (Nat.le_of_ble_eq_true rfl) (fun _ => rfl) rfl rfl d_M_useHalf_22 (fun H locs hw => ?_)
  refine W.cs (cells' := 2 * (nal (uScan (uLow (uFree (uBase σ (f)) (f)) (f + (kHalf κ))) (f)) - nal σ)) (slots' := 1025 * (nal (uScan (uLow (uFree (uBase σ (f)) (f)) (f + (kHalf κ))) (f)) - nal σ)) rfl rfl ?_
  refine lv_aload_n S.1 S.2.1 d_M_useHalf_25 rfl (lv_at hl 0 rfl) ?_
  refine lv_iload_n S.1 S.2.1 d_M_useHalf_26 rfl (lv_at hl 1 rfl) ?_
  refine cx_put S hw (q0 := 2) (ci := 2) (k := 11) (σ' := uTend (uScan (uLow (uFree (uBase σ (f)) (f)) (f + (kHalf κ))) (f)) (f)) (ty := .int) (fun _ => rfl) rfl (by decide) inM tyM tyM_ok nmM tb_74 rfl rfl rfl rfl rfl (Nat.le_of_ble_eq_true rfl) (fun _ => rfl) rfl rfl d_M_useHalf_27 (fun H locs hw => ?_)
  refine W.cs (cells' := 2 * (nal (uTend (uScan (uLow (uFree (uBase σ (f)) (f)) (f + (kHalf κ))) (f)) (f)) - nal σ)) (slots' := 1025 * (nal (uTend (uScan (uLow (uFree (uBase σ (f)) (f)) (f + (kHalf κ))) (f)) (f)) - nal σ)) rfl rfl ?_
  refine lv_aload_n S.1 S.2.1 d_M_useHalf_30 rfl (lv_at hl 0 rfl) ?_
  refine lv_iload_n S.1 S.2.1 d_M_useHalf_31 rfl (lv_at hl 1 rfl) ?_
  refine cx_put S hw (q0 := 2) (ci := 2) (k := 12) (σ' := uNh (uTend (uScan (uLow (uFree (uBase σ (f)) (f)) (f + (kHalf κ))) (f)) (f)) (f)) (ty := .int) (fun _ => rfl) rfl (by decide) inM tyM tyM_ok nmM tb_75 rfl rfl rfl rfl rfl (Nat.le_of_ble_eq_true rfl) (fun _ => rfl) rfl rfl d_M_useHalf_32 (fun H locs hw => ?_)
  refine W.cs (cells' := 2 * (nal (uNh (uTend (uScan (uLow (uFree (uBase σ (f)) (f)) (f + (kHalf κ))) (f)) (f)) (f)) - nal σ)) (slots' := 1025 * (nal (uNh (uTend (uScan (uLow (uFree (uBase σ (f)) (f)) (f + (kHalf κ))) (f)) (f)) (f)) - nal σ)) rfl rfl ?_
  exact cx_retV S hr hlk hw hbud (by first | rfl | (unfold sh_useHalf; rfl)) (by first | rfl | (unfold sh_useHalf; rfl)) d_M_useHalf_35
end
section
/-! ===== Page.<init>, Cells.read, Cells.write ===== -/
set_option maxHeartbeats 4000000 in
set_option maxRecDepth 100000 in
/-- Page(): a row of 1,024 zeros -/
theorem c_P_init (l : Launch) (D : va_G) (cI : ClassId) (h0 sz : Nat) : Met l y_P_init (.code y_P_init b_P_init 1 none :: bt) ({ frames := 1, cells := 1, slots := 1024, locals := 12 })
    (va_Pc [.ref h0] (fun U => U.heap.size = sz ∧ va_P D vwC [(h0, .inr (3, [.null]))] U.heap ∧ va_K D vwC [(cI, .int)] U ∧ va_D (fun _ => True) [(h0, .inr (3, [.null]))]))
    (va_Qv (fun _ : Unit => True) (fun _ t => ∃ r, va_P D vwC [(h0, .inr (3, [.ref r])), (r, .inl (cI, 1024, .inl (fun _ => 0)))] t.heap ∧ va_D (va_A [(h0, .inr (3, [.null]))] sz) [(h0, .inr (3, [.ref r])), (r, .inl (cI, 1024, .inl (fun _ => 0)))]) (va_A [(h0, .inr (3, [.null]))] sz)) 1 1024 (va_A [(h0, .inr (3, [.null]))] sz) := by
  refine Met.ofW (cc := b_P_init) (maxL := 1) (ret := none) (by decide) rfl ?_
  intro p e s m args below meth c s₁ B hml hv
  obtain ⟨rfl, hsz, hP, hK, hD0⟩ := hv
  have hx := B.exec
  have hb := B.bytes
  have hr := B.returns
  have hts := atoms_spec (ws := .code y_P_init b_P_init 1 none :: bt) B.pre
  have up := fun {w : Cond} (h : w ∈ bt) => hts w (List.mem_cons_of_mem _ h)
  have hown : s.vm.findClass "StepHeap$Page" = some m.cls := findClass_of_methodNamed B.named
  have hlocks := B.notSynchronized
  have hin : meth.name = "<init>" := (name_of_methodNamed B.named B.method).1
  subst hsz
  have hD := hD0.self (sz := s.heap.size)
  generalize hAe : va_A [(h0, .inr (3, [.null]))] s.heap.size = A at hD ⊢
  have hA : ∀ q : Nat, s.heap.size ≤ q → A q := fun q h => by rw [← hAe]; exact Or.inr h
  have hS : va_S A s.heap s.heap [] := va_S.rf
  have hl := lv_entry ([.ref h0]) (n := 1) (Nat.le_of_ble_eq_true rfl)
  rw [lg_entry_eq]
  generalize (lg_sl ([.ref h0]) ++ List.replicate (1 - (lg_sl ([.ref h0])).length) Slot.unset).toArray = ls at hl ⊢
  have hl : lv_has ls 1 [(0, .ref h0)] := hl
  refine lv_aload_n hx hb d_P_init_0 rfl (lv_at hl 0 rfl) ?_
  refine W.objInit hx hb hown (up tb_184) (up tb_14) (up tb_15) rfl (by rw [hml]; exact hl.1) rfl d_P_init_1 (Nat.le_of_ble_eq_true rfl) (Nat.le_of_ble_eq_true rfl) ?_
  refine W.eq (g2 := F0 m 4 ls []) rfl ?_
  refine lv_aload_n hx hb d_P_init_4 rfl (lv_at hl 0 rfl) ?_
  refine lv_sipush (v := 1024) hx hb d_P_init_5 (by decide) ?_
  refine va_newa (atype := .int) (N' := 1024) (a0 := (1024, .inl (fun _ => 0))) (ty := .int) hx hb (up tb_54) rfl hK hP hD hS hA (fun _ => rfl) (by decide) (by decide) (by decide) (Nat.le_of_ble_eq_true rfl) (Nat.le_of_ble_eq_true rfl) d_P_init_8 (fun q cA H hK2 hP hD hS => ?_)
  have hcA : cA = cI := by
    have e1 := (hK2.2 1 (cA, .int) rfl).2
    have e2 := (hK2.2 0 (cI, .int) rfl).2
    have e1 : s.vm.findClass ("[" ++ FieldType.int.toString) = some cA := e1
    have e2 : s.vm.findClass ("[" ++ FieldType.int.toString) = some cI := e2
    exact Option.some.inj (e1.symm.trans e2)
  subst hcA
  refine va_putF (D := D) (ci := 3) (v := .ref q) (ty := .array .int) (C := "StepHeap$Page") (T := TP) (N := 1) hx hb hts (fun w h => List.mem_cons_of_mem _ (inP w h)) tyP tyP_ok nmP hown hK hP hD hS 0 rfl rfl 0 (by decide) (up tb_185) (fun _ h9 => h9) rfl hin rfl (by decide +kernel) rfl rfl (Nat.le_of_ble_eq_true rfl) d_P_init_10 (fun H locs hP hD hS => ?_)
  have hP : va_P D vwC [(h0, .inr (3, [.ref q])), (q, .inl (cA, 1024, .inl (fun _ => 0)))] H := hP
  have hD : va_D A [(h0, .inr (3, [.ref q])), (q, .inl (cA, 1024, .inl (fun _ => 0)))] := hD
  exact W.vret hx hb hr (fun t ht hW => ⟨⟨(), rfl, trivial, q, by rw [ht]; exact hP, hD⟩, hS.F ht⟩) hS.2.2 d_P_init_13
end
section
/-! ===== the pages ===== -/
theorem cx_pf_some {Lp : List (Nat × Nat × Nat)} {i q : Nat} (h : cx_pf Lp i = some q) : ∃ r, (i, q, r) ∈ Lp := by
  unfold cx_pf at h
  cases hf : Lp.find? (fun t => t.1 == i) with
  | none => rw [hf] at h; cases h
  | some t =>
    rw [hf] at h
    have h1 := List.mem_of_find?_eq_some hf
    have h2 := List.find?_some hf
    obtain ⟨a, b, c⟩ := t
    have h3 : a = i := by simpa using h2
    have h4 : b = q := Option.some.inj h
    subst h3; subst h4
    exact ⟨c, h1⟩
theorem cx_pf_none {Lp : List (Nat × Nat × Nat)} {i : Nat} (h : cx_pf Lp i = none) : i ∉ Lp.map (fun t => t.1) := by
  unfold cx_pf at h
  cases hf : Lp.find? (fun t => t.1 == i) with
  | some t => rw [hf] at h; cases h
  | none =>
    intro hm
    obtain ⟨t, h1, h2⟩ := List.mem_map.mp hm
    have := List.find?_eq_none.mp hf t h1
    exact this (by simpa using h2)
theorem cx_pf_push {Lp : List (Nat × Nat × Nat)} {i q r : Nat} (h : i ∉ Lp.map (fun t => t.1)) : va_up (cx_pf Lp) i (some q) = cx_pf (Lp ++ [(i, q, r)]) := by
  funext j
  unfold va_up cx_pf
  rw [List.find?_append]
  by_cases hj : j = i
  · subst hj
    rw [if_pos rfl]
    have : Lp.find? (fun t => t.1 == j) = none := List.find?_eq_none.mpr (fun t ht => by
      intro z
      exact h (List.mem_map.mpr ⟨t, ht, by simpa using z⟩))
    rw [this]
    simp
  · rw [if_neg hj]
    have : [(i, q, r)].find? (fun t => t.1 == j) = none := by
      have h2 : (i == j) = false := by simpa using Ne.symm hj
      simp [List.find?, h2]
    rw [this]
    simp
theorem cx_pl_in {cI : ClassId} {Lp : List (Nat × Nat × Nat)} {mem : Nat → Int32} {i q r : Nat} (h : (i, q, r) ∈ Lp) : (q, (.inr (3, [.ref r]) : va_E)) ∈ cx_pl cI Lp mem ∧ (r, (.inl (cI, 1024, .inl (cx_row mem i)) : va_E)) ∈ cx_pl cI Lp mem := by
  unfold cx_pl
  exact ⟨List.mem_flatMap.mpr ⟨(i, q, r), h, by simp⟩, List.mem_flatMap.mpr ⟨(i, q, r), h, by simp⟩⟩
theorem cx_mem_at {X ws : va_W} {x : Nat × va_E} (h : x ∈ ws) : ∃ k : Nat, (X ++ ws)[k]? = some x := List.getElem?_of_mem (List.mem_append_right _ h)
/-- a cell of a world is set: all others stay -/
theorem cx_setmap {A : Nat → Prop} {ws : va_W} (hD : va_D A ws) {k r : Nat} {e0 e : va_E} (hk : ws[k]? = some (r, e0)) : ws.set k (r, e) = ws.map (fun x => if x.1 = r then (r, e) else x) := by
  apply List.ext_getElem?
  intro j
  have hl := (List.getElem?_eq_some_iff.mp hk).1
  by_cases hj : j = k
  · subst hj
    rw [List.getElem?_set_self hl, List.getElem?_map, hk]
    simp
  · rw [List.getElem?_set_ne (Ne.symm hj), List.getElem?_map]
    cases hx : ws[j]? with
    | none => rfl
    | some x =>
      have : x.1 ≠ r := fun z => hj (hD.1 j k x (r, e0) hx hk z)
      simp [this]
theorem cx_row_upd {mem : Nat → Int32} {n : Nat} {v : Int32} : upd (cx_row mem (n / 1024)) (n % 1024) v = cx_row (upd mem n v) (n / 1024) := by
  funext j
  unfold cx_row upd
  by_cases hj : j = n % 1024
  · rw [if_pos hj, if_pos (by omega), if_pos (by omega)]
  · rw [if_neg hj]
    show (if j < 1024 then mem (n / 1024 * 1024 + j) else 0) = _
    by_cases h : j < 1024
    · rw [if_pos h, if_pos h, if_neg (by omega)]
    · rw [if_neg h, if_neg h]
theorem cx_row_other {mem : Nat → Int32} {n i : Nat} {v : Int32} (h : i ≠ n / 1024) : cx_row (upd mem n v) i = cx_row mem i := by
  funext j
  unfold cx_row upd
  by_cases hj : j < 1024
  · rw [if_pos hj, if_pos hj, if_neg (by omega)]
  · rw [if_neg hj, if_neg hj]
theorem cx_nodup_inj {Lp : List (Nat × Nat × Nat)} (h : (Lp.map (fun t => t.2.2)).Nodup) {t t' : Nat × Nat × Nat} (h1 : t ∈ Lp) (h2 : t' ∈ Lp) (e : t.2.2 = t'.2.2) : t = t' := by
  induction Lp with
  | nil => cases h1
  | cons x l ih =>
    rw [List.map_cons, List.nodup_cons] at h
    rcases List.mem_cons.mp h1 with h1 | h1
    · rcases List.mem_cons.mp h2 with h2 | h2
      · rw [h1, h2]
      · exact absurd (List.mem_map.mpr ⟨t', h2, by rw [← e, h1]⟩) h.1
    · rcases List.mem_cons.mp h2 with h2 | h2
      · exact absurd (List.mem_map.mpr ⟨t, h1, by rw [e, h2]⟩) h.1
      · exact ih h.2 h1 h2
theorem cx_pl_map {cI : ClassId} {Lp : List (Nat × Nat × Nat)} {mem : Nat → Int32} {n q r : Nat} {v : Int32} (h0 : (n / 1024, q, r) ∈ Lp) (h1 : (Lp.map (fun t => t.2.2)).Nodup) (hq : ∀ t, t ∈ Lp → t.2.1 ≠ r) (hi : ∀ t, t ∈ Lp → t.1 = n / 1024 → t.2.2 = r) :
    (cx_pl cI Lp mem).map (fun x => if x.1 = r then (r, (.inl (cI, 1024, .inl (upd (cx_row mem (n / 1024)) (n % 1024) v)) : va_E)) else x) = cx_pl cI Lp (upd mem n v) := by
  unfold cx_pl
  rw [List.map_flatMap]
  have : ∀ t, t ∈ Lp → ([(t.2.1, .inr (3, [.ref t.2.2])), (t.2.2, .inl (cI, 1024, .inl (cx_row mem t.1)))] : va_W).map (fun x => if x.1 = r then (r, (.inl (cI, 1024, .inl (upd (cx_row mem (n / 1024)) (n % 1024) v)) : va_E)) else x) = [(t.2.1, .inr (3, [.ref t.2.2])), (t.2.2, .inl (cI, 1024, .inl (cx_row (upd mem n v) t.1)))] := by
    intro t ht
    rw [List.map_cons, List.map_cons, List.map_nil, if_neg (hq t ht)]
    by_cases hr : t.2.2 = r
    · have : t = (n / 1024, q, r) := cx_nodup_inj h1 ht h0 hr
      subst this
      rw [if_pos rfl, cx_row_upd]
    · rw [if_neg hr, cx_row_other (fun z => hr (hi t ht z))]
  have key : ∀ (L : List (Nat × Nat × Nat)) (f g : Nat × Nat × Nat → va_W), (∀ t, t ∈ L → f t = g t) → L.flatMap f = L.flatMap g := by
    intro L f g hfg
    induction L with
    | nil => rfl
    | cons x l ih => rw [List.flatMap_cons, List.flatMap_cons, hfg x List.mem_cons_self, ih (fun t ht => hfg t (List.mem_cons_of_mem _ ht))]
  exact key _ _ _ this
end
section
/-! ===== Cells.read, where the cell is in range ===== -/
theorem cx_num {κ : sh_K} {x : Int32} {la : Nat} (hl : kLast κ = nI la) (hb : la < 2 ^ 30) (h1 : ¬ x < 1) (h2 : x ≤ kLast κ) : ∃ n, x = nI n ∧ 1 ≤ n ∧ n ≤ la := by
  rw [Int32.lt_iff_toInt_lt, show (1 : Int32).toInt = 1 from rfl] at h1
  obtain ⟨n, hn, rfl⟩ := nI_of (x := x) (fun z => by rw [Int32.lt_iff_toInt_lt, Int32.toInt_zero] at z; omega)
  rw [nI_toInt hn] at h1
  rw [hl, nI_leI hn (by omega)] at h2
  exact ⟨n, rfl, by omega, h2⟩
theorem cx_pg_at {cI cP : ClassId} {a : cx_a} {κ : sh_K} {np : Nat} {σ : sh_S} {Lp : List (Nat × Nat × Nat)} {i q r : Nat} (h : (i, q, r) ∈ Lp) : (∃ k : Nat, (cx_w cI cP a κ np σ Lp)[k]? = some (q, .inr (3, [.ref r]))) ∧ ∃ k : Nat, (cx_w cI cP a κ np σ Lp)[k]? = some (r, .inl (cI, 1024, .inl (cx_row (sMem σ) i))) := by
  have h1 := cx_pl_in (cI := cI) (mem := sMem σ) h
  exact ⟨List.getElem?_of_mem (List.mem_cons_of_mem _ (List.mem_cons_of_mem _ (List.mem_cons_of_mem _ (List.mem_cons_of_mem _ (List.mem_cons_of_mem _ h1.1))))), List.getElem?_of_mem (List.mem_cons_of_mem _ (List.mem_cons_of_mem _ (List.mem_cons_of_mem _ (List.mem_cons_of_mem _ (List.mem_cons_of_mem _ h1.2)))))⟩
section CXRD
variable {p : Program} {l : Launch} {e : Env} {R : Room} {s : State} {m : MethodId} {args : Array Value} {below : List Frame} {meth : Method} {c : Code} {H : Heap} {locs : List Loc} {D : va_G} {cI cP : ClassId} {a : cx_a} {κ : sh_K} {np n0 : Nat} {A : Nat → Prop} {σ : sh_S} {ls : Array Slot} {c1 : Cond}
set_option maxHeartbeats 4000000 in
set_option maxRecDepth 100000 in
theorem cx_readTail (S : CallFix p m c b_C_read 3 s args (c1 :: bt) "StepHeap$Cells") (hr : meth.sig.returnType = some .int) (hlk : meth.locks = false) (hw : cx_Wd D cI cP a κ np s A n0 σ H locs) (hbud : 2 * (np - n0) ≤ R.cells ∧ 1025 * (np - n0) ≤ R.slots) {x : Int32} (h1 : ¬ x < 1) (h2 : x ≤ kLast κ) (hl : lv_has ls 3 [(0, .ref (aXC a)), (1, .int x)]) :
    W p l e R s m args below meth c H locs (2 * (nal σ - n0)) (1025 * (nal σ - n0)) (MQ below (sx_Q (some (.int (sMem σ x.toNatClampNeg))) (fun t => ∃ Lp', cx_St D cI cP a κ np σ Lp' A t.heap) A (2 * (nal σ - n0)) (1025 * (nal σ - n0))) args s R.cells R.slots A) (F0 m 27 ls [.int (x >>> ((10 : Int32) &&& 31)), .ref (aXP a)]) := by
  have hw0 := hw
  obtain ⟨⟨Lp, hok, hP, hD⟩, hS, hK, hnx, -⟩ := hw
  obtain ⟨e1, e2, e3, e4, ⟨la, e5, e6, e7⟩, e8⟩ := hok
  obtain ⟨n, rfl, g1, g2⟩ := cx_num e5 e6 h1 h2
  have hsh : nI n >>> ((10 : Int32) &&& 31) = nI (n / 1024) := pk_shrN (by omega) _ 10 (by decide)
  rw [hsh, nI_clamp (by omega)]
  refine va_aldq (D := D) S.1 S.2.1 hK hP 4 1 rfl rfl (vp_in_nI (by omega) (by omega)) d_C_read_27 ?_
  rw [nI_clamp (by omega)]
  cases hf : cx_pf Lp (n / 1024) with
  | none =>
    have hz := e4 n (by rw [← e1]; exact cx_pf_none hf)
    refine W.eq (g2 := F0 m 28 ls [.null]) rfl ?_
    refine lv_astore_nN (lv' := [(2, .null), (0, .ref (aXC a)), (1, .int (nI n))]) S.1 S.2.1 d_C_read_28 rfl hl (by decide) rfl (fun ls hl => ?_)
    refine lv_aload_nN S.1 S.2.1 d_C_read_29 rfl (lv_at hl 0 rfl) ?_
    refine lv_ifnonnullN S.1 S.2.1 d_C_read_30 ?_
    refine lv_iconst (v := 0) S.1 S.2.1 d_C_read_33 (by decide) ?_
    refine lv_goto (tgt := 47) S.1 S.2.1 d_C_read_34 (by decide) ?_
    exact cx_retI S hr hlk hw0 hbud (by rw [hz]) rfl d_C_read_47
  | some q =>
    obtain ⟨r, hm⟩ := cx_pf_some hf
    obtain ⟨⟨kq, hkq⟩, kr, hkr⟩ := cx_pg_at (cI := cI) (cP := cP) (a := a) (κ := κ) (np := np) (σ := σ) hm
    refine W.eq (g2 := F0 m 28 ls [.ref q]) rfl ?_
    refine lv_astore_n (lv' := [(2, .ref q), (0, .ref (aXC a)), (1, .int (nI n))]) S.1 S.2.1 d_C_read_28 rfl hl (by decide) rfl (fun ls hl => ?_)
    refine lv_aload_n S.1 S.2.1 d_C_read_29 rfl (lv_at hl 0 rfl) ?_
    refine lv_ifnonnull (tgt := 37) S.1 S.2.1 d_C_read_30 (by decide) ?_
    refine lv_aload_n S.1 S.2.1 d_C_read_37 rfl (lv_at hl 0 rfl) ?_
    refine va_getN (D := D) (ci := 3) (v := .ref r) (C := "StepHeap$Page") (T := TP) (N := 1) S.1 S.2.1 S.2.2.2.2 (fun w h => List.mem_cons_of_mem _ (inP w h)) S.2.2.2.1 hK hP kq hkq rfl 0 (by decide) (va_Nw.use rfl (hnx _ nxw_5)) (fun _ h9 => h9) rfl d_C_read_38 ?_
    refine lv_iload_n S.1 S.2.1 d_C_read_41 rfl (lv_at hl 2 rfl) ?_
    refine lv_sipush (v := 1023) S.1 S.2.1 d_C_read_42 (by decide) ?_
    refine lv_iand S.1 S.2.1 d_C_read_45 ?_
    rw [pk_andN (by omega) 10 (by decide)]
    refine va_iald (D := D) S.1 S.2.1 hK hP kr 0 hkr rfl (vp_in_nI (by omega) (by omega)) d_C_read_46 ?_
    rw [nI_clamp (by omega)]
    refine cx_retI S hr hlk hw0 hbud ?_ rfl d_C_read_47
    unfold cx_row
    rw [if_pos (by omega), show n / 1024 * 1024 + n % 2 ^ 10 = n by omega]
end CXRD
end
section
/-! ===== Cells.write, where the cell is in range ===== -/
theorem cx_nodup_inj1 {Lp : List (Nat × Nat × Nat)} (h : (Lp.map (fun t => t.1)).Nodup) {t t' : Nat × Nat × Nat} (h1 : t ∈ Lp) (h2 : t' ∈ Lp) (e : t.1 = t'.1) : t = t' := by
  induction Lp with
  | nil => cases h1
  | cons x l ih =>
    rw [List.map_cons, List.nodup_cons] at h
    rcases List.mem_cons.mp h1 with h1 | h1
    · rcases List.mem_cons.mp h2 with h2 | h2
      · rw [h1, h2]
      · exact absurd (List.mem_map.mpr ⟨t', h2, by rw [← e, h1]⟩) h.1
    · rcases List.mem_cons.mp h2 with h2 | h2
      · exact absurd (List.mem_map.mpr ⟨t, h1, by rw [e, h2]⟩) h.1
      · exact ih h.2 h1 h2
/-- a world whose last cell a callee has taken and given back with more -/
theorem cx_joinLast {A0 : Nat → Prop} {D : va_G} {cl : List vw_C} {ws w1 : va_W} {x : Nat × va_E} {H H1 : Heap} (hP : va_P D cl (ws ++ [x]) H) (hD : va_D A0 (ws ++ [x])) (hk : ∀ q : Nat, q < H.size → ¬ va_A [x] H.size q → H1[q]? = H[q]?) (hF : ∀ q, va_A [x] H.size q → A0 q) (hP1 : va_P D cl w1 H1) (hD1 : va_D (va_A [x] H.size) w1) : va_P D cl (ws ++ w1) H1 ∧ va_D A0 (ws ++ w1) := by
  have at' : ∀ (k : Nat) (q : Nat × va_E), ws[k]? = some q → (ws ++ [x])[k]? = some q := fun k q h => by
    rw [List.getElem?_append_left (List.getElem?_eq_some_iff.mp h).1]; exact h
  have last : (ws ++ [x])[ws.length]? = some x := by simp
  have apart : ∀ (k : Nat) (q : Nat × va_E), ws[k]? = some q → q.1 < H.size ∧ ¬ va_A [x] H.size q.1 := by
    intro k q hq
    have hl := (hP k q (at' k q hq)).lt
    refine ⟨hl, fun h => ?_⟩
    rcases h with ⟨k2, e, h⟩ | h
    · cases k2 with
      | zero =>
        have hx : x = (q.1, e) := Option.some.inj h
        have := hD.1 k ws.length q x (at' k q hq) last (by rw [hx])
        have h2 := (List.getElem?_eq_some_iff.mp hq).1
        omega
      | succ k2 => simp at h
    · omega
  refine ⟨va_P.app (fun k q hq => (hP k q (at' k q hq)).kept (hk q.1 (apart k q hq).1 (apart k q hq).2)) hP1, va_D.app ⟨fun i j p q hi hj => hD.1 i j p q (at' i p hi) (at' j q hj), fun k q hq => hD.2 k q (at' k q hq)⟩ (hD1.weaken (fun k q _ h => hF q.1 h)) (fun i j p q hp hq hpq => (apart i p hp).2 (by rw [hpq]; exact hD1.2 j q hq))⟩
section CXWR
variable {p : Program} {l : Launch} {e : Env} {R : Room} {s : State} {m : MethodId} {args : Array Value} {below : List Frame} {meth : Method} {c : Code} {H : Heap} {locs : List Loc} {D : va_G} {cI cP : ClassId} {a : cx_a} {κ : sh_K} {np n0 : Nat} {A : Nat → Prop} {σ : sh_S} {ls : Array Slot} {c1 : Cond}
set_option maxHeartbeats 4000000 in
set_option maxRecDepth 100000 in
theorem cx_writeEnd (S : CallFix p m c b_C_write 4 s args (c1 :: bt) "StepHeap$Cells") (hr : meth.sig.returnType = none) (hlk : meth.locks = false) {Lp : List (Nat × Nat × Nat)} (hok : cx_ok κ np σ Lp) (hP : va_P D vwC (cx_w cI cP a κ np σ Lp) H) (hD : va_D A (cx_w cI cP a κ np σ Lp)) (hS : va_S A s.heap H locs) (hK : va_K D vwC (cx_tys cI cP) s) (hnx : nx s) (h0 : n0 ≤ nal σ) (hA : ∀ q, s.heap.size ≤ q → A q) (hbud : 2 * (np - n0) ≤ R.cells ∧ 1025 * (np - n0) ≤ R.slots)
    {n q r : Nat} {v : Int32} (hn : n < 2 ^ 30) (hm : (n / 1024, q, r) ∈ Lp) (hl : lv_has ls 4 [(3, .ref q), (0, .ref (aXC a)), (1, .int (nI n)), (2, .int v)]) {σ' : sh_S} (hs : σ' = uC σ (σ.1.1, σ.1.2.1, upd σ.1.2.2.1 n v, σ.1.2.2.2)) :
    W p l e R s m args below meth c H locs (2 * (nal σ - n0)) (1025 * (nal σ - n0)) (MQ below (sx_Q none (fun t => ∃ Lp', cx_St D cI cP a κ np σ' Lp' A t.heap) A (2 * (nal σ' - n0)) (1025 * (nal σ' - n0))) args s R.cells R.slots A) (F0 m 50 ls []) := by
  obtain ⟨⟨kq, hkq⟩, kr, hkr⟩ := cx_pg_at (cI := cI) (cP := cP) (a := a) (κ := κ) (np := np) (σ := σ) hm
  obtain ⟨e1, e2, e3, e4, e5, e8⟩ := hok
  refine lv_aload_n S.1 S.2.1 d_C_write_50 rfl (lv_at hl 0 rfl) ?_
  refine va_getN (D := D) (ci := 3) (v := .ref r) (C := "StepHeap$Page") (T := TP) (N := 1) S.1 S.2.1 S.2.2.2.2 (fun w h => List.mem_cons_of_mem _ (inP w h)) S.2.2.2.1 hK hP kq hkq rfl 0 (by decide) (va_Nw.use rfl (hnx _ nxw_5)) (fun _ h9 => h9) rfl d_C_write_51 ?_
  refine lv_iload_n S.1 S.2.1 d_C_write_54 rfl (lv_at hl 2 rfl) ?_
  refine lv_sipush (v := 1023) S.1 S.2.1 d_C_write_55 (by decide) ?_
  refine lv_iand S.1 S.2.1 d_C_write_58 ?_
  rw [pk_andN (by omega) 10 (by decide)]
  refine lv_iload_n S.1 S.2.1 d_C_write_59 rfl (lv_at hl 3 rfl) ?_
  refine va_iast (D := D) S.1 S.2.1 hK hP hD hS kr 0 hkr rfl (vp_in_nI (by omega) (by omega)) d_C_write_60 (fun H locs hP hD1 hS => ?_)
  rw [nI_clamp (by omega)] at hP hD1
  have apart : ∀ (j : Nat) (x : Nat × va_E), (cx_w cI cP a κ np σ Lp)[j]? = some x → x.2 ≠ .inl (cI, 1024, .inl (cx_row (sMem σ) (n / 1024))) → x.1 ≠ r := by
    intro j x hj hne z
    have := hD.1 j kr x _ hj hkr z
    subst this
    rw [hj] at hkr
    exact hne (congrArg Prod.snd (Option.some.inj hkr))
  have heq : (cx_w cI cP a κ np σ Lp).set kr (r, .inl (cI, 1024, .inl (upd (cx_row (sMem σ) (n / 1024)) (n % 2 ^ 10) v))) = cx_w cI cP a κ np σ' Lp := by
    rw [cx_setmap hD hkr, hs]
    have a0 := apart 0 _ rfl (by simp)
    have a1 := apart 1 _ rfl (by simp)
    have a2 := apart 2 _ rfl (by simp)
    have a3 := apart 3 _ rfl (by
      intro z
      have := congrArg (fun e : va_E => match e with | .inl w => w.2.1 | .inr _ => 0) z
      simp at this)
    have a4 := apart 4 _ rfl (by
      intro z
      have := congrArg (fun e : va_E => match e with | .inl (_, _, .inl _) => true | _ => false) z
      simp at this)
    have hpl := cx_pl_map (cI := cI) (mem := sMem σ) (v := v) hm e8 (fun t ht => by
      obtain ⟨k1, hk1⟩ := (cx_pg_at (cI := cI) (cP := cP) (a := a) (κ := κ) (np := np) (σ := σ) (i := t.1) (q := t.2.1) (r := t.2.2) ht).1
      exact apart k1 _ hk1 (by simp)) (fun t ht hi => by
      have := cx_nodup_inj1 (by rw [e1]; exact e2) ht hm hi
      rw [this])
    simp only [List.map_cons]
    rw [if_neg a0, if_neg a1, if_neg a2, if_neg a3, if_neg a4]
    rw [hpl]
  rw [heq] at hP hD1
  have hin : n / 1024 ∈ sPgs σ := by rw [← e1]; exact List.mem_map.mpr ⟨_, hm, rfl⟩
  have hok' : cx_ok κ np σ' Lp := by
    rw [hs]
    refine ⟨e1, e2, e3, fun j hj => ?_, e5, e8⟩
    show upd (sMem σ) n v j = 0
    rw [pk_un (fun z => hj (by rw [z]; exact hin))]
    exact e4 j hj
  have hnal : nal σ' = nal σ := by rw [hs]
  refine W.cs (cells' := 2 * (nal σ' - n0)) (slots' := 1025 * (nal σ' - n0)) (by rw [hnal]) (by rw [hnal]) ?_
  exact cx_retV S hr hlk ⟨⟨Lp, hok', hP, hD1⟩, hS, hK, hnx, by rw [hnal]; exact h0, hA⟩ hbud rfl rfl d_C_write_61
end CXWR
end
section
/-! ===== Cells.write: the page is looked up, made where it is wanting ===== -/
theorem cx_pl_push {cI : ClassId} {Lp : List (Nat × Nat × Nat)} {mem : Nat → Int32} {i q r : Nat} : cx_pl cI (Lp ++ [(i, q, r)]) mem = cx_pl cI Lp mem ++ [(q, .inr (3, [.ref r])), (r, .inl (cI, 1024, .inl (cx_row mem i)))] := by
  unfold cx_pl
  rw [List.flatMap_append]
  rfl
theorem cx_mapid1 : ∀ l : List Nat, (l.map (fun i => ((i, 0, i) : Nat × Nat × Nat))).map (fun t => t.1) = l
  | [] => rfl
  | x :: l => by rw [List.map_cons, List.map_cons, cx_mapid1 l]
theorem cx_mapid3 : ∀ l : List Nat, (l.map (fun i => ((i, 0, i) : Nat × Nat × Nat))).map (fun t => t.2.2) = l
  | [] => rfl
  | x :: l => by rw [List.map_cons, List.map_cons, cx_mapid3 l]
section CXWT
variable {p : Program} {l : Launch} {e : Env} {R : Room} {s : State} {m : MethodId} {args : Array Value} {below : List Frame} {meth : Method} {c : Code} {H : Heap} {locs : List Loc} {D : va_G} {cI cP : ClassId} {a : cx_a} {κ : sh_K} {np n0 : Nat} {A : Nat → Prop} {σ : sh_S} {ls : Array Slot} {c1 : Cond}
set_option maxHeartbeats 4000000 in
set_option maxRecDepth 100000 in
theorem cx_writeTail (S : CallFix p m c b_C_write 4 s args (c1 :: bt) "StepHeap$Cells") (hr : meth.sig.returnType = none) (hlk : meth.locks = false) (hfr : 2 ≤ R.frames) (hlc : 32 ≤ R.locals) (hw : cx_Wd D cI cP a κ np s A n0 σ H locs) (hbud : 2 * (np - n0) ≤ R.cells ∧ 1025 * (np - n0) ≤ R.slots)
    {x v : Int32} (h1 : ¬ x < 1) (h2 : x ≤ kLast κ) (hl : lv_has ls 4 [(0, .ref (aXC a)), (1, .int x), (2, .int v)]) {σ' : sh_S} (hs : σ' = uC σ (σ.1.1, σ.1.2.1, upd σ.1.2.2.1 x.toNatClampNeg v, sh_pg σ.1.2.2.2 (x.toNatClampNeg / 1024))) :
    W p l e R s m args below meth c H locs (2 * (nal σ - n0)) (1025 * (nal σ - n0)) (MQ below (sx_Q none (fun t => ∃ Lp', cx_St D cI cP a κ np σ' Lp' A t.heap) A (2 * (nal σ' - n0)) (1025 * (nal σ' - n0))) args s R.cells R.slots A) (F0 m 26 ls [.int (x >>> ((10 : Int32) &&& 31)), .ref (aXP a)]) := by
  have hle := hw.le
  obtain ⟨⟨Lp, hok, hP, hD⟩, hS, hK, hnx, h0, hA⟩ := hw
  have up := fun {w : Cond} (h : w ∈ bt) => S.2.2.2.2 w (List.mem_cons_of_mem _ h)
  obtain ⟨e1, e2, e3, e4, ⟨la, e5, e6, e7⟩, e8⟩ := id hok
  obtain ⟨n, rfl, g1, g2⟩ := cx_num e5 e6 h1 h2
  have hsh : nI n >>> ((10 : Int32) &&& 31) = nI (n / 1024) := pk_shrN (by omega) _ 10 (by decide)
  rw [nI_clamp (by omega)] at hs
  rw [hsh]
  refine va_aldq (D := D) S.1 S.2.1 hK hP 4 1 rfl rfl (vp_in_nI (by omega) (by omega)) d_C_write_26 ?_
  rw [nI_clamp (by omega)]
  cases hf : cx_pf Lp (n / 1024) with
  | some q =>
    obtain ⟨r, hm⟩ := cx_pf_some hf
    refine W.eq (g2 := F0 m 27 ls [.ref q]) rfl ?_
    refine lv_astore_n (lv' := [(3, .ref q), (0, .ref (aXC a)), (1, .int (nI n)), (2, .int v)]) S.1 S.2.1 d_C_write_27 rfl hl (by decide) rfl (fun ls hl => ?_)
    refine lv_aload_n S.1 S.2.1 d_C_write_28 rfl (lv_at hl 0 rfl) ?_
    refine lv_ifnonnull (tgt := 50) S.1 S.2.1 d_C_write_29 (by decide) ?_
    refine cx_writeEnd S hr hlk hok hP hD hS hK hnx h0 hA hbud (by omega) hm hl ?_
    rw [hs]
    have hin : n / 1024 ∈ sPgs σ := by rw [← e1]; exact List.mem_map.mpr ⟨_, hm, rfl⟩
    unfold sh_pg
    rw [if_pos hin]
  | none =>
    have hni : n / 1024 ∉ sPgs σ := by rw [← e1]; exact cx_pf_none hf
    have hnd : (sPgs σ ++ [n / 1024]).Nodup := by
      rw [List.nodup_append]
      exact ⟨e2, by simp, fun y hy z hz w => by rw [List.mem_singleton] at hz; subst hz; subst w; exact hni hy⟩
    have hbd : ∀ i, i ∈ sPgs σ ++ [n / 1024] → i < np := fun i hi => by
      rcases List.mem_append.mp hi with h | h
      · exact e3 i h
      · rw [List.mem_singleton] at h; omega
    have hlen : nal σ + 1 ≤ np := by
      have := cx_len (κ := κ) (np := np) (σ := ((0, 0, (fun _ => 0), sPgs σ ++ [n / 1024]), σ.2)) (Lp := (sPgs σ ++ [n / 1024]).map (fun i => (i, 0, i))) ⟨cx_mapid1 _, hnd, hbd, fun _ _ => rfl, ⟨la, e5, e6, e7⟩, by rw [cx_mapid3]; exact hnd⟩
      have e9 : nal ((0, 0, (fun _ => 0), sPgs σ ++ [n / 1024]), σ.2) = nal σ + 1 := by
        show (sPgs σ ++ [n / 1024]).length = _
        rw [List.length_append]; rfl
      omega
    refine W.eq (g2 := F0 m 27 ls [.null]) rfl ?_
    refine lv_astore_nN (lv' := [(3, .null), (0, .ref (aXC a)), (1, .int (nI n)), (2, .int v)]) S.1 S.2.1 d_C_write_27 rfl hl (by decide) rfl (fun ls hl => ?_)
    refine lv_aload_nN S.1 S.2.1 d_C_write_28 rfl (lv_at hl 0 rfl) ?_
    refine lv_ifnonnullN S.1 S.2.1 d_C_write_29 ?_
    refine va_new (D := D) (ci := 3) (fs := [.null]) (C := "StepHeap$Page") (T := TP) (N := 1) S.1 S.2.1 S.2.2.2.2 (fun w h => List.mem_cons_of_mem _ (inP w h)) tyP tyP_ok S.2.2.2.1 (up tb_35) (up tb_180) (up tb_7) hK hP hD hS hA rfl (fun j hj => by rcases (show j = 0 by omega) with rfl; rfl) (by omega) (by omega) d_C_write_32 (fun q H1 hP1 hD1 hS1 => ?_)
    refine lv_dup S.1 S.2.1 d_C_write_35 rfl ?_
    have hq1 : (cx_w cI cP a κ np σ Lp ++ [(q, .inr (3, [.null]))])[(cx_w cI cP a κ np σ Lp).length]? = some (q, .inr (3, [.null])) := by simp
    have hPc : va_P D vwC [(q, .inr (3, [.null]))] H1 := by
      intro k x hk
      cases k with
      | zero => cases hk; exact hP1 _ _ hq1
      | succ k => simp at hk
    have hDc : va_D (fun _ => True) [(q, (.inr (3, [.null]) : va_E))] := ⟨fun i j x y hi hj _ => by
      have := (List.getElem?_eq_some_iff.mp hi).1
      have := (List.getElem?_eq_some_iff.mp hj).1
      simp at *
      omega, fun _ _ _ => trivial⟩
    have hFc : ∀ z, va_A [(q, (.inr (3, [.null]) : va_E))] H1.size z → A z := by
      rintro z (⟨k, e, h⟩ | h)
      · cases k with
        | zero => cases h; exact hD1.2 _ _ hq1
        | succ k => simp at h
      · exact hA z (Nat.le_trans hS1.1 h)
    refine va_callv (va_runIN (As := []) (rest := [.ref q]) S (c_P_init l D cI q H1.size) ⟨va_cnB (ws' := bt) 0 S.2.2.2.2 (bt_gi tb_183) rfl rfl rfl (hnx _ nxw_6) (up tb_7) ⟨hd_P_init.2.1, hd_P_init.2.2.1, hd_P_init.2.2.2⟩ ⟨by omega, by omega⟩, rfl, up tb_182⟩
      ⟨fun a U g mk z => by obtain ⟨q0, q1, qP, qK, qD⟩ := z; exact ⟨q0, q1, qP, va_K.moved (u := U) (U := U.calling g mk a) (Vm.Alike.refl U.vm) qK, qD⟩, fun U hU hW => ⟨rfl, by rw [hU], by rw [hU]; exact hPc, va_K.moved hW.alike (hK.sub [0] rfl), hDc⟩⟩ rfl rfl hl.1 rfl (lv_room (Nat.le_of_ble_eq_true rfl)) d_C_write_36 ⟨by omega, by omega⟩) hS1 (fun z _ h => hFc z h) hFc (fun u t H2 locs2 ht hvm hw hB hz hk1 hS2 => ?_)
    obtain ⟨r, hP2, hD2⟩ := hB
    rw [ht] at hP2
    obtain ⟨hP3, hD3⟩ := cx_joinLast hP1 hD1 hk1 hFc hP2 hD2
    refine W.eq (g2 := F0 m 39 ls [.ref q]) rfl ?_
    refine lv_astore_n (lv' := [(3, .ref q), (0, .ref (aXC a)), (1, .int (nI n)), (2, .int v)]) S.1 S.2.1 d_C_write_39 rfl hl (by decide) rfl (fun ls hl => ?_)
    refine lv_aload_n S.1 S.2.1 d_C_write_40 rfl (lv_at hl 1 rfl) ?_
    refine va_get (D := D) (ci := 1) (v := .ref (aXP a)) (C := "StepHeap$Cells") (T := TC) (N := 5) S.1 S.2.1 S.2.2.2.2 (fun w h => List.mem_cons_of_mem _ (inC w h)) S.2.2.2.1 hK hP3 1 rfl rfl 0 (by decide) (up tb_37) (fun _ h9 => h9) rfl d_C_write_41 ?_
    refine lv_iload_n S.1 S.2.1 d_C_write_44 rfl (lv_at hl 2 rfl) ?_
    refine lv_bipush (v := 10) S.1 S.2.1 d_C_write_45 (by decide) ?_
    refine lv_ishr S.1 S.2.1 d_C_write_47 ?_
    refine lv_aload_n S.1 S.2.1 d_C_write_48 rfl (lv_at hl 0 rfl) ?_
    rw [hsh]
    have hq3 : (cx_w cI cP a κ np σ Lp ++ [(q, .inr (3, [.ref r])), (r, .inl (cI, 1024, .inl (fun _ => 0)))])[(cx_w cI cP a κ np σ Lp).length]? = some (q, .inr (3, [.ref r])) := by simp
    refine va_astq (D := D) (r := ("StepHeap$Page", TP, 1)) S.1 S.2.1 hK hP3 hD3 hS2 4 1 _ 3 rfl rfl hq3 rfl (vp_in_nI (by omega) (by omega)) d_C_write_49 (fun H3 locs3 hP4 hD4 hS4 => ?_)
    rw [nI_clamp (by omega)] at hP4 hD4
    have hrow : cx_row (sMem σ) (n / 1024) = fun _ => 0 := by
      funext j
      unfold cx_row
      by_cases hj : j < 1024
      · rw [if_pos hj]; exact e4 _ (by rw [show (n / 1024 * 1024 + j) / 1024 = n / 1024 by omega]; exact hni)
      · rw [if_neg hj]
    have heq : (cx_w cI cP a κ np σ Lp ++ ([(q, .inr (3, [.ref r])), (r, .inl (cI, 1024, .inl (fun _ => 0)))] : va_W)).set 4 (aXP a, .inl (cP, np, .inr (.inr (.inr (.inr (va_up (cx_pf Lp) (n / 1024) (some q))))))) = cx_w cI cP a κ np (uC σ (σ.1.1, σ.1.2.1, σ.1.2.2.1, σ.1.2.2.2 ++ [n / 1024])) (Lp ++ [(n / 1024, q, r)]) := by
      rw [cx_pf_push (r := r) (cx_pf_none hf), ← hrow]
      show _ = _ :: _ :: _ :: _ :: _ :: cx_pl cI (Lp ++ [(n / 1024, q, r)]) (sMem σ)
      rw [cx_pl_push]
      rfl
    rw [heq] at hP4 hD4
    have hfresh : r ∉ Lp.map (fun t => t.2.2) := by
      intro z
      obtain ⟨t, ht1, ht2⟩ := List.mem_map.mp z
      obtain ⟨kr, hkr⟩ := (cx_pg_at (cI := cI) (cP := cP) (a := a) (κ := κ) (np := np) (σ := σ) (i := t.1) (q := t.2.1) (r := t.2.2) ht1).2
      have hlt := (List.getElem?_eq_some_iff.mp hkr).1
      have h5 : (cx_w cI cP a κ np σ Lp ++ [(q, .inr (3, [.ref r])), (r, .inl (cI, 1024, .inl (fun _ => 0)))])[kr]? = some (t.2.2, .inl (cI, 1024, .inl (cx_row (sMem σ) t.1))) := by rw [List.getElem?_append_left hlt]; exact hkr
      have h6 : (cx_w cI cP a κ np σ Lp ++ [(q, .inr (3, [.ref r])), (r, .inl (cI, 1024, .inl (fun _ => 0)))])[(cx_w cI cP a κ np σ Lp).length + 1]? = some (r, .inl (cI, 1024, .inl (fun _ => 0))) := by rw [List.getElem?_append_right (by omega)]; simp
      have := hD3.1 _ _ _ _ h5 h6 ht2
      omega
    have hok1 : cx_ok κ np (uC σ (σ.1.1, σ.1.2.1, σ.1.2.2.1, σ.1.2.2.2 ++ [n / 1024])) (Lp ++ [(n / 1024, q, r)]) := by
      refine ⟨by rw [List.map_append, e1]; rfl, hnd, hbd, fun j hj => e4 j (fun z => hj (List.mem_append_left _ z)), ⟨la, e5, e6, e7⟩, ?_⟩
      rw [List.map_append, List.nodup_append]
      exact ⟨e8, by simp, fun y hy z hz w => by
        have hz : z = r := by simpa using hz
        subst hz; subst w; exact hfresh hy⟩
    have hnal : nal (uC σ (σ.1.1, σ.1.2.1, σ.1.2.2.1, σ.1.2.2.2 ++ [n / 1024])) = nal σ + 1 := by
      show (sPgs σ ++ [n / 1024]).length = _
      rw [List.length_append]; rfl
    refine W.cs (cells' := 2 * (nal (uC σ (σ.1.1, σ.1.2.1, σ.1.2.2.1, σ.1.2.2.2 ++ [n / 1024])) - n0)) (slots' := 1025 * (nal (uC σ (σ.1.1, σ.1.2.1, σ.1.2.2.1, σ.1.2.2.2 ++ [n / 1024])) - n0)) (by rw [hnal]; omega) (by rw [hnal]; omega) ?_
    refine cx_writeEnd S hr hlk hok1 hP4 hD4 hS4 hK hnx (by rw [hnal]; omega) hA hbud (by omega) (q := q) (r := r) (by simp) hl ?_
    rw [hs]
    unfold sh_pg
    rw [if_neg hni]
end CXWT
end
section
/-! ===== pages are only ever added ===== -/
abbrev nalC (c : sh_C) : Nat := c.2.2.2.length
theorem mo_write {κ : sh_K} {c : sh_C} {x v : Int32} : nalC c ≤ nalC (sh_write κ c x v) := by
  unfold sh_write sh_put
  split
  · exact Nat.le_refl _
  · split
    · show c.2.2.2.length ≤ (sh_pg c.2.2.2 _).length
      unfold sh_pg
      split
      · exact Nat.le_refl _
      · rw [List.length_append]; exact Nat.le_add_right _ _
    · exact Nat.le_refl _
theorem mo_copyN {κ : sh_K} {f t : Int32} : ∀ (n : Nat) (i : Int32) (c : sh_C), nalC c ≤ nalC (sh_copyN κ c f t i n)
  | 0, _, _ => Nat.le_refl _
  | n + 1, i, c => Nat.le_trans (mo_write (κ := κ) (c := sh_touch κ c)) (mo_copyN n (i + 1) _)
theorem mo_zeroN {κ : sh_K} {lo : Int32} : ∀ (n : Nat) (i : Int32) (c : sh_C), nalC c ≤ nalC (sh_zeroN κ c lo i n)
  | 0, _, _ => Nat.le_refl _
  | n + 1, i, c => Nat.le_trans mo_write (mo_zeroN n (i + 1) _)
theorem mo_piu {κ : sh_K} {σ : sh_S} {x : Int32} : nal σ ≤ nal (sh_piu κ σ x).2 := by
  unfold sh_piu
  split
  · exact Nat.le_refl _
  · show nal σ ≤ nal (if sh_val κ σ.1 x < 0 then _ else _ : Int32 × sh_S).2
    split
    · exact Nat.le_refl _
    · exact Nat.le_trans (Nat.le_trans (mo_write (κ := κ) (c := sh_touch κ σ.1)) (mo_copyN _ _ _)) mo_write
theorem mo_follow {κ : sh_K} {σ : sh_S} {x : Int32} : nal σ ≤ nal (sh_follow κ σ x).2 := mo_piu (σ := uC σ (sh_touch κ σ.1))
theorem mo_link {κ : sh_K} {σ : sh_S} {x v : Int32} : nal σ ≤ nal (sh_link κ σ x v) := Nat.le_trans mo_follow mo_write
theorem mo_regsN {κ : sh_K} : ∀ (n i : Nat) (σ : sh_S), nal σ ≤ nal (sh_regsN κ σ i n)
  | 0, _, _ => Nat.le_refl _
  | n + 1, i, σ => by
    have h1 : nal σ ≤ nal (sh_piu κ σ (sReg σ i)).2 := mo_piu
    have h2 : nal (sh_piu κ σ (sReg σ i)).2 ≤ nal (sh_regsN κ (uReg (sh_piu κ σ (sReg σ i)).2 (upd (sReg (sh_piu κ σ (sReg σ i)).2) i (sh_piu κ σ (sReg σ i)).1)) (i + 1) n) := mo_regsN n (i + 1) (uReg (sh_piu κ σ (sReg σ i)).2 (upd (sReg (sh_piu κ σ (sReg σ i)).2) i (sh_piu κ σ (sReg σ i)).1))
    rw [sh_regsN]
    exact Nat.le_trans h1 h2
theorem mo_ws1 {κ : sh_K} {σ : sh_S} {w : Int32} : nal σ ≤ nal (sh_ws1 κ σ w) := by
  unfold sh_ws1
  split
  · exact Nat.le_refl _
  · split
    · exact mo_piu
    · exact Nat.le_trans mo_piu mo_write
theorem mo_step {κ : sh_K} {σ : sh_S} : nal σ ≤ nal (sh_workStep κ σ) := by
  unfold sh_workStep sh_ws2
  split
  · exact mo_ws1 (σ := uC σ (sh_touch κ σ.1))
  · exact mo_ws1 (σ := uC σ (sh_touch κ σ.1))
theorem mo_workN {κ : sh_K} {g : Int32} : ∀ (n : Nat) (σ : sh_S), nal σ ≤ nal (sh_workN κ g σ n)
  | 0, _ => Nat.le_refl _
  | n + 1, σ => by
    show nal σ ≤ nal (if sScan σ < sFree σ then (if sScan σ < g then _ else _) else _)
    split
    · split
      · exact Nat.le_trans mo_step (mo_workN n _)
      · exact Nat.le_refl _
    · exact Nat.le_refl _
theorem mo_work {κ : sh_K} {σ : sh_S} : nal σ ≤ nal (sh_work κ σ) := mo_workN _ _
theorem mo_place {κ : sh_K} {σ : sh_S} {h : Int32} : nal σ ≤ nal (sh_place κ σ h).2 := by
  have key : ∀ (τ : sh_S) (x i : Int32) (n : Nat), τ.1 = sh_zeroN κ (sh_write κ σ.1 x h) x i n → nal σ ≤ nal (sh_work κ τ) := fun τ x i n e => by
    have h1 : nalC σ.1 ≤ nalC (sh_write κ σ.1 x h) := mo_write
    have h2 : nalC (sh_write κ σ.1 x h) ≤ nalC (sh_zeroN κ (sh_write κ σ.1 x h) x i n) := mo_zeroN n i _
    have h3 : nalC τ.1 ≤ nal (sh_work κ τ) := mo_work (κ := κ) (σ := τ)
    rw [e] at h3
    exact Nat.le_trans (Nat.le_trans h1 h2) h3
  unfold sh_place
  exact key _ _ _ _ rfl
theorem mo_setReg {σ : sh_S} {r v : Int32} : nal σ ≤ nal (sh_setReg σ r v) := by
  unfold sh_setReg
  split <;> exact Nat.le_refl _
theorem mo_head {κ : sh_K} {σ : sh_S} {r : Int32} : nal σ ≤ nal (sh_head κ σ r).2 := by
  unfold sh_head
  dsimp only
  split <;> exact Nat.le_refl _
theorem mo_gapN {κ : sh_K} {i : Int32} : ∀ (n : Nat) (σ : sh_S) (nd lv : Int32), nal σ ≤ nal (sh_gapN κ σ i nd lv n).2
  | 0, _, _, _ => Nat.le_refl _
  | n + 1, σ, nd, lv => by
    show nal σ ≤ nal (if lv ≤ 0 then _ else if (sh_follow κ σ (nd + 1 + sh_slot i lv)).1 = 0 then _ else _ : Int32 × sh_S).2
    split
    · exact Nat.le_refl _
    · split
      · exact mo_follow
      · exact Nat.le_trans mo_follow (mo_gapN n _ _ _)
theorem mo_gap {κ : sh_K} {σ : sh_S} {o h i : Int32} : nal σ ≤ nal (sh_gap κ σ o h i).2 := mo_gapN _ _ _ _
theorem mo_wayN {κ : sh_K} {i lv : Int32} : ∀ (n : Nat) (σ : sh_S) (nd ab : Int32), nal σ ≤ nal (sh_wayN κ σ i lv nd ab n).2
  | 0, _, _, _ => Nat.le_refl _
  | n + 1, σ, nd, ab => by
    show nal σ ≤ nal (if ab ≤ lv then _ else _ : Int32 × sh_S).2
    split
    · exact Nat.le_refl _
    · exact Nat.le_trans mo_follow (mo_wayN n _ _ _)
theorem mo_way {κ : sh_K} {σ : sh_S} {o h i lv : Int32} : nal σ ≤ nal (sh_way κ σ o h i lv).2 := mo_wayN _ _ _ _
end
section
/-! ===== pages are only ever added: the larger functions ===== -/
set_option maxHeartbeats 20000 in
theorem mo_begin {κ : sh_K} {σ : sh_S} : nal σ ≤ nal (sh_begin κ σ) := by
  unfold sh_begin
  have h := mo_regsN (κ := κ) 8 0 (uBeg (uMade (sh_useHalf κ σ (if sBase σ = 1 then 1 + kHalf κ else 1)) 0) (sBeg (sh_useHalf κ σ (if sBase σ = 1 then 1 + kHalf κ else 1)) + 1))
  generalize 8 = n at h ⊢
  exact h
set_option maxHeartbeats 20000 in
theorem mo_room {κ : sh_K} {σ : sh_S} {n : Int32} : nal σ ≤ nal (sh_room κ σ n).2 := by
  have h1 : nal σ ≤ nal (sh_begin κ σ) := mo_begin
  unfold sh_room
  generalize sh_begin κ σ = τ at h1 ⊢
  split
  · exact Nat.le_refl _
  · split
    · split
      · exact Nat.le_refl _
      · exact h1
    · exact Nat.le_refl _
set_option maxHeartbeats 20000 in
theorem mo_open {κ : sh_K} {σ : sh_S} {o h i : Int32} : nal σ ≤ nal (sh_open κ σ o h i).2 := by
  unfold sh_open
  have h1 : nal σ ≤ nal (sh_gap κ σ o h i).2 := mo_gap
  generalize sh_gap κ σ o h i = g at h1 ⊢
  have h2 : nal g.2 ≤ nal (sh_room κ g.2 16).2 := mo_room
  dsimp only
  generalize sh_room κ g.2 16 = rm at h2 ⊢
  have h3 : nal rm.2 ≤ nal (sh_place κ rm.2 (hd_node (if g.1 ≤ 1 then hd_refIt h else 1))).2 := mo_place
  generalize sh_place κ rm.2 (hd_node (if g.1 ≤ 1 then hd_refIt h else 1)) = ch at h3 ⊢
  have h4 : nal ch.2 ≤ nal (sh_way κ ch.2 o h i g.1).2 := mo_way
  generalize sh_way κ ch.2 o h i g.1 = w at h4 ⊢
  have h5 : nal w.2 ≤ nal (sh_link κ w.2 w.1 ch.1) := mo_link
  generalize sh_link κ w.2 w.1 ch.1 = f at h5 ⊢
  split
  · exact h1
  · split
    · exact Nat.le_trans h1 h2
    · exact Nat.le_trans (Nat.le_trans (Nat.le_trans (Nat.le_trans h1 h2) h3) h4) h5
set_option maxHeartbeats 20000 in
theorem mo_fill {κ : sh_K} {σ : sh_S} {r h : Int32} : nal σ ≤ nal (sh_fill κ σ r h).2 := by
  unfold sh_fill
  dsimp only
  have h1 : nal (uC σ (sh_start σ.1)) ≤ nal (sh_room κ (uC σ (sh_start σ.1)) (hd_cells h)).2 := mo_room
  have h0 : nal (uC σ (sh_start σ.1)) = nal σ := rfl
  rw [h0] at h1
  generalize sh_room κ (uC σ (sh_start σ.1)) (hd_cells h) = rm at h1 ⊢
  have h2 : nal rm.2 ≤ nal (sh_place κ rm.2 h).2 := mo_place
  generalize sh_place κ rm.2 h = p at h2 ⊢
  have h3 : nal p.2 ≤ nal (sh_setReg p.2 r p.1) := mo_setReg
  generalize sh_setReg p.2 r p.1 = f at h3 ⊢
  split
  · exact h1
  · exact Nat.le_trans (Nat.le_trans h1 h2) h3
end
section
/-! ===== Cells.read, Cells.write ===== -/
theorem hC_clamp (h : Int32) : (nI (hC h)).toNatClampNeg = hC h := by
  have h1 := (hT_lt h).1
  have h2 := (hP_lt h).1
  exact nI_clamp (by unfold hC; omega)
theorem hC_big (h : Int32) : 1 ≤ hC h ∧ hC h < 2 ^ 30 := by
  have h1 := (hT_lt h).1
  have h2 := (hP_lt h).1
  unfold hC; omega
set_option maxHeartbeats 4000000 in
set_option maxRecDepth 100000 in
theorem c_C_read (l : Launch) (D : va_G) (cI cP : ClassId) (a : cx_a) (κ : sh_K) (np : Nat) (σ : sh_S) (x : Int32) : cx_Met l D cI cP a κ np y_C_read b_C_read 3 (some .int) 1 20 [.ref (aXC a), .int x] σ (some (.int (sh_val κ (σ).1 x))) (uC σ (sh_touch κ (σ).1)) := by
  refine cx_start (by decide) (Nat.le_of_ble_eq_true rfl) (Nat.le_refl _) ?_
  intro p e R s m args below meth c A ls S hr hlk hfr hlc hw hbud hl
  have hl : lv_has ls 3 [(0, .ref (aXC a)), (1, .int x)] := hl
  refine lv_aload_n S.1 S.2.1 d_C_read_0 rfl (lv_at hl 0 rfl) ?_
  refine cx_call S hw hbud (As := []) (rest := []) (c_C_touch l D cI cP a κ np σ ) (q0 := 1) (fun _ => rfl) rfl tb_174 tb_171 tb_173 tp_5 tb_4 hd_C_touch rfl ⟨by omega, by omega⟩ hl.1 rfl (Nat.le_of_ble_eq_true rfl) d_C_read_1 (fun H locs hw => ?_)
  refine W.eq (g2 := F0 m 4 ls []) rfl ?_
  refine lv_iload_n S.1 S.2.1 d_C_read_4 rfl (lv_at hl 1 rfl) ?_
  refine lv_iconst (v := 1) S.1 S.2.1 d_C_read_5 (by decide) ?_
  refine lv_icmp_lt (tgt := 17) S.1 S.2.1 d_C_read_6 (by decide) (fun c_1 => ?_) (fun c_1 => ?_)
  · refine lv_iconst (v := 0) S.1 S.2.1 d_C_read_17 (by decide) ?_
    exact cx_retI S hr hlk hw hbud (by first | rfl | (unfold sh_val; rfl) | (unfold sh_val; simp only [if_pos c_1]; done) | (unfold sh_val; simp only [if_pos c_1]; rfl) | (unfold sh_val; dsimp only; simp only [if_pos c_1]; done) | (unfold sh_val; simp only [if_pos c_1]; done)) (by first | rfl | (unfold sh_val; rfl) | (unfold sh_val; simp only [if_pos c_1]; done) | (unfold sh_val; simp only [if_pos c_1]; rfl) | (unfold sh_val; dsimp only; simp only [if_pos c_1]; done) | (unfold sh_val; simp only [if_pos c_1]; done)) d_C_read_18
  · refine lv_iload_n S.1 S.2.1 d_C_read_9 rfl (lv_at hl 1 rfl) ?_
    refine lv_aload_n S.1 S.2.1 d_C_read_10 rfl (lv_at hl 0 rfl) ?_
    refine cx_get S hw (q0 := 1) (ci := 1) (k := 1) (v := .int (kLast κ)) (fun _ => rfl) rfl (by decide) inC tb_38 rfl rfl d_C_read_11 ?_
    refine lv_icmp_le (tgt := 19) S.1 S.2.1 d_C_read_14 (by decide) (fun c_2 => ?_) (fun c_2 => ?_)
    · refine lv_aload_n S.1 S.2.1 d_C_read_19 rfl (lv_at hl 0 rfl) ?_
      refine cx_get S hw (q0 := 1) (ci := 1) (k := 0) (v := .ref (aXP a)) (fun _ => rfl) rfl (by decide) inC tb_37 rfl rfl d_C_read_20 ?_
      refine lv_iload_n S.1 S.2.1 d_C_read_23 rfl (lv_at hl 1 rfl) ?_
      refine lv_bipush (v := 10) S.1 S.2.1 d_C_read_24 (by decide) ?_
      refine lv_ishr S.1 S.2.1 d_C_read_26 ?_
      have hv : sh_val κ σ.1 x = sMem (uC σ (sh_touch κ (σ).1)) x.toNatClampNeg := by unfold sh_val; rw [if_neg c_1, if_pos c_2]; rfl
      rw [hv]
      exact cx_readTail S hr hlk hw hbud c_1 c_2 hl
    · refine lv_iconst (v := 0) S.1 S.2.1 d_C_read_17 (by decide) ?_
      exact cx_retI S hr hlk hw hbud (by first | rfl | (unfold sh_val; rfl) | (unfold sh_val; simp only [if_neg c_1, if_neg c_2]; done) | (unfold sh_val; simp only [if_neg c_1, if_neg c_2]; rfl) | (unfold sh_val; dsimp only; simp only [if_neg c_1, if_neg c_2]; done) | (unfold sh_val; simp only [if_neg c_1, if_neg c_2]; done)) (by first | rfl | (unfold sh_val; rfl) | (unfold sh_val; simp only [if_neg c_1, if_neg c_2]; done) | (unfold sh_val; simp only [if_neg c_1, if_neg c_2]; rfl) | (unfold sh_val; dsimp only; simp only [if_neg c_1, if_neg c_2]; done) | (unfold sh_val; simp only [if_neg c_1, if_neg c_2]; done)) d_C_read_18
set_option maxHeartbeats 4000000 in
set_option maxRecDepth 100000 in
theorem c_C_write (l : Launch) (D : va_G) (cI cP : ClassId) (a : cx_a) (κ : sh_K) (np : Nat) (σ : sh_S) (x v : Int32) : cx_Met l D cI cP a κ np y_C_write b_C_write 4 (none) 2 32 [.ref (aXC a), .int x, .int v] σ (none) (uC σ (sh_write κ (σ).1 x v)) := by
  refine cx_start (by decide) (Nat.le_of_ble_eq_true rfl) mo_write ?_
  intro p e R s m args below meth c A ls S hr hlk hfr hlc hw hbud hl
  have hl : lv_has ls 4 [(0, .ref (aXC a)), (1, .int x), (2, .int v)] := hl
  refine lv_aload_n S.1 S.2.1 d_C_write_0 rfl (lv_at hl 0 rfl) ?_
  refine cx_call S hw hbud (As := []) (rest := []) (c_C_touch l D cI cP a κ np σ ) (q0 := 1) (fun _ => rfl) rfl tb_174 tb_171 tb_173 tp_5 tb_4 hd_C_touch rfl ⟨by omega, by omega⟩ hl.1 rfl (Nat.le_of_ble_eq_true rfl) d_C_write_1 (fun H locs hw => ?_)
  refine W.eq (g2 := F0 m 4 ls []) rfl ?_
  refine lv_iload_n S.1 S.2.1 d_C_write_4 rfl (lv_at hl 1 rfl) ?_
  refine lv_iconst (v := 1) S.1 S.2.1 d_C_write_5 (by decide) ?_
  refine lv_icmp_lt (tgt := 17) S.1 S.2.1 d_C_write_6 (by decide) (fun c_1 => ?_) (fun c_1 => ?_)
  · exact cx_retV S hr hlk hw hbud (by first | rfl | (unfold sh_write sh_put; rfl) | (unfold sh_write sh_put; simp only [if_pos c_1]; done) | (unfold sh_write sh_put; simp only [if_pos c_1]; rfl) | (unfold sh_write sh_put; dsimp only; simp only [if_pos c_1]; done) | (unfold sh_write sh_put; simp only [if_pos c_1]; done)) (by first | rfl | (unfold sh_write sh_put; rfl) | (unfold sh_write sh_put; simp only [if_pos c_1]; done) | (unfold sh_write sh_put; simp only [if_pos c_1]; rfl) | (unfold sh_write sh_put; dsimp only; simp only [if_pos c_1]; done) | (unfold sh_write sh_put; simp only [if_pos c_1]; done)) d_C_write_17
  · refine lv_iload_n S.1 S.2.1 d_C_write_9 rfl (lv_at hl 1 rfl) ?_
    refine lv_aload_n S.1 S.2.1 d_C_write_10 rfl (lv_at hl 0 rfl) ?_
    refine cx_get S hw (q0 := 1) (ci := 1) (k := 1) (v := .int (kLast κ)) (fun _ => rfl) rfl (by decide) inC tb_38 rfl rfl d_C_write_11 ?_
    refine lv_icmp_le (tgt := 18) S.1 S.2.1 d_C_write_14 (by decide) (fun c_2 => ?_) (fun c_2 => ?_)
    · refine lv_aload_n S.1 S.2.1 d_C_write_18 rfl (lv_at hl 0 rfl) ?_
      refine cx_get S hw (q0 := 1) (ci := 1) (k := 0) (v := .ref (aXP a)) (fun _ => rfl) rfl (by decide) inC tb_37 rfl rfl d_C_write_19 ?_
      refine lv_iload_n S.1 S.2.1 d_C_write_22 rfl (lv_at hl 1 rfl) ?_
      refine lv_bipush (v := 10) S.1 S.2.1 d_C_write_23 (by decide) ?_
      refine lv_ishr S.1 S.2.1 d_C_write_25 ?_
      exact cx_writeTail S hr hlk (by omega) (by omega) hw hbud c_1 c_2 hl (by unfold sh_write sh_put; rw [if_neg c_1, if_pos c_2])
    · exact cx_retV S hr hlk hw hbud (by first | rfl | (unfold sh_write sh_put; rfl) | (unfold sh_write sh_put; simp only [if_neg c_1, if_neg c_2]; done) | (unfold sh_write sh_put; simp only [if_neg c_1, if_neg c_2]; rfl) | (unfold sh_write sh_put; dsimp only; simp only [if_neg c_1, if_neg c_2]; done) | (unfold sh_write sh_put; simp only [if_neg c_1, if_neg c_2]; done)) (by first | rfl | (unfold sh_write sh_put; rfl) | (unfold sh_write sh_put; simp only [if_neg c_1, if_neg c_2]; done) | (unfold sh_write sh_put; simp only [if_neg c_1, if_neg c_2]; rfl) | (unfold sh_write sh_put; dsimp only; simp only [if_neg c_1, if_neg c_2]; done) | (unfold sh_write sh_put; simp only [if_neg c_1, if_neg c_2]; done)) d_C_write_17
end
section
/-! ===== Mover.placeInUse, follow, link ===== -/
section LPP
variable {p : Program} {l : Launch} {e : Env} {R : Room} {s : State} {m : MethodId} {args : Array Value} {below : List Frame} {meth : Method} {c : Code} {Q : State → Prop} {D : va_G} {cI cP : ClassId} {a : cx_a} {κ : sh_K} {np n0 : Nat} {A : Nat → Prop} {c1 : Cond}
set_option maxHeartbeats 4000000 in
set_option maxRecDepth 100000 in
theorem lp_piu (S : CallFix p m c b_M_placeInUse 6 s args (c1 :: bt) "StepHeap$Mover") (hbud : 2 * (np - n0) ≤ R.cells ∧ 1025 * (np - n0) ≤ R.slots) (hfr : 3 ≤ R.frames) (hlc : 55 ≤ R.locals) {σ0 : sh_S} {x to h : Int32} {N : Nat} (hN : N < 2 ^ 30) :
    ∀ (n j : Nat) (i : Int32) (cs : sh_C) (H : Heap) (locs : List Loc) (ls : Array Slot), i = nI j → j + n = N → cx_Wd D cI cP a κ np s A n0 (uC σ0 cs) H locs → lv_has ls 6 [(5, .int i), (4, .int (nI N)), (3, .int to), (2, .int h), (0, .ref (aXM a)), (1, .int x)] →
    (∀ (H' : Heap) (locs' : List Loc) (ls' : Array Slot), cx_Wd D cI cP a κ np s A n0 (uC σ0 (sh_copyN κ cs x to i n)) H' locs' → lv_has ls' 6 [(5, .int (nI N)), (4, .int (nI N)), (3, .int to), (2, .int h), (0, .ref (aXM a)), (1, .int x)] → W p l e R s m args below meth c H' locs' (2 * (nal (uC σ0 (sh_copyN κ cs x to i n)) - n0)) (1025 * (nal (uC σ0 (sh_copyN κ cs x to i n)) - n0)) Q (F0 m 84 ls' [])) →
    W p l e R s m args below meth c H locs (2 * (nal (uC σ0 cs) - n0)) (1025 * (nal (uC σ0 cs) - n0)) Q (F0 m 49 ls []) := by
  intro n
  induction n with
  | zero =>
    intro j i cs H locs ls hi hj hw hl K
    refine lv_iload S.1 S.2.1 d_M_placeInUse_49 (lv_at hl 0 rfl) ?_
    refine lv_iload S.1 S.2.1 d_M_placeInUse_51 (lv_at hl 1 rfl) ?_
    refine lv_icmp_ge (tgt := 84) S.1 S.2.1 d_M_placeInUse_53 (by decide) (fun c_1 => ?_) (fun c_1 => ?_)
    · have c_1n := i32_nlt c_1
      have ej : i = nI N := by rw [hi, show j = N by omega]
      exact K H locs ls hw (by rw [← ej] at hl ⊢; exact hl)
    · have c_1n := i32_lt c_1
      exact absurd (by rw [hi, show j = N by omega]; exact nI_le (Nat.le_refl _) (by omega)) c_1
  | succ n ih =>
    intro j i cs H locs ls hi hj hw hl K
    refine lv_iload S.1 S.2.1 d_M_placeInUse_49 (lv_at hl 0 rfl) ?_
    refine lv_iload S.1 S.2.1 d_M_placeInUse_51 (lv_at hl 1 rfl) ?_
    refine lv_icmp_ge (tgt := 84) S.1 S.2.1 d_M_placeInUse_53 (by decide) (fun c_1 => ?_) (fun c_1 => ?_)
    · have c_1n := i32_nlt c_1
      exact absurd (by rw [hi] at c_1; exact c_1) (nI_ge (show j < N by omega) (by omega))
    · have c_1n := i32_lt c_1
      refine lv_aload_n S.1 S.2.1 d_M_placeInUse_56 rfl (lv_at hl 4 rfl) ?_
      refine cx_get S hw (q0 := 2) (ci := 2) (k := 0) (v := .ref (aXC a)) (fun _ => rfl) rfl (by decide) inM tb_59 rfl rfl d_M_placeInUse_57 ?_
      refine lv_iload_n S.1 S.2.1 d_M_placeInUse_60 rfl (lv_at hl 2 rfl) ?_
      refine lv_iload S.1 S.2.1 d_M_placeInUse_61 (lv_at hl 0 rfl) ?_
      refine lv_iadd S.1 S.2.1 d_M_placeInUse_63 ?_
      refine lv_aload_n S.1 S.2.1 d_M_placeInUse_64 rfl (lv_at hl 4 rfl) ?_
      refine cx_get S hw (q0 := 2) (ci := 2) (k := 0) (v := .ref (aXC a)) (fun _ => rfl) rfl (by decide) inM tb_59 rfl rfl d_M_placeInUse_65 ?_
      refine lv_iload_n S.1 S.2.1 d_M_placeInUse_68 rfl (lv_at hl 5 rfl) ?_
      refine lv_iload S.1 S.2.1 d_M_placeInUse_69 (lv_at hl 0 rfl) ?_
      refine lv_iadd S.1 S.2.1 d_M_placeInUse_71 ?_
      refine cx_call S hw hbud (As := [.int (x + i)]) (rest := [.int (to + i), .ref (aXC a)]) (c_C_read l D cI cP a κ np (uC σ0 cs) (x + i)) (q0 := 1) (fun _ => rfl) rfl tb_170 tb_167 tb_168 tb_169 tb_4 hd_C_read rfl ⟨by omega, by omega⟩ hl.1 rfl (Nat.le_of_ble_eq_true rfl) d_M_placeInUse_72 (fun H locs hw => ?_)
      refine W.eq (g2 := F0 m 75 ls [.int (sh_val κ ((uC σ0 cs)).1 (x + i)), .int (to + i), .ref (aXC a)]) rfl ?_
      refine cx_call S hw hbud (As := [.int (to + i), .int (sh_val κ ((uC σ0 cs)).1 (x + i))]) (rest := []) (c_C_write l D cI cP a κ np (uC (uC σ0 cs) (sh_touch κ ((uC σ0 cs)).1)) (to + i) (sh_val κ ((uC σ0 cs)).1 (x + i))) (q0 := 1) (fun _ => rfl) rfl tb_179 tb_176 tb_177 tb_178 tb_4 hd_C_write rfl ⟨by omega, by omega⟩ hl.1 rfl (Nat.le_of_ble_eq_true rfl) d_M_placeInUse_75 (fun H locs hw => ?_)
      generalize hq_1 : sh_write κ ((uC (uC σ0 cs) (sh_touch κ ((uC σ0 cs)).1))).1 (to + i) (sh_val κ ((uC σ0 cs)).1 (x + i)) = q_1 at hw ⊢
      refine W.eq (g2 := F0 m 78 ls []) rfl ?_
      refine lv_iinc (v := i + 1) (lv' := [(5, .int (i + 1)), (4, .int (nI N)), (3, .int to), (2, .int h), (0, .ref (aXM a)), (1, .int x)]) S.1 S.2.1 d_M_placeInUse_78 hl (k := 0) rfl rfl (by decide) rfl (fun ls hl => ?_)
      refine lv_goto (tgt := 49) S.1 S.2.1 d_M_placeInUse_81 (by decide) ?_
      subst hq_1
      exact ih (j + 1) (i + 1) _ H locs ls (by rw [hi]; exact nI_1 j) (by omega) hw (lv_sub hl [0, 1, 2, 3, 4, 5] rfl) K
end LPP
set_option maxHeartbeats 4000000 in
set_option maxRecDepth 100000 in
theorem c_M_placeInUse (l : Launch) (D : va_G) (cI cP : ClassId) (a : cx_a) (κ : sh_K) (np : Nat) (σ : sh_S) (x : Int32) : cx_Met l D cI cP a κ np y_M_placeInUse b_M_placeInUse 6 (some .int) 3 55 [.ref (aXM a), .int x] σ (some (.int ((sh_piu κ σ x).1))) ((sh_piu κ σ x).2) := by
  refine cx_start (by decide) (Nat.le_of_ble_eq_true rfl) mo_piu ?_
  intro p e R s m args below meth c A ls S hr hlk hfr hlc hw hbud hl
  have hl : lv_has ls 6 [(0, .ref (aXM a)), (1, .int x)] := hl
  refine lv_aload_n S.1 S.2.1 d_M_placeInUse_0 rfl (lv_at hl 0 rfl) ?_
  refine lv_iload_n S.1 S.2.1 d_M_placeInUse_1 rfl (lv_at hl 1 rfl) ?_
  refine cx_rd S hw (hw.fit hbud) (As := [.int x]) (rest := []) (c_M_isOld l D cI cP a κ np σ x) (q0 := 2) (fun _ => rfl) rfl tb_166 tb_163 tb_165 tp_4 tb_3 hd_M_isOld rfl ⟨by omega, by omega⟩ hl.1 rfl (Nat.le_of_ble_eq_true rfl) d_M_placeInUse_2 ?_
  refine lv_if_ne (tgt := 10) S.1 S.2.1 d_M_placeInUse_5 (by decide) (fun c_1 => ?_) (fun c_1 => ?_)
  · refine lv_aload_n S.1 S.2.1 d_M_placeInUse_10 rfl (lv_at hl 0 rfl) ?_
    refine cx_get S hw (q0 := 2) (ci := 2) (k := 0) (v := .ref (aXC a)) (fun _ => rfl) rfl (by decide) inM tb_59 rfl rfl d_M_placeInUse_11 ?_
    refine lv_iload_n S.1 S.2.1 d_M_placeInUse_14 rfl (lv_at hl 1 rfl) ?_
    refine cx_call S hw hbud (As := [.int x]) (rest := []) (c_C_read l D cI cP a κ np σ x) (q0 := 1) (fun _ => rfl) rfl tb_170 tb_167 tb_168 tb_169 tb_4 hd_C_read rfl ⟨by omega, by omega⟩ hl.1 rfl (Nat.le_of_ble_eq_true rfl) d_M_placeInUse_15 (fun H locs hw => ?_)
    refine W.eq (g2 := F0 m 18 ls [.int (sh_val κ (σ).1 x)]) rfl ?_
    refine lv_istore_n (lv' := [(2, .int (sh_val κ (σ).1 x)), (0, .ref (aXM a)), (1, .int x)]) S.1 S.2.1 d_M_placeInUse_18 rfl hl (by decide) rfl (fun ls hl => ?_)
    refine lv_iload_n S.1 S.2.1 d_M_placeInUse_19 rfl (lv_at hl 0 rfl) ?_
    refine lv_if_ge (tgt := 26) S.1 S.2.1 d_M_placeInUse_20 (by decide) (fun c_2 => ?_) (fun c_2 => ?_)
    · have c_2n := i32_nlt c_2
      refine lv_aload_n S.1 S.2.1 d_M_placeInUse_26 rfl (lv_at hl 1 rfl) ?_
      refine cx_get S hw (q0 := 2) (ci := 2) (k := 8) (v := .int (sFree (uC σ (sh_touch κ (σ).1)))) (fun _ => rfl) rfl (by decide) inM tb_71 rfl rfl d_M_placeInUse_27 ?_
      refine lv_istore_n (lv' := [(3, .int (sFree (uC σ (sh_touch κ (σ).1)))), (2, .int (sh_val κ (σ).1 x)), (0, .ref (aXM a)), (1, .int x)]) S.1 S.2.1 d_M_placeInUse_30 rfl hl (by decide) rfl (fun ls hl => ?_)
      refine lv_iload_n S.1 S.2.1 d_M_placeInUse_31 rfl (lv_at hl 1 rfl) ?_
      refine cx_fn S (As := [.int (sh_val κ (σ).1 x)]) (rest := []) (c_H_cells l (sh_val κ (σ).1 x)) tb_136 tb_175 tb_135 tb_6 hdf_H_cells rfl ⟨by omega, by omega⟩ hl.1 rfl (Nat.le_of_ble_eq_true rfl) d_M_placeInUse_32 (hw.fit hbud) ?_
      refine lv_istore (lv' := [(4, .int (hd_cells (sh_val κ (σ).1 x))), (3, .int (sFree (uC σ (sh_touch κ (σ).1)))), (2, .int (sh_val κ (σ).1 x)), (0, .ref (aXM a)), (1, .int x)]) S.1 S.2.1 d_M_placeInUse_35 hl (by decide) rfl (fun ls hl => ?_)
      refine lv_aload_n S.1 S.2.1 d_M_placeInUse_37 rfl (lv_at hl 3 rfl) ?_
      refine cx_get S hw (q0 := 2) (ci := 2) (k := 0) (v := .ref (aXC a)) (fun _ => rfl) rfl (by decide) inM tb_59 rfl rfl d_M_placeInUse_38 ?_
      refine lv_iload_n S.1 S.2.1 d_M_placeInUse_41 rfl (lv_at hl 1 rfl) ?_
      refine lv_iload_n S.1 S.2.1 d_M_placeInUse_42 rfl (lv_at hl 2 rfl) ?_
      refine cx_call S hw hbud (As := [.int (sFree (uC σ (sh_touch κ (σ).1))), .int (sh_val κ (σ).1 x)]) (rest := []) (c_C_write l D cI cP a κ np (uC σ (sh_touch κ (σ).1)) (sFree (uC σ (sh_touch κ (σ).1))) (sh_val κ (σ).1 x)) (q0 := 1) (fun _ => rfl) rfl tb_179 tb_176 tb_177 tb_178 tb_4 hd_C_write rfl ⟨by omega, by omega⟩ hl.1 rfl (Nat.le_of_ble_eq_true rfl) d_M_placeInUse_43 (fun H locs hw => ?_)
      generalize hq_1 : sh_write κ ((uC σ (sh_touch κ (σ).1))).1 (sFree (uC σ (sh_touch κ (σ).1))) (sh_val κ (σ).1 x) = q_1 at hw ⊢
      refine W.eq (g2 := F0 m 46 ls []) rfl ?_
      refine lv_iconst (v := 1) S.1 S.2.1 d_M_placeInUse_46 (by decide) ?_
      refine lv_istore (lv' := [(5, .int 1), (4, .int (hd_cells (sh_val κ (σ).1 x))), (3, .int (sFree (uC σ (sh_touch κ (σ).1)))), (2, .int (sh_val κ (σ).1 x)), (0, .ref (aXM a)), (1, .int x)]) S.1 S.2.1 d_M_placeInUse_47 hl (by decide) rfl (fun ls hl => ?_)
      have hN := hC_eq (sh_val κ (σ).1 x)
      have hB := hC_big (sh_val κ (σ).1 x)
      rw [hN] at hl
      refine lp_piu S hbud (by omega) (by omega) (σ0 := (uC σ (sh_touch κ (σ).1))) hB.2 (hC (sh_val κ (σ).1 x) - 1) 1 1 q_1 H locs ls rfl (by omega) hw hl (fun H locs ls hw hl => ?_)
      generalize hq_2 : sh_copyN κ q_1 x (sFree (uC σ (sh_touch κ (σ).1))) 1 (hC (sh_val κ (σ).1 x) - 1) = q_2 at hw ⊢
      refine lv_aload_n S.1 S.2.1 d_M_placeInUse_84 rfl (lv_at hl 4 rfl) ?_
      refine cx_get S hw (q0 := 2) (ci := 2) (k := 0) (v := .ref (aXC a)) (fun _ => rfl) rfl (by decide) inM tb_59 rfl rfl d_M_placeInUse_85 ?_
      refine lv_iload_n S.1 S.2.1 d_M_placeInUse_88 rfl (lv_at hl 5 rfl) ?_
      refine lv_iload_n S.1 S.2.1 d_M_placeInUse_89 rfl (lv_at hl 2 rfl) ?_
      refine lv_ineg S.1 S.2.1 d_M_placeInUse_90 ?_
      refine cx_call S hw hbud (As := [.int x, .int (-(sFree (uC σ (sh_touch κ (σ).1))))]) (rest := []) (c_C_write l D cI cP a κ np (uC (uC σ (sh_touch κ (σ).1)) q_2) x (-(sFree (uC σ (sh_touch κ (σ).1))))) (q0 := 1) (fun _ => rfl) rfl tb_179 tb_176 tb_177 tb_178 tb_4 hd_C_write rfl ⟨by omega, by omega⟩ hl.1 rfl (Nat.le_of_ble_eq_true rfl) d_M_placeInUse_91 (fun H locs hw => ?_)
      generalize hq_3 : sh_write κ ((uC (uC σ (sh_touch κ (σ).1)) q_2)).1 x (-(sFree (uC σ (sh_touch κ (σ).1)))) = q_3 at hw ⊢
      refine W.eq (g2 := F0 m 94 ls []) rfl ?_
      refine lv_aload_n S.1 S.2.1 d_M_placeInUse_94 rfl (lv_at hl 4 rfl) ?_
      refine lv_dup S.1 S.2.1 d_M_placeInUse_95 rfl ?_
      refine cx_get S hw (q0 := 2) (ci := 2) (k := 8) (v := .int (sFree (uC (uC (uC σ (sh_touch κ (σ).1)) q_2) q_3))) (fun _ => rfl) rfl (by decide) inM tb_71 rfl rfl d_M_placeInUse_96 ?_
      refine lv_iload S.1 S.2.1 d_M_placeInUse_99 (lv_at hl 1 rfl) ?_
      refine lv_iadd S.1 S.2.1 d_M_placeInUse_101 ?_
      refine cx_put S hw (q0 := 2) (ci := 2) (k := 8) (σ' := uFree (uC (uC (uC σ (sh_touch κ (σ).1)) q_2) q_3) ((sFree (uC (uC (uC σ (sh_touch κ (σ).1)) q_2) q_3)) + (nI (hC (sh_val κ (σ).1 x))))) (ty := .int) (fun _ => rfl) rfl (by decide) inM tyM tyM_ok nmM tb_71 rfl rfl rfl rfl rfl (Nat.le_of_ble_eq_true rfl) (fun _ => rfl) rfl rfl d_M_placeInUse_102 (fun H locs hw => ?_)
      refine W.cs (cells' := 2 * (nal (uFree (uC (uC (uC σ (sh_touch κ (σ).1)) q_2) q_3) ((sFree (uC (uC (uC σ (sh_touch κ (σ).1)) q_2) q_3)) + (nI (hC (sh_val κ (σ).1 x))))) - nal σ)) (slots' := 1025 * (nal (uFree (uC (uC (uC σ (sh_touch κ (σ).1)) q_2) q_3) ((sFree (uC (uC (uC σ (sh_touch κ (σ).1)) q_2) q_3)) + (nI (hC (sh_val κ (σ).1 x))))) - nal σ)) rfl rfl ?_
      refine lv_iload_n S.1 S.2.1 d_M_placeInUse_105 rfl (lv_at hl 2 rfl) ?_
      exact cx_retI S hr hlk hw hbud (by first | exact absurd c_2 c_1 | exact absurd c_2 c_2n | (unfold sh_piu; simp only [if_neg c_1, if_pos c_2, if_neg c_2n, hq_1, hq_2, hq_3]; done) | (unfold sh_piu; dsimp only; simp only [if_neg c_1, if_pos c_2, if_neg c_2n, hq_1, hq_2, hq_3]; done) | (subst hq_3; subst hq_2; subst hq_1; unfold sh_piu; simp only [if_neg c_1, if_pos c_2, if_neg c_2n, hC_eq, hC_clamp]; try rfl; done)) (by first | exact absurd c_2 c_1 | exact absurd c_2 c_2n | (unfold sh_piu; simp only [if_neg c_1, if_pos c_2, if_neg c_2n, hq_1, hq_2, hq_3]; done) | (unfold sh_piu; dsimp only; simp only [if_neg c_1, if_pos c_2, if_neg c_2n, hq_1, hq_2, hq_3]; done) | (subst hq_3; subst hq_2; subst hq_1; unfold sh_piu; simp only [if_neg c_1, if_pos c_2, if_neg c_2n, hC_eq, hC_clamp]; try rfl; done)) d_M_placeInUse_106
    · have c_2n := i32_lt c_2
      refine lv_iload_n S.1 S.2.1 d_M_placeInUse_23 rfl (lv_at hl 0 rfl) ?_
      refine lv_ineg S.1 S.2.1 d_M_placeInUse_24 ?_
      exact cx_retI S hr hlk hw hbud (by first | exact absurd c_2n c_1 | exact absurd c_2n c_2 | (unfold sh_piu; simp only [if_neg c_1, if_neg c_2, if_pos c_2n]; done) | (unfold sh_piu; dsimp only; simp only [if_neg c_1, if_neg c_2, if_pos c_2n]; done) | (unfold sh_piu; simp only [if_neg c_1, if_neg c_2, if_pos c_2n, hC_eq, hC_clamp]; try rfl; done)) (by first | exact absurd c_2n c_1 | exact absurd c_2n c_2 | (unfold sh_piu; simp only [if_neg c_1, if_neg c_2, if_pos c_2n]; done) | (unfold sh_piu; dsimp only; simp only [if_neg c_1, if_neg c_2, if_pos c_2n]; done) | (unfold sh_piu; simp only [if_neg c_1, if_neg c_2, if_pos c_2n, hC_eq, hC_clamp]; try rfl; done)) d_M_placeInUse_25
  · refine lv_iload_n S.1 S.2.1 d_M_placeInUse_8 rfl (lv_at hl 1 rfl) ?_
    exact cx_retI S hr hlk hw hbud (by first | (unfold sh_piu; simp only [if_pos c_1]; done) | (unfold sh_piu; dsimp only; simp only [if_pos c_1]; done) | (unfold sh_piu; simp only [if_pos c_1, hC_eq, hC_clamp]; try rfl; done)) (by first | (unfold sh_piu; simp only [if_pos c_1]; done) | (unfold sh_piu; dsimp only; simp only [if_pos c_1]; done) | (unfold sh_piu; simp only [if_pos c_1, hC_eq, hC_clamp]; try rfl; done)) d_M_placeInUse_9
end
section
/-! ===== Mover.follow, link, beginCycle, hasRoom ===== -/
set_option maxHeartbeats 4000000 in
set_option maxRecDepth 100000 in
theorem c_M_follow (l : Launch) (D : va_G) (cI cP : ClassId) (a : cx_a) (κ : sh_K) (np : Nat) (σ : sh_S) (x : Int32) : cx_Met l D cI cP a κ np y_M_follow b_M_follow 2 (some .int) 4 80 [.ref (aXM a), .int x] σ (some (.int ((sh_follow κ σ x).1))) ((sh_follow κ σ x).2) := by
  refine cx_start (by decide) (Nat.le_of_ble_eq_true rfl) mo_follow ?_
  intro p e R s m args below meth c A ls S hr hlk hfr hlc hw hbud hl
  have hl : lv_has ls 2 [(0, .ref (aXM a)), (1, .int x)] := hl
  refine lv_aload_n S.1 S.2.1 d_M_follow_0 rfl (lv_at hl 0 rfl) ?_
  refine lv_aload_n S.1 S.2.1 d_M_follow_1 rfl (lv_at hl 0 rfl) ?_
  refine cx_get S hw (q0 := 2) (ci := 2) (k := 0) (v := .ref (aXC a)) (fun _ => rfl) rfl (by decide) inM tb_59 rfl rfl d_M_follow_2 ?_
  refine lv_iload_n S.1 S.2.1 d_M_follow_5 rfl (lv_at hl 1 rfl) ?_
  refine cx_call S hw hbud (As := [.int x]) (rest := [.ref (aXM a)]) (c_C_read l D cI cP a κ np σ x) (q0 := 1) (fun _ => rfl) rfl tb_170 tb_167 tb_168 tb_169 tb_4 hd_C_read rfl ⟨by omega, by omega⟩ hl.1 rfl (Nat.le_of_ble_eq_true rfl) d_M_follow_6 (fun H locs hw => ?_)
  refine W.eq (g2 := F0 m 9 ls [.int (sh_val κ (σ).1 x), .ref (aXM a)]) rfl ?_
  refine cx_call S hw hbud (As := [.int (sh_val κ (σ).1 x)]) (rest := []) (c_M_placeInUse l D cI cP a κ np (uC σ (sh_touch κ (σ).1)) (sh_val κ (σ).1 x)) (q0 := 2) (fun _ => rfl) rfl tb_162 tb_159 tb_161 tp_3 tb_3 hd_M_placeInUse rfl ⟨by omega, by omega⟩ hl.1 rfl (Nat.le_of_ble_eq_true rfl) d_M_follow_9 (fun H locs hw => ?_)
  generalize hq_1 : sh_piu κ (uC σ (sh_touch κ (σ).1)) (sh_val κ (σ).1 x) = q_1 at hw ⊢
  refine W.eq (g2 := F0 m 12 ls [.int q_1.1]) rfl ?_
  exact cx_retI S hr hlk hw hbud (by first | (unfold sh_follow; simp only [hq_1]; done) | (unfold sh_follow; dsimp only; simp only [hq_1]; done) | (subst hq_1; unfold sh_follow; simp only [hC_eq, hC_clamp]; try rfl; done)) (by first | (unfold sh_follow; simp only [hq_1]; done) | (unfold sh_follow; dsimp only; simp only [hq_1]; done) | (subst hq_1; unfold sh_follow; simp only [hC_eq, hC_clamp]; try rfl; done)) d_M_follow_12
set_option maxHeartbeats 4000000 in
set_option maxRecDepth 100000 in
theorem c_M_link (l : Launch) (D : va_G) (cI cP : ClassId) (a : cx_a) (κ : sh_K) (np : Nat) (σ : sh_S) (x v : Int32) : cx_Met l D cI cP a κ np y_M_link b_M_link 3 (none) 5 101 [.ref (aXM a), .int x, .int v] σ (none) (sh_link κ σ x v) := by
  refine cx_start (by decide) (Nat.le_of_ble_eq_true rfl) mo_link ?_
  intro p e R s m args below meth c A ls S hr hlk hfr hlc hw hbud hl
  have hl : lv_has ls 3 [(0, .ref (aXM a)), (1, .int x), (2, .int v)] := hl
  refine lv_aload_n S.1 S.2.1 d_M_link_0 rfl (lv_at hl 0 rfl) ?_
  refine lv_iload_n S.1 S.2.1 d_M_link_1 rfl (lv_at hl 1 rfl) ?_
  refine cx_call S hw hbud (As := [.int x]) (rest := []) (c_M_follow l D cI cP a κ np σ x) (q0 := 2) (fun _ => rfl) rfl tb_241 tb_250 tb_239 tb_240 tb_3 hd_M_follow rfl ⟨by omega, by omega⟩ hl.1 rfl (Nat.le_of_ble_eq_true rfl) d_M_link_2 (fun H locs hw => ?_)
  generalize hq_1 : sh_follow κ σ x = q_1 at hw ⊢
  refine W.eq (g2 := F0 m 5 ls [.int q_1.1]) rfl ?_
  refine lv_pop S.1 S.2.1 d_M_link_5 rfl ?_
  refine lv_aload_n S.1 S.2.1 d_M_link_6 rfl (lv_at hl 0 rfl) ?_
  refine cx_get S hw (q0 := 2) (ci := 2) (k := 0) (v := .ref (aXC a)) (fun _ => rfl) rfl (by decide) inM tb_59 rfl rfl d_M_link_7 ?_
  refine lv_iload_n S.1 S.2.1 d_M_link_10 rfl (lv_at hl 1 rfl) ?_
  refine lv_iload_n S.1 S.2.1 d_M_link_11 rfl (lv_at hl 2 rfl) ?_
  refine cx_call S hw hbud (As := [.int x, .int v]) (rest := []) (c_C_write l D cI cP a κ np q_1.2 x v) (q0 := 1) (fun _ => rfl) rfl tb_179 tb_176 tb_177 tb_178 tb_4 hd_C_write rfl ⟨by omega, by omega⟩ hl.1 rfl (Nat.le_of_ble_eq_true rfl) d_M_link_12 (fun H locs hw => ?_)
  generalize hq_2 : sh_write κ (q_1.2).1 x v = q_2 at hw ⊢
  refine W.eq (g2 := F0 m 15 ls []) rfl ?_
  exact cx_retV S hr hlk hw hbud rfl (by first | (unfold sh_link; simp only [hq_1, hq_2]; done) | (unfold sh_link; dsimp only; simp only [hq_1, hq_2]; done) | (subst hq_2; subst hq_1; unfold sh_link; simp only [hC_eq, hC_clamp]; try rfl; done)) d_M_link_15
section CXL
variable {p : Program} {l : Launch} {e : Env} {R : Room} {s : State} {m : MethodId} {args : Array Value} {below : List Frame} {meth : Method} {c : Code} {H : Heap} {locs : List Loc} {Q : State → Prop} {D : va_G} {cI cP : ClassId} {a : cx_a} {κ : sh_K} {np n0 nL : Nat} {A : Nat → Prop} {σ : sh_S} {cc : ByteArray} {pc cells slots : Nat} {ls : Array Slot} {rest : List Value} {c1 : Cond} {own : String}
theorem cx_rlen (S : CallFix p m c cc nL s args (c1 :: bt) own) (hw : cx_Wd D cI cP a κ np s A n0 σ H locs) (hdg : decode cc pc = .ok (.arraylength, 1)) (kk : W p l e R s m args below meth c H locs cells slots Q (F0 m (pc + 1) ls (.int 8 :: rest))) : W p l e R s m args below meth c H locs cells slots Q (F0 m pc ls (.ref (aXR a) :: rest)) := by
  obtain ⟨hx, hb, hml, hown, hts⟩ := S
  obtain ⟨⟨Lp, -, hP, hD⟩, hS, hK, -⟩ := hw
  exact va_alen (D := D) (v := 8) hx hb hK hP 3 0 rfl rfl rfl hdg kk
end CXL
section LPB
variable {p : Program} {l : Launch} {e : Env} {R : Room} {s : State} {m : MethodId} {args : Array Value} {below : List Frame} {meth : Method} {c : Code} {Q : State → Prop} {D : va_G} {cI cP : ClassId} {a : cx_a} {κ : sh_K} {np n0 : Nat} {A : Nat → Prop} {c1 : Cond}
set_option maxHeartbeats 4000000 in
set_option maxRecDepth 100000 in
theorem lp_beg (S : CallFix p m c b_M_beginCycle 2 s args (c1 :: bt) "StepHeap$Mover") (hbud : 2 * (np - n0) ≤ R.cells ∧ 1025 * (np - n0) ≤ R.slots) (hfr : 4 ≤ R.frames) (hlc : 80 ≤ R.locals) :
    ∀ (n j : Nat) (τ : sh_S) (H : Heap) (locs : List Loc) (ls : Array Slot), j + n = 8 → cx_Wd D cI cP a κ np s A n0 τ H locs → lv_has ls 2 [(1, .int (nI j)), (0, .ref (aXM a))] →
    (∀ (H' : Heap) (locs' : List Loc) (ls' : Array Slot), cx_Wd D cI cP a κ np s A n0 (sh_regsN κ τ j n) H' locs' → W p l e R s m args below meth c H' locs' (2 * (nal (sh_regsN κ τ j n) - n0)) (1025 * (nal (sh_regsN κ τ j n) - n0)) Q (F0 m 70 ls' [])) →
    W p l e R s m args below meth c H locs (2 * (nal (τ) - n0)) (1025 * (nal (τ) - n0)) Q (F0 m 39 ls []) := by
  intro n
  induction n with
  | zero =>
    intro j τ H locs ls hj hw hl K
    refine lv_iload_n S.1 S.2.1 d_M_beginCycle_39 rfl (lv_at hl 0 rfl) ?_
    refine lv_aload_n S.1 S.2.1 d_M_beginCycle_40 rfl (lv_at hl 1 rfl) ?_
    refine cx_get S hw (q0 := 2) (ci := 2) (k := 4) (v := .ref (aXR a)) (fun _ => rfl) rfl (by decide) inM tb_65 rfl rfl d_M_beginCycle_41 ?_
    refine cx_rlen S hw d_M_beginCycle_44 ?_
    refine lv_icmp_ge (tgt := 70) S.1 S.2.1 d_M_beginCycle_45 (by decide) (fun c_1 => ?_) (fun c_1 => ?_)
    · have c_1n := i32_nlt c_1
      exact K H locs ls hw
    · have c_1n := i32_lt c_1
      exact absurd (by rw [show j = 8 by omega]; decide) c_1
  | succ n ih =>
    intro j τ H locs ls hj hw hl K
    refine lv_iload_n S.1 S.2.1 d_M_beginCycle_39 rfl (lv_at hl 0 rfl) ?_
    refine lv_aload_n S.1 S.2.1 d_M_beginCycle_40 rfl (lv_at hl 1 rfl) ?_
    refine cx_get S hw (q0 := 2) (ci := 2) (k := 4) (v := .ref (aXR a)) (fun _ => rfl) rfl (by decide) inM tb_65 rfl rfl d_M_beginCycle_41 ?_
    refine cx_rlen S hw d_M_beginCycle_44 ?_
    refine lv_icmp_ge (tgt := 70) S.1 S.2.1 d_M_beginCycle_45 (by decide) (fun c_1 => ?_) (fun c_1 => ?_)
    · have c_1n := i32_nlt c_1
      exact absurd c_1 (nI_ge (show j < 8 by omega) (by decide))
    · have c_1n := i32_lt c_1
      refine lv_aload_n S.1 S.2.1 d_M_beginCycle_48 rfl (lv_at hl 1 rfl) ?_
      refine cx_get S hw (q0 := 2) (ci := 2) (k := 4) (v := .ref (aXR a)) (fun _ => rfl) rfl (by decide) inM tb_65 rfl rfl d_M_beginCycle_49 ?_
      refine lv_iload_n S.1 S.2.1 d_M_beginCycle_52 rfl (lv_at hl 0 rfl) ?_
      refine lv_aload_n S.1 S.2.1 d_M_beginCycle_53 rfl (lv_at hl 1 rfl) ?_
      refine lv_aload_n S.1 S.2.1 d_M_beginCycle_54 rfl (lv_at hl 1 rfl) ?_
      refine cx_get S hw (q0 := 2) (ci := 2) (k := 4) (v := .ref (aXR a)) (fun _ => rfl) rfl (by decide) inM tb_65 rfl rfl d_M_beginCycle_55 ?_
      refine lv_iload_n S.1 S.2.1 d_M_beginCycle_58 rfl (lv_at hl 0 rfl) ?_
      refine cx_rld S hw (i := nI j) (vp_in_nI (by omega) (by decide)) d_M_beginCycle_59 ?_
      rw [nI_clamp (show j < 2 ^ 31 by omega)]
      refine cx_call S hw hbud (As := [.int (sReg τ j)]) (rest := [.int (nI j), .ref (aXR a)]) (c_M_placeInUse l D cI cP a κ np τ (sReg τ j)) (q0 := 2) (fun _ => rfl) rfl tb_162 tb_159 tb_161 tp_3 tb_3 hd_M_placeInUse rfl ⟨by omega, by omega⟩ hl.1 rfl (Nat.le_of_ble_eq_true rfl) d_M_beginCycle_60 (fun H locs hw => ?_)
      generalize hq_1 : sh_piu κ τ (sReg τ j) = q_1 at hw ⊢
      refine W.eq (g2 := F0 m 63 ls [.int q_1.1, .int (nI j), .ref (aXR a)]) rfl ?_
      refine cx_rst S hw (i := nI j) (v := q_1.1) (vp_in_nI (by omega) (by decide)) d_M_beginCycle_63 (fun H locs hw => ?_)
      rw [nI_clamp (show j < 2 ^ 31 by omega)] at hw
      refine W.cs (cells' := 2 * (nal (uReg q_1.2 (upd (sReg q_1.2) j (q_1.1))) - n0)) (slots' := 1025 * (nal (uReg q_1.2 (upd (sReg q_1.2) j (q_1.1))) - n0)) rfl rfl ?_
      refine lv_iinc (v := (nI j) + 1) (lv' := [(1, .int ((nI j) + 1)), (0, .ref (aXM a))]) S.1 S.2.1 d_M_beginCycle_64 hl (k := 0) rfl rfl (by decide) rfl (fun ls hl => ?_)
      refine lv_goto (tgt := 39) S.1 S.2.1 d_M_beginCycle_67 (by decide) ?_
      subst hq_1
      rw [nI_1] at hl
      exact ih (j + 1) _ H locs ls (by omega) hw hl K
end LPB
set_option maxHeartbeats 4000000 in
set_option maxRecDepth 100000 in
theorem c_M_beginCycle (l : Launch) (D : va_G) (cI cP : ClassId) (a : cx_a) (κ : sh_K) (np : Nat) (σ : sh_S) : cx_Met l D cI cP a κ np y_M_beginCycle b_M_beginCycle 2 (none) 4 80 [.ref (aXM a)] σ (none) (sh_begin κ σ) := by
  refine cx_start (by decide) (Nat.le_of_ble_eq_true rfl) mo_begin ?_
  intro p e R s m args below meth c A ls S hr hlk hfr hlc hw hbud hl
  have hl : lv_has ls 2 [(0, .ref (aXM a))] := hl
  refine lv_aload_n S.1 S.2.1 d_M_beginCycle_0 rfl (lv_at hl 0 rfl) ?_
  refine lv_aload_n S.1 S.2.1 d_M_beginCycle_1 rfl (lv_at hl 0 rfl) ?_
  refine cx_get S hw (q0 := 2) (ci := 2) (k := 7) (v := .int (sBase σ)) (fun _ => rfl) rfl (by decide) inM tb_70 rfl rfl d_M_beginCycle_2 ?_
  refine lv_iconst (v := 1) S.1 S.2.1 d_M_beginCycle_5 (by decide) ?_
  refine lv_icmp_ne (tgt := 18) S.1 S.2.1 d_M_beginCycle_6 (by decide) (fun c_1 => ?_) (fun c_1 => ?_)
  · refine lv_iconst (v := 1) S.1 S.2.1 d_M_beginCycle_18 (by decide) ?_
    refine cx_call S hw hbud (As := [.int 1]) (rest := []) (c_M_useHalf l D cI cP a κ np σ 1) (q0 := 2) (fun _ => rfl) rfl tb_58 tb_55 tb_57 tp_0 tb_3 hd_M_useHalf rfl ⟨by omega, by omega⟩ hl.1 rfl (Nat.le_of_ble_eq_true rfl) d_M_beginCycle_19 (fun H locs hw => ?_)
    refine W.eq (g2 := F0 m 22 ls []) rfl ?_
    refine lv_aload_n S.1 S.2.1 d_M_beginCycle_22 rfl (lv_at hl 0 rfl) ?_
    refine lv_iconst (v := 0) S.1 S.2.1 d_M_beginCycle_23 (by decide) ?_
    refine cx_put S hw (q0 := 2) (ci := 2) (k := 5) (σ' := uMade (sh_useHalf κ σ 1) (0)) (ty := .int) (fun _ => rfl) rfl (by decide) inM tyM tyM_ok nmM tb_66 rfl rfl rfl rfl rfl (Nat.le_of_ble_eq_true rfl) (fun _ => rfl) rfl rfl d_M_beginCycle_24 (fun H locs hw => ?_)
    refine W.cs (cells' := 2 * (nal (uMade (sh_useHalf κ σ 1) (0)) - nal σ)) (slots' := 1025 * (nal (uMade (sh_useHalf κ σ 1) (0)) - nal σ)) rfl rfl ?_
    refine lv_aload_n S.1 S.2.1 d_M_beginCycle_27 rfl (lv_at hl 0 rfl) ?_
    refine lv_dup S.1 S.2.1 d_M_beginCycle_28 rfl ?_
    refine cx_get S hw (q0 := 2) (ci := 2) (k := 6) (v := .int (sBeg (uMade (sh_useHalf κ σ 1) (0)))) (fun _ => rfl) rfl (by decide) inM tb_68 rfl rfl d_M_beginCycle_29 ?_
    refine lv_iconst (v := 1) S.1 S.2.1 d_M_beginCycle_32 (by decide) ?_
    refine lv_iadd S.1 S.2.1 d_M_beginCycle_33 ?_
    refine cx_put S hw (q0 := 2) (ci := 2) (k := 6) (σ' := uBeg (uMade (sh_useHalf κ σ 1) (0)) ((sBeg (uMade (sh_useHalf κ σ 1) (0))) + 1)) (ty := .int) (fun _ => rfl) rfl (by decide) inM tyM tyM_ok nmM tb_68 rfl rfl rfl rfl rfl (Nat.le_of_ble_eq_true rfl) (fun _ => rfl) rfl rfl d_M_beginCycle_34 (fun H locs hw => ?_)
    refine W.cs (cells' := 2 * (nal (uBeg (uMade (sh_useHalf κ σ 1) (0)) ((sBeg (uMade (sh_useHalf κ σ 1) (0))) + 1)) - nal σ)) (slots' := 1025 * (nal (uBeg (uMade (sh_useHalf κ σ 1) (0)) ((sBeg (uMade (sh_useHalf κ σ 1) (0))) + 1)) - nal σ)) rfl rfl ?_
    refine lv_iconst (v := 0) S.1 S.2.1 d_M_beginCycle_37 (by decide) ?_
    refine lv_istore_n (lv' := [(1, .int 0), (0, .ref (aXM a))]) S.1 S.2.1 d_M_beginCycle_38 rfl hl (by decide) rfl (fun ls hl => ?_)
    generalize hb8 : (8 : Nat) = n8
    refine lp_beg S hbud (by omega) (by omega) n8 0 _ H locs ls (by omega) hw hl (fun H locs ls hw => ?_)
    generalize hq_1 : sh_regsN κ (uBeg (uMade (sh_useHalf κ σ 1) (0)) ((sBeg (uMade (sh_useHalf κ σ 1) (0))) + 1)) 0 n8 = q_1 at hw ⊢
    exact cx_retV S hr hlk hw hbud rfl (by subst hq_1; subst hb8; unfold sh_begin; simp only [if_neg c_1]) d_M_beginCycle_70
  · refine lv_iconst (v := 1) S.1 S.2.1 d_M_beginCycle_9 (by decide) ?_
    refine lv_aload_n S.1 S.2.1 d_M_beginCycle_10 rfl (lv_at hl 0 rfl) ?_
    refine cx_get S hw (q0 := 2) (ci := 2) (k := 1) (v := .int (kHalf κ)) (fun _ => rfl) rfl (by decide) inM tb_61 rfl rfl d_M_beginCycle_11 ?_
    refine lv_iadd S.1 S.2.1 d_M_beginCycle_14 ?_
    refine lv_goto (tgt := 19) S.1 S.2.1 d_M_beginCycle_15 (by decide) ?_
    refine cx_call S hw hbud (As := [.int (1 + (kHalf κ))]) (rest := []) (c_M_useHalf l D cI cP a κ np σ (1 + (kHalf κ))) (q0 := 2) (fun _ => rfl) rfl tb_58 tb_55 tb_57 tp_0 tb_3 hd_M_useHalf rfl ⟨by omega, by omega⟩ hl.1 rfl (Nat.le_of_ble_eq_true rfl) d_M_beginCycle_19 (fun H locs hw => ?_)
    refine W.eq (g2 := F0 m 22 ls []) rfl ?_
    refine lv_aload_n S.1 S.2.1 d_M_beginCycle_22 rfl (lv_at hl 0 rfl) ?_
    refine lv_iconst (v := 0) S.1 S.2.1 d_M_beginCycle_23 (by decide) ?_
    refine cx_put S hw (q0 := 2) (ci := 2) (k := 5) (σ' := uMade (sh_useHalf κ σ (1 + (kHalf κ))) (0)) (ty := .int) (fun _ => rfl) rfl (by decide) inM tyM tyM_ok nmM tb_66 rfl rfl rfl rfl rfl (Nat.le_of_ble_eq_true rfl) (fun _ => rfl) rfl rfl d_M_beginCycle_24 (fun H locs hw => ?_)
    refine W.cs (cells' := 2 * (nal (uMade (sh_useHalf κ σ (1 + (kHalf κ))) (0)) - nal σ)) (slots' := 1025 * (nal (uMade (sh_useHalf κ σ (1 + (kHalf κ))) (0)) - nal σ)) rfl rfl ?_
    refine lv_aload_n S.1 S.2.1 d_M_beginCycle_27 rfl (lv_at hl 0 rfl) ?_
    refine lv_dup S.1 S.2.1 d_M_beginCycle_28 rfl ?_
    refine cx_get S hw (q0 := 2) (ci := 2) (k := 6) (v := .int (sBeg (uMade (sh_useHalf κ σ (1 + (kHalf κ))) (0)))) (fun _ => rfl) rfl (by decide) inM tb_68 rfl rfl d_M_beginCycle_29 ?_
    refine lv_iconst (v := 1) S.1 S.2.1 d_M_beginCycle_32 (by decide) ?_
    refine lv_iadd S.1 S.2.1 d_M_beginCycle_33 ?_
    refine cx_put S hw (q0 := 2) (ci := 2) (k := 6) (σ' := uBeg (uMade (sh_useHalf κ σ (1 + (kHalf κ))) (0)) ((sBeg (uMade (sh_useHalf κ σ (1 + (kHalf κ))) (0))) + 1)) (ty := .int) (fun _ => rfl) rfl (by decide) inM tyM tyM_ok nmM tb_68 rfl rfl rfl rfl rfl (Nat.le_of_ble_eq_true rfl) (fun _ => rfl) rfl rfl d_M_beginCycle_34 (fun H locs hw => ?_)
    refine W.cs (cells' := 2 * (nal (uBeg (uMade (sh_useHalf κ σ (1 + (kHalf κ))) (0)) ((sBeg (uMade (sh_useHalf κ σ (1 + (kHalf κ))) (0))) + 1)) - nal σ)) (slots' := 1025 * (nal (uBeg (uMade (sh_useHalf κ σ (1 + (kHalf κ))) (0)) ((sBeg (uMade (sh_useHalf κ σ (1 + (kHalf κ))) (0))) + 1)) - nal σ)) rfl rfl ?_
    refine lv_iconst (v := 0) S.1 S.2.1 d_M_beginCycle_37 (by decide) ?_
    refine lv_istore_n (lv' := [(1, .int 0), (0, .ref (aXM a))]) S.1 S.2.1 d_M_beginCycle_38 rfl hl (by decide) rfl (fun ls hl => ?_)
    generalize hb8 : (8 : Nat) = n8
    refine lp_beg S hbud (by omega) (by omega) n8 0 _ H locs ls (by omega) hw hl (fun H locs ls hw => ?_)
    generalize hq_2 : sh_regsN κ (uBeg (uMade (sh_useHalf κ σ (1 + (kHalf κ))) (0)) ((sBeg (uMade (sh_useHalf κ σ (1 + (kHalf κ))) (0))) + 1)) 0 n8 = q_2 at hw ⊢
    exact cx_retV S hr hlk hw hbud rfl (by subst hq_2; subst hb8; unfold sh_begin; simp only [if_pos c_1]) d_M_beginCycle_70
theorem z_done (κ : sh_K) (σ : sh_S) : sh_done κ σ = 0 ∨ sh_done κ σ = 1 := by unfold sh_done; split; split; exact Or.inl rfl; exact Or.inr rfl; exact Or.inl rfl
set_option maxHeartbeats 4000000 in
set_option maxRecDepth 100000 in
theorem c_M_hasRoom (l : Launch) (D : va_G) (cI cP : ClassId) (a : cx_a) (κ : sh_K) (np : Nat) (σ : sh_S) (n : Int32) : cx_Met l D cI cP a κ np y_M_hasRoom b_M_hasRoom 2 (some .boolean) 5 101 [.ref (aXM a), .int n] σ (some (.int ((sh_room κ σ n).1))) ((sh_room κ σ n).2) := by
  refine cx_start (by decide) (Nat.le_of_ble_eq_true rfl) mo_room ?_
  intro p e R s m args below meth c A ls S hr hlk hfr hlc hw hbud hl
  have hl : lv_has ls 2 [(0, .ref (aXM a)), (1, .int n)] := hl
  refine lv_aload_n S.1 S.2.1 d_M_hasRoom_0 rfl (lv_at hl 0 rfl) ?_
  refine cx_rd S hw (hw.fit hbud) (As := []) (rest := []) (c_M_isDone l D cI cP a κ np σ ) (q0 := 2) (fun _ => rfl) rfl tb_150 tb_147 tb_148 tb_149 tb_3 hd_M_isDone rfl ⟨by omega, by omega⟩ hl.1 rfl (Nat.le_of_ble_eq_true rfl) d_M_hasRoom_1 ?_
  refine lv_if_ne (tgt := 9) S.1 S.2.1 d_M_hasRoom_4 (by decide) (fun c_1 => ?_) (fun c_1 => ?_)
  · refine lv_aload_n S.1 S.2.1 d_M_hasRoom_9 rfl (lv_at hl 0 rfl) ?_
    refine cx_rd S hw (hw.fit hbud) (As := []) (rest := []) (c_M_moved l D cI cP a κ np σ ) (q0 := 2) (fun _ => rfl) rfl tb_154 tb_151 tb_152 tb_153 tb_3 hd_M_moved rfl ⟨by omega, by omega⟩ hl.1 rfl (Nat.le_of_ble_eq_true rfl) d_M_hasRoom_10 ?_
    refine lv_aload_n S.1 S.2.1 d_M_hasRoom_13 rfl (lv_at hl 0 rfl) ?_
    refine cx_get S hw (q0 := 2) (ci := 2) (k := 3) (v := .int (kLim κ)) (fun _ => rfl) rfl (by decide) inM tb_63 rfl rfl d_M_hasRoom_14 ?_
    refine lv_icmp_le (tgt := 22) S.1 S.2.1 d_M_hasRoom_17 (by decide) (fun c_2 => ?_) (fun c_2 => ?_)
    · refine lv_aload_n S.1 S.2.1 d_M_hasRoom_22 rfl (lv_at hl 0 rfl) ?_
      refine cx_rd S hw (hw.fit hbud) (As := []) (rest := []) (c_M_moved l D cI cP a κ np σ ) (q0 := 2) (fun _ => rfl) rfl tb_154 tb_151 tb_152 tb_153 tb_3 hd_M_moved rfl ⟨by omega, by omega⟩ hl.1 rfl (Nat.le_of_ble_eq_true rfl) d_M_hasRoom_23 ?_
      refine lv_aload_n S.1 S.2.1 d_M_hasRoom_26 rfl (lv_at hl 0 rfl) ?_
      refine cx_get S hw (q0 := 2) (ci := 2) (k := 5) (v := .int (sMade σ)) (fun _ => rfl) rfl (by decide) inM tb_66 rfl rfl d_M_hasRoom_27 ?_
      refine lv_iadd S.1 S.2.1 d_M_hasRoom_30 ?_
      refine lv_iload_n S.1 S.2.1 d_M_hasRoom_31 rfl (lv_at hl 1 rfl) ?_
      refine lv_iadd S.1 S.2.1 d_M_hasRoom_32 ?_
      refine lv_aload_n S.1 S.2.1 d_M_hasRoom_33 rfl (lv_at hl 0 rfl) ?_
      refine cx_get S hw (q0 := 2) (ci := 2) (k := 3) (v := .int (kLim κ)) (fun _ => rfl) rfl (by decide) inM tb_63 rfl rfl d_M_hasRoom_34 ?_
      refine lv_icmp_le (tgt := 44) S.1 S.2.1 d_M_hasRoom_37 (by decide) (fun c_3 => ?_) (fun c_3 => ?_)
      · refine lv_iconst (v := 1) S.1 S.2.1 d_M_hasRoom_44 (by decide) ?_
        exact cx_retZ S hr hlk hw hbud (by first | exact absurd c_2 c_1 | exact absurd c_3 c_1 | (unfold sh_room; simp only [if_neg c_1, if_pos c_2, if_pos c_3]; done) | (unfold sh_room; dsimp only; simp only [if_neg c_1, if_pos c_2, if_pos c_3]; done) | (unfold sh_room; simp only [if_neg c_1, if_pos c_2, if_pos c_3, hC_eq, hC_clamp]; try rfl; done)) (Or.inr rfl) (by first | exact absurd c_2 c_1 | exact absurd c_3 c_1 | (unfold sh_room; simp only [if_neg c_1, if_pos c_2, if_pos c_3]; done) | (unfold sh_room; dsimp only; simp only [if_neg c_1, if_pos c_2, if_pos c_3]; done) | (unfold sh_room; simp only [if_neg c_1, if_pos c_2, if_pos c_3, hC_eq, hC_clamp]; try rfl; done)) d_M_hasRoom_45
      · refine lv_aload_n S.1 S.2.1 d_M_hasRoom_40 rfl (lv_at hl 0 rfl) ?_
        refine cx_call S hw hbud (As := []) (rest := []) (c_M_beginCycle l D cI cP a κ np σ ) (q0 := 2) (fun _ => rfl) rfl tb_158 tb_155 tb_157 tp_2 tb_3 hd_M_beginCycle rfl ⟨by omega, by omega⟩ hl.1 rfl (Nat.le_of_ble_eq_true rfl) d_M_hasRoom_41 (fun H locs hw => ?_)
        generalize hq_1 : sh_begin κ σ = q_1 at hw ⊢
        refine W.eq (g2 := F0 m 44 ls []) rfl ?_
        refine lv_iconst (v := 1) S.1 S.2.1 d_M_hasRoom_44 (by decide) ?_
        exact cx_retZ S hr hlk hw hbud (by first | exact absurd c_2 c_1 | exact absurd c_2 c_3 | (unfold sh_room; simp only [if_neg c_1, if_pos c_2, if_neg c_3, hq_1]; done) | (unfold sh_room; dsimp only; simp only [if_neg c_1, if_pos c_2, if_neg c_3, hq_1]; done) | (subst hq_1; unfold sh_room; simp only [if_neg c_1, if_pos c_2, if_neg c_3, hC_eq, hC_clamp]; try rfl; done)) (Or.inr rfl) (by first | exact absurd c_2 c_1 | exact absurd c_2 c_3 | (unfold sh_room; simp only [if_neg c_1, if_pos c_2, if_neg c_3, hq_1]; done) | (unfold sh_room; dsimp only; simp only [if_neg c_1, if_pos c_2, if_neg c_3, hq_1]; done) | (subst hq_1; unfold sh_room; simp only [if_neg c_1, if_pos c_2, if_neg c_3, hC_eq, hC_clamp]; try rfl; done)) d_M_hasRoom_45
    · refine lv_iconst (v := 0) S.1 S.2.1 d_M_hasRoom_20 (by decide) ?_
      exact cx_retZ S hr hlk hw hbud (by first | (unfold sh_room; simp only [if_neg c_1, if_neg c_2]; done) | (unfold sh_room; dsimp only; simp only [if_neg c_1, if_neg c_2]; done) | (unfold sh_room; simp only [if_neg c_1, if_neg c_2, hC_eq, hC_clamp]; try rfl; done)) (Or.inl rfl) (by first | (unfold sh_room; simp only [if_neg c_1, if_neg c_2]; done) | (unfold sh_room; dsimp only; simp only [if_neg c_1, if_neg c_2]; done) | (unfold sh_room; simp only [if_neg c_1, if_neg c_2, hC_eq, hC_clamp]; try rfl; done)) d_M_hasRoom_21
  · refine lv_iconst (v := 1) S.1 S.2.1 d_M_hasRoom_7 (by decide) ?_
    exact cx_retZ S hr hlk hw hbud (by first | (unfold sh_room; simp only [if_pos c_1]; done) | (unfold sh_room; dsimp only; simp only [if_pos c_1]; done) | (unfold sh_room; simp only [if_pos c_1, hC_eq, hC_clamp]; try rfl; done)) (Or.inr rfl) (by first | (unfold sh_room; simp only [if_pos c_1]; done) | (unfold sh_room; dsimp only; simp only [if_pos c_1]; done) | (unfold sh_room; simp only [if_pos c_1, hC_eq, hC_clamp]; try rfl; done)) d_M_hasRoom_8
end
section
/-! ===== Mover.work, place ===== -/
theorem wk0 {B : Int32} {j : Nat} (h : j = B.toNatClampNeg) : B ≤ nI j := by
  rw [Int32.le_iff_toInt_le]
  have h1 : B.toNatClampNeg = B.toInt.toNat := rfl
  have h2 := Int32.toInt_lt B
  rw [nI_toInt (by omega)]
  omega
theorem wk1 {B : Int32} {j : Nat} (h : j < B.toNatClampNeg) : ¬ B ≤ nI j := by
  rw [Int32.le_iff_toInt_le]
  have h1 : B.toNatClampNeg = B.toInt.toNat := rfl
  have h2 := Int32.toInt_lt B
  rw [nI_toInt (by omega)]
  omega
section LPW
variable {p : Program} {l : Launch} {e : Env} {R : Room} {s : State} {m : MethodId} {args : Array Value} {below : List Frame} {meth : Method} {c : Code} {Q : State → Prop} {D : va_G} {cI cP : ClassId} {a : cx_a} {κ : sh_K} {np n0 : Nat} {A : Nat → Prop} {c1 : Cond}
set_option maxHeartbeats 4000000 in
set_option maxRecDepth 100000 in
theorem lp_work (S : CallFix p m c b_M_work 5 s args (c1 :: bt) "StepHeap$Mover") (hbud : 2 * (np - n0) ≤ R.cells ∧ 1025 * (np - n0) ≤ R.slots) (hfr : 4 ≤ R.frames) (hlc : 80 ≤ R.locals) {g : Int32} :
    ∀ (n j : Nat) (τ : sh_S) (H : Heap) (locs : List Loc) (ls : Array Slot), j + n = (kK κ * 16).toNatClampNeg → cx_Wd D cI cP a κ np s A n0 τ H locs → lv_has ls 5 [(2, .int (nI j)), (1, .int g), (0, .ref (aXM a))] →
    (∀ (H' : Heap) (locs' : List Loc) (ls' : Array Slot), cx_Wd D cI cP a κ np s A n0 (sh_workN κ g τ n) H' locs' → W p l e R s m args below meth c H' locs' (2 * (nal (sh_workN κ g τ n) - n0)) (1025 * (nal (sh_workN κ g τ n) - n0)) Q (F0 m 162 ls' [])) →
    W p l e R s m args below meth c H locs (2 * (nal (τ) - n0)) (1025 * (nal (τ) - n0)) Q (F0 m 17 ls []) := by
  intro n
  induction n with
  | zero =>
    intro j τ H locs ls hj hw hl K
    refine lv_iload_n S.1 S.2.1 d_M_work_17 rfl (lv_at hl 0 rfl) ?_
    refine lv_aload_n S.1 S.2.1 d_M_work_18 rfl (lv_at hl 2 rfl) ?_
    refine cx_get S hw (q0 := 2) (ci := 2) (k := 2) (v := .int (kK κ)) (fun _ => rfl) rfl (by decide) inM tb_62 rfl rfl d_M_work_19 ?_
    refine lv_bipush (v := 16) S.1 S.2.1 d_M_work_22 (by decide) ?_
    refine lv_imul S.1 S.2.1 d_M_work_24 ?_
    refine lv_icmp_ge (tgt := 162) S.1 S.2.1 d_M_work_25 (by decide) (fun c_1 => ?_) (fun c_1 => ?_)
    · have c_1n := i32_nlt c_1
      exact K H locs ls hw
    · have c_1n := i32_lt c_1
      exact absurd (wk0 (by omega)) c_1
  | succ n ih =>
    intro j τ H locs ls hj hw hl K
    refine lv_iload_n S.1 S.2.1 d_M_work_17 rfl (lv_at hl 0 rfl) ?_
    refine lv_aload_n S.1 S.2.1 d_M_work_18 rfl (lv_at hl 2 rfl) ?_
    refine cx_get S hw (q0 := 2) (ci := 2) (k := 2) (v := .int (kK κ)) (fun _ => rfl) rfl (by decide) inM tb_62 rfl rfl d_M_work_19 ?_
    refine lv_bipush (v := 16) S.1 S.2.1 d_M_work_22 (by decide) ?_
    refine lv_imul S.1 S.2.1 d_M_work_24 ?_
    refine lv_icmp_ge (tgt := 162) S.1 S.2.1 d_M_work_25 (by decide) (fun c_1 => ?_) (fun c_1 => ?_)
    · have c_1n := i32_nlt c_1
      exact absurd c_1 (wk1 (by omega))
    · have c_1n := i32_lt c_1
      refine lv_aload_n S.1 S.2.1 d_M_work_28 rfl (lv_at hl 2 rfl) ?_
      refine cx_get S hw (q0 := 2) (ci := 2) (k := 10) (v := .int (sScan τ)) (fun _ => rfl) rfl (by decide) inM tb_73 rfl rfl d_M_work_29 ?_
      refine lv_aload_n S.1 S.2.1 d_M_work_32 rfl (lv_at hl 2 rfl) ?_
      refine cx_get S hw (q0 := 2) (ci := 2) (k := 8) (v := .int (sFree τ)) (fun _ => rfl) rfl (by decide) inM tb_71 rfl rfl d_M_work_33 ?_
      refine lv_icmp_ge (tgt := 162) S.1 S.2.1 d_M_work_36 (by decide) (fun c_2 => ?_) (fun c_2 => ?_)
      · have c_2n := i32_nlt c_2
        have eN : sh_workN κ g τ (n + 1) = τ := by rw [sh_workN]; simp only [if_neg c_1, if_pos c_1n, if_pos c_2, if_neg c_2n]
        rw [eN] at K
        exact K H locs ls hw
      · have c_2n := i32_lt c_2
        refine lv_aload_n S.1 S.2.1 d_M_work_39 rfl (lv_at hl 2 rfl) ?_
        refine cx_get S hw (q0 := 2) (ci := 2) (k := 10) (v := .int (sScan τ)) (fun _ => rfl) rfl (by decide) inM tb_73 rfl rfl d_M_work_40 ?_
        refine lv_iload_n S.1 S.2.1 d_M_work_43 rfl (lv_at hl 1 rfl) ?_
        refine lv_icmp_ge (tgt := 162) S.1 S.2.1 d_M_work_44 (by decide) (fun c_3 => ?_) (fun c_3 => ?_)
        · have c_3n := i32_nlt c_3
          have eN : sh_workN κ g τ (n + 1) = τ := by rw [sh_workN]; simp only [if_neg c_1, if_pos c_1n, if_neg c_2, if_pos c_2n, if_pos c_3, if_neg c_3n]
          rw [eN] at K
          exact K H locs ls hw
        · have c_3n := i32_lt c_3
          refine lv_aload_n S.1 S.2.1 d_M_work_47 rfl (lv_at hl 2 rfl) ?_
          refine cx_get S hw (q0 := 2) (ci := 2) (k := 0) (v := .ref (aXC a)) (fun _ => rfl) rfl (by decide) inM tb_59 rfl rfl d_M_work_48 ?_
          refine lv_aload_n S.1 S.2.1 d_M_work_51 rfl (lv_at hl 2 rfl) ?_
          refine cx_get S hw (q0 := 2) (ci := 2) (k := 10) (v := .int (sScan τ)) (fun _ => rfl) rfl (by decide) inM tb_73 rfl rfl d_M_work_52 ?_
          refine cx_call S hw hbud (As := [.int (sScan τ)]) (rest := []) (c_C_read l D cI cP a κ np τ (sScan τ)) (q0 := 1) (fun _ => rfl) rfl tb_170 tb_167 tb_168 tb_169 tb_4 hd_C_read rfl ⟨by omega, by omega⟩ hl.1 rfl (Nat.le_of_ble_eq_true rfl) d_M_work_55 (fun H locs hw => ?_)
          refine W.eq (g2 := F0 m 58 ls [.int (sh_val κ (τ).1 (sScan τ))]) rfl ?_
          refine lv_istore_n (lv' := [(3, .int (sh_val κ (τ).1 (sScan τ))), (2, .int (nI j)), (1, .int g), (0, .ref (aXM a))]) S.1 S.2.1 d_M_work_58 rfl hl (by decide) rfl (fun ls hl => ?_)
          refine lv_aload_n S.1 S.2.1 d_M_work_59 rfl (lv_at hl 3 rfl) ?_
          refine cx_get S hw (q0 := 2) (ci := 2) (k := 10) (v := .int (sScan (uC τ (sh_touch κ (τ).1)))) (fun _ => rfl) rfl (by decide) inM tb_73 rfl rfl d_M_work_60 ?_
          refine lv_aload_n S.1 S.2.1 d_M_work_63 rfl (lv_at hl 3 rfl) ?_
          refine cx_get S hw (q0 := 2) (ci := 2) (k := 12) (v := .int (sNh (uC τ (sh_touch κ (τ).1)))) (fun _ => rfl) rfl (by decide) inM tb_75 rfl rfl d_M_work_64 ?_
          refine lv_icmp_ne (tgt := 101) S.1 S.2.1 d_M_work_67 (by decide) (fun c_4 => ?_) (fun c_4 => ?_)
          · refine lv_aload_n S.1 S.2.1 d_M_work_101 rfl (lv_at hl 3 rfl) ?_
            refine lv_iload_n S.1 S.2.1 d_M_work_102 rfl (lv_at hl 0 rfl) ?_
            refine cx_call S hw hbud (As := [.int (sh_val κ (τ).1 (sScan τ))]) (rest := []) (c_M_placeInUse l D cI cP a κ np (uC τ (sh_touch κ (τ).1)) (sh_val κ (τ).1 (sScan τ))) (q0 := 2) (fun _ => rfl) rfl tb_162 tb_159 tb_161 tp_3 tb_3 hd_M_placeInUse rfl ⟨by omega, by omega⟩ hl.1 rfl (Nat.le_of_ble_eq_true rfl) d_M_work_103 (fun H locs hw => ?_)
            generalize hq_1 : sh_piu κ (uC τ (sh_touch κ (τ).1)) (sh_val κ (τ).1 (sScan τ)) = q_1 at hw ⊢
            refine W.eq (g2 := F0 m 106 ls [.int q_1.1]) rfl ?_
            refine lv_istore (lv' := [(4, .int q_1.1), (3, .int (sh_val κ (τ).1 (sScan τ))), (2, .int (nI j)), (1, .int g), (0, .ref (aXM a))]) S.1 S.2.1 d_M_work_106 hl (by decide) rfl (fun ls hl => ?_)
            refine lv_iload S.1 S.2.1 d_M_work_108 (lv_at hl 0 rfl) ?_
            refine lv_iload_n S.1 S.2.1 d_M_work_110 rfl (lv_at hl 1 rfl) ?_
            refine lv_icmp_eq (tgt := 127) S.1 S.2.1 d_M_work_111 (by decide) (fun c_5 => ?_) (fun c_5 => ?_)
            · refine lv_aload_n S.1 S.2.1 d_M_work_127 rfl (lv_at hl 4 rfl) ?_
              refine lv_dup S.1 S.2.1 d_M_work_128 rfl ?_
              refine cx_get S hw (q0 := 2) (ci := 2) (k := 10) (v := .int (sScan q_1.2)) (fun _ => rfl) rfl (by decide) inM tb_73 rfl rfl d_M_work_129 ?_
              refine lv_iconst (v := 1) S.1 S.2.1 d_M_work_132 (by decide) ?_
              refine lv_iadd S.1 S.2.1 d_M_work_133 ?_
              refine cx_put S hw (q0 := 2) (ci := 2) (k := 10) (σ' := uScan q_1.2 ((sScan q_1.2) + 1)) (ty := .int) (fun _ => rfl) rfl (by decide) inM tyM tyM_ok nmM tb_73 rfl rfl rfl rfl rfl (Nat.le_of_ble_eq_true rfl) (fun _ => rfl) rfl rfl d_M_work_134 (fun H locs hw => ?_)
              refine W.cs (cells' := 2 * (nal (uScan q_1.2 ((sScan q_1.2) + 1)) - n0)) (slots' := 1025 * (nal (uScan q_1.2 ((sScan q_1.2) + 1)) - n0)) rfl rfl ?_
              refine lv_aload_n S.1 S.2.1 d_M_work_137 rfl (lv_at hl 4 rfl) ?_
              refine cx_get S hw (q0 := 2) (ci := 2) (k := 10) (v := .int (sScan (uScan q_1.2 ((sScan q_1.2) + 1)))) (fun _ => rfl) rfl (by decide) inM tb_73 rfl rfl d_M_work_138 ?_
              refine lv_aload_n S.1 S.2.1 d_M_work_141 rfl (lv_at hl 4 rfl) ?_
              refine cx_get S hw (q0 := 2) (ci := 2) (k := 11) (v := .int (sTend (uScan q_1.2 ((sScan q_1.2) + 1)))) (fun _ => rfl) rfl (by decide) inM tb_74 rfl rfl d_M_work_142 ?_
              refine lv_icmp_ne (tgt := 156) S.1 S.2.1 d_M_work_145 (by decide) (fun c_6 => ?_) (fun c_6 => ?_)
              · refine lv_iinc (v := (nI j) + 1) (lv' := [(2, .int ((nI j) + 1)), (4, .int q_1.1), (3, .int (sh_val κ (τ).1 (sScan τ))), (1, .int g), (0, .ref (aXM a))]) S.1 S.2.1 d_M_work_156 hl (k := 2) rfl rfl (by decide) rfl (fun ls hl => ?_)
                refine lv_goto (tgt := 17) S.1 S.2.1 d_M_work_159 (by decide) ?_
                have est : sh_workStep κ τ = uScan q_1.2 ((sScan q_1.2) + 1) := by
                  unfold sh_workStep sh_ws2 sh_ws1
                  simp only [if_neg c_1, if_pos c_1n, if_neg c_2, if_pos c_2n, if_neg c_3, if_pos c_3n, if_neg c_4, hq_1, if_pos c_5]
                  exact if_neg c_6
                have eN : sh_workN κ g τ (n + 1) = sh_workN κ g (uScan q_1.2 ((sScan q_1.2) + 1)) n := by rw [sh_workN, if_pos c_2n, if_pos c_3n, est]
                rw [eN] at K
                rw [nI_1] at hl
                exact ih (j + 1) _ H locs ls (by omega) hw (lv_sub hl [0, 3, 4] rfl) K
              · refine lv_aload_n S.1 S.2.1 d_M_work_148 rfl (lv_at hl 4 rfl) ?_
                refine lv_aload_n S.1 S.2.1 d_M_work_149 rfl (lv_at hl 4 rfl) ?_
                refine cx_get S hw (q0 := 2) (ci := 2) (k := 12) (v := .int (sNh (uScan q_1.2 ((sScan q_1.2) + 1)))) (fun _ => rfl) rfl (by decide) inM tb_75 rfl rfl d_M_work_150 ?_
                refine cx_put S hw (q0 := 2) (ci := 2) (k := 10) (σ' := uScan (uScan q_1.2 ((sScan q_1.2) + 1)) (sNh (uScan q_1.2 ((sScan q_1.2) + 1)))) (ty := .int) (fun _ => rfl) rfl (by decide) inM tyM tyM_ok nmM tb_73 rfl rfl rfl rfl rfl (Nat.le_of_ble_eq_true rfl) (fun _ => rfl) rfl rfl d_M_work_153 (fun H locs hw => ?_)
                refine W.cs (cells' := 2 * (nal (uScan (uScan q_1.2 ((sScan q_1.2) + 1)) (sNh (uScan q_1.2 ((sScan q_1.2) + 1)))) - n0)) (slots' := 1025 * (nal (uScan (uScan q_1.2 ((sScan q_1.2) + 1)) (sNh (uScan q_1.2 ((sScan q_1.2) + 1)))) - n0)) rfl rfl ?_
                refine lv_iinc (v := (nI j) + 1) (lv' := [(2, .int ((nI j) + 1)), (4, .int q_1.1), (3, .int (sh_val κ (τ).1 (sScan τ))), (1, .int g), (0, .ref (aXM a))]) S.1 S.2.1 d_M_work_156 hl (k := 2) rfl rfl (by decide) rfl (fun ls hl => ?_)
                refine lv_goto (tgt := 17) S.1 S.2.1 d_M_work_159 (by decide) ?_
                have est : sh_workStep κ τ = uScan (uScan q_1.2 ((sScan q_1.2) + 1)) (sNh (uScan q_1.2 ((sScan q_1.2) + 1))) := by
                  unfold sh_workStep sh_ws2 sh_ws1
                  simp only [if_neg c_1, if_pos c_1n, if_neg c_2, if_pos c_2n, if_neg c_3, if_pos c_3n, if_neg c_4, hq_1, if_pos c_5]
                  exact if_pos c_6
                have eN : sh_workN κ g τ (n + 1) = sh_workN κ g (uScan (uScan q_1.2 ((sScan q_1.2) + 1)) (sNh (uScan q_1.2 ((sScan q_1.2) + 1)))) n := by rw [sh_workN, if_pos c_2n, if_pos c_3n, est]
                rw [eN] at K
                rw [nI_1] at hl
                exact ih (j + 1) _ H locs ls (by omega) hw (lv_sub hl [0, 3, 4] rfl) K
            · refine lv_aload_n S.1 S.2.1 d_M_work_114 rfl (lv_at hl 4 rfl) ?_
              refine cx_get S hw (q0 := 2) (ci := 2) (k := 0) (v := .ref (aXC a)) (fun _ => rfl) rfl (by decide) inM tb_59 rfl rfl d_M_work_115 ?_
              refine lv_aload_n S.1 S.2.1 d_M_work_118 rfl (lv_at hl 4 rfl) ?_
              refine cx_get S hw (q0 := 2) (ci := 2) (k := 10) (v := .int (sScan q_1.2)) (fun _ => rfl) rfl (by decide) inM tb_73 rfl rfl d_M_work_119 ?_
              refine lv_iload S.1 S.2.1 d_M_work_122 (lv_at hl 0 rfl) ?_
              refine cx_call S hw hbud (As := [.int (sScan q_1.2), .int q_1.1]) (rest := []) (c_C_write l D cI cP a κ np q_1.2 (sScan q_1.2) q_1.1) (q0 := 1) (fun _ => rfl) rfl tb_179 tb_176 tb_177 tb_178 tb_4 hd_C_write rfl ⟨by omega, by omega⟩ hl.1 rfl (Nat.le_of_ble_eq_true rfl) d_M_work_124 (fun H locs hw => ?_)
              generalize hq_2 : sh_write κ (q_1.2).1 (sScan q_1.2) q_1.1 = q_2 at hw ⊢
              refine W.eq (g2 := F0 m 127 ls []) rfl ?_
              refine lv_aload_n S.1 S.2.1 d_M_work_127 rfl (lv_at hl 4 rfl) ?_
              refine lv_dup S.1 S.2.1 d_M_work_128 rfl ?_
              refine cx_get S hw (q0 := 2) (ci := 2) (k := 10) (v := .int (sScan (uC q_1.2 q_2))) (fun _ => rfl) rfl (by decide) inM tb_73 rfl rfl d_M_work_129 ?_
              refine lv_iconst (v := 1) S.1 S.2.1 d_M_work_132 (by decide) ?_
              refine lv_iadd S.1 S.2.1 d_M_work_133 ?_
              refine cx_put S hw (q0 := 2) (ci := 2) (k := 10) (σ' := uScan (uC q_1.2 q_2) ((sScan (uC q_1.2 q_2)) + 1)) (ty := .int) (fun _ => rfl) rfl (by decide) inM tyM tyM_ok nmM tb_73 rfl rfl rfl rfl rfl (Nat.le_of_ble_eq_true rfl) (fun _ => rfl) rfl rfl d_M_work_134 (fun H locs hw => ?_)
              refine W.cs (cells' := 2 * (nal (uScan (uC q_1.2 q_2) ((sScan (uC q_1.2 q_2)) + 1)) - n0)) (slots' := 1025 * (nal (uScan (uC q_1.2 q_2) ((sScan (uC q_1.2 q_2)) + 1)) - n0)) rfl rfl ?_
              refine lv_aload_n S.1 S.2.1 d_M_work_137 rfl (lv_at hl 4 rfl) ?_
              refine cx_get S hw (q0 := 2) (ci := 2) (k := 10) (v := .int (sScan (uScan (uC q_1.2 q_2) ((sScan (uC q_1.2 q_2)) + 1)))) (fun _ => rfl) rfl (by decide) inM tb_73 rfl rfl d_M_work_138 ?_
              refine lv_aload_n S.1 S.2.1 d_M_work_141 rfl (lv_at hl 4 rfl) ?_
              refine cx_get S hw (q0 := 2) (ci := 2) (k := 11) (v := .int (sTend (uScan (uC q_1.2 q_2) ((sScan (uC q_1.2 q_2)) + 1)))) (fun _ => rfl) rfl (by decide) inM tb_74 rfl rfl d_M_work_142 ?_
              refine lv_icmp_ne (tgt := 156) S.1 S.2.1 d_M_work_145 (by decide) (fun c_7 => ?_) (fun c_7 => ?_)
              · refine lv_iinc (v := (nI j) + 1) (lv' := [(2, .int ((nI j) + 1)), (4, .int q_1.1), (3, .int (sh_val κ (τ).1 (sScan τ))), (1, .int g), (0, .ref (aXM a))]) S.1 S.2.1 d_M_work_156 hl (k := 2) rfl rfl (by decide) rfl (fun ls hl => ?_)
                refine lv_goto (tgt := 17) S.1 S.2.1 d_M_work_159 (by decide) ?_
                have est : sh_workStep κ τ = uScan (uC q_1.2 q_2) ((sScan (uC q_1.2 q_2)) + 1) := by
                  unfold sh_workStep sh_ws2 sh_ws1
                  simp only [if_neg c_1, if_pos c_1n, if_neg c_2, if_pos c_2n, if_neg c_3, if_pos c_3n, if_neg c_4, hq_1, if_neg c_5, hq_2]
                  exact if_neg c_7
                have eN : sh_workN κ g τ (n + 1) = sh_workN κ g (uScan (uC q_1.2 q_2) ((sScan (uC q_1.2 q_2)) + 1)) n := by rw [sh_workN, if_pos c_2n, if_pos c_3n, est]
                rw [eN] at K
                rw [nI_1] at hl
                exact ih (j + 1) _ H locs ls (by omega) hw (lv_sub hl [0, 3, 4] rfl) K
              · refine lv_aload_n S.1 S.2.1 d_M_work_148 rfl (lv_at hl 4 rfl) ?_
                refine lv_aload_n S.1 S.2.1 d_M_work_149 rfl (lv_at hl 4 rfl) ?_
                refine cx_get S hw (q0 := 2) (ci := 2) (k := 12) (v := .int (sNh (uScan (uC q_1.2 q_2) ((sScan (uC q_1.2 q_2)) + 1)))) (fun _ => rfl) rfl (by decide) inM tb_75 rfl rfl d_M_work_150 ?_
                refine cx_put S hw (q0 := 2) (ci := 2) (k := 10) (σ' := uScan (uScan (uC q_1.2 q_2) ((sScan (uC q_1.2 q_2)) + 1)) (sNh (uScan (uC q_1.2 q_2) ((sScan (uC q_1.2 q_2)) + 1)))) (ty := .int) (fun _ => rfl) rfl (by decide) inM tyM tyM_ok nmM tb_73 rfl rfl rfl rfl rfl (Nat.le_of_ble_eq_true rfl) (fun _ => rfl) rfl rfl d_M_work_153 (fun H locs hw => ?_)
                refine W.cs (cells' := 2 * (nal (uScan (uScan (uC q_1.2 q_2) ((sScan (uC q_1.2 q_2)) + 1)) (sNh (uScan (uC q_1.2 q_2) ((sScan (uC q_1.2 q_2)) + 1)))) - n0)) (slots' := 1025 * (nal (uScan (uScan (uC q_1.2 q_2) ((sScan (uC q_1.2 q_2)) + 1)) (sNh (uScan (uC q_1.2 q_2) ((sScan (uC q_1.2 q_2)) + 1)))) - n0)) rfl rfl ?_
                refine lv_iinc (v := (nI j) + 1) (lv' := [(2, .int ((nI j) + 1)), (4, .int q_1.1), (3, .int (sh_val κ (τ).1 (sScan τ))), (1, .int g), (0, .ref (aXM a))]) S.1 S.2.1 d_M_work_156 hl (k := 2) rfl rfl (by decide) rfl (fun ls hl => ?_)
                refine lv_goto (tgt := 17) S.1 S.2.1 d_M_work_159 (by decide) ?_
                have est : sh_workStep κ τ = uScan (uScan (uC q_1.2 q_2) ((sScan (uC q_1.2 q_2)) + 1)) (sNh (uScan (uC q_1.2 q_2) ((sScan (uC q_1.2 q_2)) + 1))) := by
                  unfold sh_workStep sh_ws2 sh_ws1
                  simp only [if_neg c_1, if_pos c_1n, if_neg c_2, if_pos c_2n, if_neg c_3, if_pos c_3n, if_neg c_4, hq_1, if_neg c_5, hq_2]
                  exact if_pos c_7
                have eN : sh_workN κ g τ (n + 1) = sh_workN κ g (uScan (uScan (uC q_1.2 q_2) ((sScan (uC q_1.2 q_2)) + 1)) (sNh (uScan (uC q_1.2 q_2) ((sScan (uC q_1.2 q_2)) + 1)))) n := by rw [sh_workN, if_pos c_2n, if_pos c_3n, est]
                rw [eN] at K
                rw [nI_1] at hl
                exact ih (j + 1) _ H locs ls (by omega) hw (lv_sub hl [0, 3, 4] rfl) K
          · refine lv_aload_n S.1 S.2.1 d_M_work_70 rfl (lv_at hl 3 rfl) ?_
            refine lv_aload_n S.1 S.2.1 d_M_work_71 rfl (lv_at hl 3 rfl) ?_
            refine cx_get S hw (q0 := 2) (ci := 2) (k := 10) (v := .int (sScan (uC τ (sh_touch κ (τ).1)))) (fun _ => rfl) rfl (by decide) inM tb_73 rfl rfl d_M_work_72 ?_
            refine lv_iconst (v := 1) S.1 S.2.1 d_M_work_75 (by decide) ?_
            refine lv_iadd S.1 S.2.1 d_M_work_76 ?_
            refine lv_iload_n S.1 S.2.1 d_M_work_77 rfl (lv_at hl 0 rfl) ?_
            refine cx_fn S (As := [.int (sh_val κ (τ).1 (sScan τ))]) (rest := [.int ((sScan (uC τ (sh_touch κ (τ).1))) + 1), .ref (aXM a)]) (c_H_traced l (sh_val κ (τ).1 (sScan τ))) tb_139 tb_198 tb_138 tb_6 hdf_H_traced rfl ⟨by omega, by omega⟩ hl.1 rfl (Nat.le_of_ble_eq_true rfl) d_M_work_78 (hw.fit hbud) ?_
            refine lv_iadd S.1 S.2.1 d_M_work_81 ?_
            refine cx_put S hw (q0 := 2) (ci := 2) (k := 11) (σ' := uTend (uC τ (sh_touch κ (τ).1)) (((sScan (uC τ (sh_touch κ (τ).1))) + 1) + (hd_traced (sh_val κ (τ).1 (sScan τ))))) (ty := .int) (fun _ => rfl) rfl (by decide) inM tyM tyM_ok nmM tb_74 rfl rfl rfl rfl rfl (Nat.le_of_ble_eq_true rfl) (fun _ => rfl) rfl rfl d_M_work_82 (fun H locs hw => ?_)
            refine W.cs (cells' := 2 * (nal (uTend (uC τ (sh_touch κ (τ).1)) (((sScan (uC τ (sh_touch κ (τ).1))) + 1) + (hd_traced (sh_val κ (τ).1 (sScan τ))))) - n0)) (slots' := 1025 * (nal (uTend (uC τ (sh_touch κ (τ).1)) (((sScan (uC τ (sh_touch κ (τ).1))) + 1) + (hd_traced (sh_val κ (τ).1 (sScan τ))))) - n0)) rfl rfl ?_
            refine lv_aload_n S.1 S.2.1 d_M_work_85 rfl (lv_at hl 3 rfl) ?_
            refine lv_aload_n S.1 S.2.1 d_M_work_86 rfl (lv_at hl 3 rfl) ?_
            refine cx_get S hw (q0 := 2) (ci := 2) (k := 10) (v := .int (sScan (uTend (uC τ (sh_touch κ (τ).1)) (((sScan (uC τ (sh_touch κ (τ).1))) + 1) + (hd_traced (sh_val κ (τ).1 (sScan τ))))))) (fun _ => rfl) rfl (by decide) inM tb_73 rfl rfl d_M_work_87 ?_
            refine lv_iload_n S.1 S.2.1 d_M_work_90 rfl (lv_at hl 0 rfl) ?_
            refine cx_fn S (As := [.int (sh_val κ (τ).1 (sScan τ))]) (rest := [.int (sScan (uTend (uC τ (sh_touch κ (τ).1)) (((sScan (uC τ (sh_touch κ (τ).1))) + 1) + (hd_traced (sh_val κ (τ).1 (sScan τ)))))), .ref (aXM a)]) (c_H_cells l (sh_val κ (τ).1 (sScan τ))) tb_136 tb_175 tb_135 tb_6 hdf_H_cells rfl ⟨by omega, by omega⟩ hl.1 rfl (Nat.le_of_ble_eq_true rfl) d_M_work_91 (hw.fit hbud) ?_
            refine lv_iadd S.1 S.2.1 d_M_work_94 ?_
            refine cx_put S hw (q0 := 2) (ci := 2) (k := 12) (σ' := uNh (uTend (uC τ (sh_touch κ (τ).1)) (((sScan (uC τ (sh_touch κ (τ).1))) + 1) + (hd_traced (sh_val κ (τ).1 (sScan τ))))) ((sScan (uTend (uC τ (sh_touch κ (τ).1)) (((sScan (uC τ (sh_touch κ (τ).1))) + 1) + (hd_traced (sh_val κ (τ).1 (sScan τ)))))) + (hd_cells (sh_val κ (τ).1 (sScan τ))))) (ty := .int) (fun _ => rfl) rfl (by decide) inM tyM tyM_ok nmM tb_75 rfl rfl rfl rfl rfl (Nat.le_of_ble_eq_true rfl) (fun _ => rfl) rfl rfl d_M_work_95 (fun H locs hw => ?_)
            refine W.cs (cells' := 2 * (nal (uNh (uTend (uC τ (sh_touch κ (τ).1)) (((sScan (uC τ (sh_touch κ (τ).1))) + 1) + (hd_traced (sh_val κ (τ).1 (sScan τ))))) ((sScan (uTend (uC τ (sh_touch κ (τ).1)) (((sScan (uC τ (sh_touch κ (τ).1))) + 1) + (hd_traced (sh_val κ (τ).1 (sScan τ)))))) + (hd_cells (sh_val κ (τ).1 (sScan τ))))) - n0)) (slots' := 1025 * (nal (uNh (uTend (uC τ (sh_touch κ (τ).1)) (((sScan (uC τ (sh_touch κ (τ).1))) + 1) + (hd_traced (sh_val κ (τ).1 (sScan τ))))) ((sScan (uTend (uC τ (sh_touch κ (τ).1)) (((sScan (uC τ (sh_touch κ (τ).1))) + 1) + (hd_traced (sh_val κ (τ).1 (sScan τ)))))) + (hd_cells (sh_val κ (τ).1 (sScan τ))))) - n0)) rfl rfl ?_
            refine lv_goto (tgt := 127) S.1 S.2.1 d_M_work_98 (by decide) ?_
            refine lv_aload_n S.1 S.2.1 d_M_work_127 rfl (lv_at hl 3 rfl) ?_
            refine lv_dup S.1 S.2.1 d_M_work_128 rfl ?_
            refine cx_get S hw (q0 := 2) (ci := 2) (k := 10) (v := .int (sScan (uNh (uTend (uC τ (sh_touch κ (τ).1)) (((sScan (uC τ (sh_touch κ (τ).1))) + 1) + (hd_traced (sh_val κ (τ).1 (sScan τ))))) ((sScan (uTend (uC τ (sh_touch κ (τ).1)) (((sScan (uC τ (sh_touch κ (τ).1))) + 1) + (hd_traced (sh_val κ (τ).1 (sScan τ)))))) + (hd_cells (sh_val κ (τ).1 (sScan τ))))))) (fun _ => rfl) rfl (by decide) inM tb_73 rfl rfl d_M_work_129 ?_
            refine lv_iconst (v := 1) S.1 S.2.1 d_M_work_132 (by decide) ?_
            refine lv_iadd S.1 S.2.1 d_M_work_133 ?_
            refine cx_put S hw (q0 := 2) (ci := 2) (k := 10) (σ' := uScan (uNh (uTend (uC τ (sh_touch κ (τ).1)) (((sScan (uC τ (sh_touch κ (τ).1))) + 1) + (hd_traced (sh_val κ (τ).1 (sScan τ))))) ((sScan (uTend (uC τ (sh_touch κ (τ).1)) (((sScan (uC τ (sh_touch κ (τ).1))) + 1) + (hd_traced (sh_val κ (τ).1 (sScan τ)))))) + (hd_cells (sh_val κ (τ).1 (sScan τ))))) ((sScan (uNh (uTend (uC τ (sh_touch κ (τ).1)) (((sScan (uC τ (sh_touch κ (τ).1))) + 1) + (hd_traced (sh_val κ (τ).1 (sScan τ))))) ((sScan (uTend (uC τ (sh_touch κ (τ).1)) (((sScan (uC τ (sh_touch κ (τ).1))) + 1) + (hd_traced (sh_val κ (τ).1 (sScan τ)))))) + (hd_cells (sh_val κ (τ).1 (sScan τ)))))) + 1)) (ty := .int) (fun _ => rfl) rfl (by decide) inM tyM tyM_ok nmM tb_73 rfl rfl rfl rfl rfl (Nat.le_of_ble_eq_true rfl) (fun _ => rfl) rfl rfl d_M_work_134 (fun H locs hw => ?_)
            refine W.cs (cells' := 2 * (nal (uScan (uNh (uTend (uC τ (sh_touch κ (τ).1)) (((sScan (uC τ (sh_touch κ (τ).1))) + 1) + (hd_traced (sh_val κ (τ).1 (sScan τ))))) ((sScan (uTend (uC τ (sh_touch κ (τ).1)) (((sScan (uC τ (sh_touch κ (τ).1))) + 1) + (hd_traced (sh_val κ (τ).1 (sScan τ)))))) + (hd_cells (sh_val κ (τ).1 (sScan τ))))) ((sScan (uNh (uTend (uC τ (sh_touch κ (τ).1)) (((sScan (uC τ (sh_touch κ (τ).1))) + 1) + (hd_traced (sh_val κ (τ).1 (sScan τ))))) ((sScan (uTend (uC τ (sh_touch κ (τ).1)) (((sScan (uC τ (sh_touch κ (τ).1))) + 1) + (hd_traced (sh_val κ (τ).1 (sScan τ)))))) + (hd_cells (sh_val κ (τ).1 (sScan τ)))))) + 1)) - n0)) (slots' := 1025 * (nal (uScan (uNh (uTend (uC τ (sh_touch κ (τ).1)) (((sScan (uC τ (sh_touch κ (τ).1))) + 1) + (hd_traced (sh_val κ (τ).1 (sScan τ))))) ((sScan (uTend (uC τ (sh_touch κ (τ).1)) (((sScan (uC τ (sh_touch κ (τ).1))) + 1) + (hd_traced (sh_val κ (τ).1 (sScan τ)))))) + (hd_cells (sh_val κ (τ).1 (sScan τ))))) ((sScan (uNh (uTend (uC τ (sh_touch κ (τ).1)) (((sScan (uC τ (sh_touch κ (τ).1))) + 1) + (hd_traced (sh_val κ (τ).1 (sScan τ))))) ((sScan (uTend (uC τ (sh_touch κ (τ).1)) (((sScan (uC τ (sh_touch κ (τ).1))) + 1) + (hd_traced (sh_val κ (τ).1 (sScan τ)))))) + (hd_cells (sh_val κ (τ).1 (sScan τ)))))) + 1)) - n0)) rfl rfl ?_
            refine lv_aload_n S.1 S.2.1 d_M_work_137 rfl (lv_at hl 3 rfl) ?_
            refine cx_get S hw (q0 := 2) (ci := 2) (k := 10) (v := .int (sScan (uScan (uNh (uTend (uC τ (sh_touch κ (τ).1)) (((sScan (uC τ (sh_touch κ (τ).1))) + 1) + (hd_traced (sh_val κ (τ).1 (sScan τ))))) ((sScan (uTend (uC τ (sh_touch κ (τ).1)) (((sScan (uC τ (sh_touch κ (τ).1))) + 1) + (hd_traced (sh_val κ (τ).1 (sScan τ)))))) + (hd_cells (sh_val κ (τ).1 (sScan τ))))) ((sScan (uNh (uTend (uC τ (sh_touch κ (τ).1)) (((sScan (uC τ (sh_touch κ (τ).1))) + 1) + (hd_traced (sh_val κ (τ).1 (sScan τ))))) ((sScan (uTend (uC τ (sh_touch κ (τ).1)) (((sScan (uC τ (sh_touch κ (τ).1))) + 1) + (hd_traced (sh_val κ (τ).1 (sScan τ)))))) + (hd_cells (sh_val κ (τ).1 (sScan τ)))))) + 1)))) (fun _ => rfl) rfl (by decide) inM tb_73 rfl rfl d_M_work_138 ?_
            refine lv_aload_n S.1 S.2.1 d_M_work_141 rfl (lv_at hl 3 rfl) ?_
            refine cx_get S hw (q0 := 2) (ci := 2) (k := 11) (v := .int (sTend (uScan (uNh (uTend (uC τ (sh_touch κ (τ).1)) (((sScan (uC τ (sh_touch κ (τ).1))) + 1) + (hd_traced (sh_val κ (τ).1 (sScan τ))))) ((sScan (uTend (uC τ (sh_touch κ (τ).1)) (((sScan (uC τ (sh_touch κ (τ).1))) + 1) + (hd_traced (sh_val κ (τ).1 (sScan τ)))))) + (hd_cells (sh_val κ (τ).1 (sScan τ))))) ((sScan (uNh (uTend (uC τ (sh_touch κ (τ).1)) (((sScan (uC τ (sh_touch κ (τ).1))) + 1) + (hd_traced (sh_val κ (τ).1 (sScan τ))))) ((sScan (uTend (uC τ (sh_touch κ (τ).1)) (((sScan (uC τ (sh_touch κ (τ).1))) + 1) + (hd_traced (sh_val κ (τ).1 (sScan τ)))))) + (hd_cells (sh_val κ (τ).1 (sScan τ)))))) + 1)))) (fun _ => rfl) rfl (by decide) inM tb_74 rfl rfl d_M_work_142 ?_
            refine lv_icmp_ne (tgt := 156) S.1 S.2.1 d_M_work_145 (by decide) (fun c_8 => ?_) (fun c_8 => ?_)
            · refine lv_iinc (v := (nI j) + 1) (lv' := [(2, .int ((nI j) + 1)), (3, .int (sh_val κ (τ).1 (sScan τ))), (1, .int g), (0, .ref (aXM a))]) S.1 S.2.1 d_M_work_156 hl (k := 1) rfl rfl (by decide) rfl (fun ls hl => ?_)
              refine lv_goto (tgt := 17) S.1 S.2.1 d_M_work_159 (by decide) ?_
              have est : sh_workStep κ τ = uScan (uNh (uTend (uC τ (sh_touch κ (τ).1)) (((sScan (uC τ (sh_touch κ (τ).1))) + 1) + (hd_traced (sh_val κ (τ).1 (sScan τ))))) ((sScan (uTend (uC τ (sh_touch κ (τ).1)) (((sScan (uC τ (sh_touch κ (τ).1))) + 1) + (hd_traced (sh_val κ (τ).1 (sScan τ)))))) + (hd_cells (sh_val κ (τ).1 (sScan τ))))) ((sScan (uNh (uTend (uC τ (sh_touch κ (τ).1)) (((sScan (uC τ (sh_touch κ (τ).1))) + 1) + (hd_traced (sh_val κ (τ).1 (sScan τ))))) ((sScan (uTend (uC τ (sh_touch κ (τ).1)) (((sScan (uC τ (sh_touch κ (τ).1))) + 1) + (hd_traced (sh_val κ (τ).1 (sScan τ)))))) + (hd_cells (sh_val κ (τ).1 (sScan τ)))))) + 1) := by
                unfold sh_workStep sh_ws2 sh_ws1
                simp only [if_neg c_1, if_pos c_1n, if_neg c_2, if_pos c_2n, if_neg c_3, if_pos c_3n, if_pos c_4]
                exact if_neg c_8
              have eN : sh_workN κ g τ (n + 1) = sh_workN κ g (uScan (uNh (uTend (uC τ (sh_touch κ (τ).1)) (((sScan (uC τ (sh_touch κ (τ).1))) + 1) + (hd_traced (sh_val κ (τ).1 (sScan τ))))) ((sScan (uTend (uC τ (sh_touch κ (τ).1)) (((sScan (uC τ (sh_touch κ (τ).1))) + 1) + (hd_traced (sh_val κ (τ).1 (sScan τ)))))) + (hd_cells (sh_val κ (τ).1 (sScan τ))))) ((sScan (uNh (uTend (uC τ (sh_touch κ (τ).1)) (((sScan (uC τ (sh_touch κ (τ).1))) + 1) + (hd_traced (sh_val κ (τ).1 (sScan τ))))) ((sScan (uTend (uC τ (sh_touch κ (τ).1)) (((sScan (uC τ (sh_touch κ (τ).1))) + 1) + (hd_traced (sh_val κ (τ).1 (sScan τ)))))) + (hd_cells (sh_val κ (τ).1 (sScan τ)))))) + 1)) n := by rw [sh_workN, if_pos c_2n, if_pos c_3n, est]
              rw [eN] at K
              rw [nI_1] at hl
              exact ih (j + 1) _ H locs ls (by omega) hw (lv_sub hl [0, 2, 3] rfl) K
            · refine lv_aload_n S.1 S.2.1 d_M_work_148 rfl (lv_at hl 3 rfl) ?_
              refine lv_aload_n S.1 S.2.1 d_M_work_149 rfl (lv_at hl 3 rfl) ?_
              refine cx_get S hw (q0 := 2) (ci := 2) (k := 12) (v := .int (sNh (uScan (uNh (uTend (uC τ (sh_touch κ (τ).1)) (((sScan (uC τ (sh_touch κ (τ).1))) + 1) + (hd_traced (sh_val κ (τ).1 (sScan τ))))) ((sScan (uTend (uC τ (sh_touch κ (τ).1)) (((sScan (uC τ (sh_touch κ (τ).1))) + 1) + (hd_traced (sh_val κ (τ).1 (sScan τ)))))) + (hd_cells (sh_val κ (τ).1 (sScan τ))))) ((sScan (uNh (uTend (uC τ (sh_touch κ (τ).1)) (((sScan (uC τ (sh_touch κ (τ).1))) + 1) + (hd_traced (sh_val κ (τ).1 (sScan τ))))) ((sScan (uTend (uC τ (sh_touch κ (τ).1)) (((sScan (uC τ (sh_touch κ (τ).1))) + 1) + (hd_traced (sh_val κ (τ).1 (sScan τ)))))) + (hd_cells (sh_val κ (τ).1 (sScan τ)))))) + 1)))) (fun _ => rfl) rfl (by decide) inM tb_75 rfl rfl d_M_work_150 ?_
              refine cx_put S hw (q0 := 2) (ci := 2) (k := 10) (σ' := uScan (uScan (uNh (uTend (uC τ (sh_touch κ (τ).1)) (((sScan (uC τ (sh_touch κ (τ).1))) + 1) + (hd_traced (sh_val κ (τ).1 (sScan τ))))) ((sScan (uTend (uC τ (sh_touch κ (τ).1)) (((sScan (uC τ (sh_touch κ (τ).1))) + 1) + (hd_traced (sh_val κ (τ).1 (sScan τ)))))) + (hd_cells (sh_val κ (τ).1 (sScan τ))))) ((sScan (uNh (uTend (uC τ (sh_touch κ (τ).1)) (((sScan (uC τ (sh_touch κ (τ).1))) + 1) + (hd_traced (sh_val κ (τ).1 (sScan τ))))) ((sScan (uTend (uC τ (sh_touch κ (τ).1)) (((sScan (uC τ (sh_touch κ (τ).1))) + 1) + (hd_traced (sh_val κ (τ).1 (sScan τ)))))) + (hd_cells (sh_val κ (τ).1 (sScan τ)))))) + 1)) (sNh (uScan (uNh (uTend (uC τ (sh_touch κ (τ).1)) (((sScan (uC τ (sh_touch κ (τ).1))) + 1) + (hd_traced (sh_val κ (τ).1 (sScan τ))))) ((sScan (uTend (uC τ (sh_touch κ (τ).1)) (((sScan (uC τ (sh_touch κ (τ).1))) + 1) + (hd_traced (sh_val κ (τ).1 (sScan τ)))))) + (hd_cells (sh_val κ (τ).1 (sScan τ))))) ((sScan (uNh (uTend (uC τ (sh_touch κ (τ).1)) (((sScan (uC τ (sh_touch κ (τ).1))) + 1) + (hd_traced (sh_val κ (τ).1 (sScan τ))))) ((sScan (uTend (uC τ (sh_touch κ (τ).1)) (((sScan (uC τ (sh_touch κ (τ).1))) + 1) + (hd_traced (sh_val κ (τ).1 (sScan τ)))))) + (hd_cells (sh_val κ (τ).1 (sScan τ)))))) + 1)))) (ty := .int) (fun _ => rfl) rfl (by decide) inM tyM tyM_ok nmM tb_73 rfl rfl rfl rfl rfl (Nat.le_of_ble_eq_true rfl) (fun _ => rfl) rfl rfl d_M_work_153 (fun H locs hw => ?_)
              refine W.cs (cells' := 2 * (nal (uScan (uScan (uNh (uTend (uC τ (sh_touch κ (τ).1)) (((sScan (uC τ (sh_touch κ (τ).1))) + 1) + (hd_traced (sh_val κ (τ).1 (sScan τ))))) ((sScan (uTend (uC τ (sh_touch κ (τ).1)) (((sScan (uC τ (sh_touch κ (τ).1))) + 1) + (hd_traced (sh_val κ (τ).1 (sScan τ)))))) + (hd_cells (sh_val κ (τ).1 (sScan τ))))) ((sScan (uNh (uTend (uC τ (sh_touch κ (τ).1)) (((sScan (uC τ (sh_touch κ (τ).1))) + 1) + (hd_traced (sh_val κ (τ).1 (sScan τ))))) ((sScan (uTend (uC τ (sh_touch κ (τ).1)) (((sScan (uC τ (sh_touch κ (τ).1))) + 1) + (hd_traced (sh_val κ (τ).1 (sScan τ)))))) + (hd_cells (sh_val κ (τ).1 (sScan τ)))))) + 1)) (sNh (uScan (uNh (uTend (uC τ (sh_touch κ (τ).1)) (((sScan (uC τ (sh_touch κ (τ).1))) + 1) + (hd_traced (sh_val κ (τ).1 (sScan τ))))) ((sScan (uTend (uC τ (sh_touch κ (τ).1)) (((sScan (uC τ (sh_touch κ (τ).1))) + 1) + (hd_traced (sh_val κ (τ).1 (sScan τ)))))) + (hd_cells (sh_val κ (τ).1 (sScan τ))))) ((sScan (uNh (uTend (uC τ (sh_touch κ (τ).1)) (((sScan (uC τ (sh_touch κ (τ).1))) + 1) + (hd_traced (sh_val κ (τ).1 (sScan τ))))) ((sScan (uTend (uC τ (sh_touch κ (τ).1)) (((sScan (uC τ (sh_touch κ (τ).1))) + 1) + (hd_traced (sh_val κ (τ).1 (sScan τ)))))) + (hd_cells (sh_val κ (τ).1 (sScan τ)))))) + 1)))) - n0)) (slots' := 1025 * (nal (uScan (uScan (uNh (uTend (uC τ (sh_touch κ (τ).1)) (((sScan (uC τ (sh_touch κ (τ).1))) + 1) + (hd_traced (sh_val κ (τ).1 (sScan τ))))) ((sScan (uTend (uC τ (sh_touch κ (τ).1)) (((sScan (uC τ (sh_touch κ (τ).1))) + 1) + (hd_traced (sh_val κ (τ).1 (sScan τ)))))) + (hd_cells (sh_val κ (τ).1 (sScan τ))))) ((sScan (uNh (uTend (uC τ (sh_touch κ (τ).1)) (((sScan (uC τ (sh_touch κ (τ).1))) + 1) + (hd_traced (sh_val κ (τ).1 (sScan τ))))) ((sScan (uTend (uC τ (sh_touch κ (τ).1)) (((sScan (uC τ (sh_touch κ (τ).1))) + 1) + (hd_traced (sh_val κ (τ).1 (sScan τ)))))) + (hd_cells (sh_val κ (τ).1 (sScan τ)))))) + 1)) (sNh (uScan (uNh (uTend (uC τ (sh_touch κ (τ).1)) (((sScan (uC τ (sh_touch κ (τ).1))) + 1) + (hd_traced (sh_val κ (τ).1 (sScan τ))))) ((sScan (uTend (uC τ (sh_touch κ (τ).1)) (((sScan (uC τ (sh_touch κ (τ).1))) + 1) + (hd_traced (sh_val κ (τ).1 (sScan τ)))))) + (hd_cells (sh_val κ (τ).1 (sScan τ))))) ((sScan (uNh (uTend (uC τ (sh_touch κ (τ).1)) (((sScan (uC τ (sh_touch κ (τ).1))) + 1) + (hd_traced (sh_val κ (τ).1 (sScan τ))))) ((sScan (uTend (uC τ (sh_touch κ (τ).1)) (((sScan (uC τ (sh_touch κ (τ).1))) + 1) + (hd_traced (sh_val κ (τ).1 (sScan τ)))))) + (hd_cells (sh_val κ (τ).1 (sScan τ)))))) + 1)))) - n0)) rfl rfl ?_
              refine lv_iinc (v := (nI j) + 1) (lv' := [(2, .int ((nI j) + 1)), (3, .int (sh_val κ (τ).1 (sScan τ))), (1, .int g), (0, .ref (aXM a))]) S.1 S.2.1 d_M_work_156 hl (k := 1) rfl rfl (by decide) rfl (fun ls hl => ?_)
              refine lv_goto (tgt := 17) S.1 S.2.1 d_M_work_159 (by decide) ?_
              have est : sh_workStep κ τ = uScan (uScan (uNh (uTend (uC τ (sh_touch κ (τ).1)) (((sScan (uC τ (sh_touch κ (τ).1))) + 1) + (hd_traced (sh_val κ (τ).1 (sScan τ))))) ((sScan (uTend (uC τ (sh_touch κ (τ).1)) (((sScan (uC τ (sh_touch κ (τ).1))) + 1) + (hd_traced (sh_val κ (τ).1 (sScan τ)))))) + (hd_cells (sh_val κ (τ).1 (sScan τ))))) ((sScan (uNh (uTend (uC τ (sh_touch κ (τ).1)) (((sScan (uC τ (sh_touch κ (τ).1))) + 1) + (hd_traced (sh_val κ (τ).1 (sScan τ))))) ((sScan (uTend (uC τ (sh_touch κ (τ).1)) (((sScan (uC τ (sh_touch κ (τ).1))) + 1) + (hd_traced (sh_val κ (τ).1 (sScan τ)))))) + (hd_cells (sh_val κ (τ).1 (sScan τ)))))) + 1)) (sNh (uScan (uNh (uTend (uC τ (sh_touch κ (τ).1)) (((sScan (uC τ (sh_touch κ (τ).1))) + 1) + (hd_traced (sh_val κ (τ).1 (sScan τ))))) ((sScan (uTend (uC τ (sh_touch κ (τ).1)) (((sScan (uC τ (sh_touch κ (τ).1))) + 1) + (hd_traced (sh_val κ (τ).1 (sScan τ)))))) + (hd_cells (sh_val κ (τ).1 (sScan τ))))) ((sScan (uNh (uTend (uC τ (sh_touch κ (τ).1)) (((sScan (uC τ (sh_touch κ (τ).1))) + 1) + (hd_traced (sh_val κ (τ).1 (sScan τ))))) ((sScan (uTend (uC τ (sh_touch κ (τ).1)) (((sScan (uC τ (sh_touch κ (τ).1))) + 1) + (hd_traced (sh_val κ (τ).1 (sScan τ)))))) + (hd_cells (sh_val κ (τ).1 (sScan τ)))))) + 1))) := by
                unfold sh_workStep sh_ws2 sh_ws1
                simp only [if_neg c_1, if_pos c_1n, if_neg c_2, if_pos c_2n, if_neg c_3, if_pos c_3n, if_pos c_4]
                exact if_pos c_8
              have eN : sh_workN κ g τ (n + 1) = sh_workN κ g (uScan (uScan (uNh (uTend (uC τ (sh_touch κ (τ).1)) (((sScan (uC τ (sh_touch κ (τ).1))) + 1) + (hd_traced (sh_val κ (τ).1 (sScan τ))))) ((sScan (uTend (uC τ (sh_touch κ (τ).1)) (((sScan (uC τ (sh_touch κ (τ).1))) + 1) + (hd_traced (sh_val κ (τ).1 (sScan τ)))))) + (hd_cells (sh_val κ (τ).1 (sScan τ))))) ((sScan (uNh (uTend (uC τ (sh_touch κ (τ).1)) (((sScan (uC τ (sh_touch κ (τ).1))) + 1) + (hd_traced (sh_val κ (τ).1 (sScan τ))))) ((sScan (uTend (uC τ (sh_touch κ (τ).1)) (((sScan (uC τ (sh_touch κ (τ).1))) + 1) + (hd_traced (sh_val κ (τ).1 (sScan τ)))))) + (hd_cells (sh_val κ (τ).1 (sScan τ)))))) + 1)) (sNh (uScan (uNh (uTend (uC τ (sh_touch κ (τ).1)) (((sScan (uC τ (sh_touch κ (τ).1))) + 1) + (hd_traced (sh_val κ (τ).1 (sScan τ))))) ((sScan (uTend (uC τ (sh_touch κ (τ).1)) (((sScan (uC τ (sh_touch κ (τ).1))) + 1) + (hd_traced (sh_val κ (τ).1 (sScan τ)))))) + (hd_cells (sh_val κ (τ).1 (sScan τ))))) ((sScan (uNh (uTend (uC τ (sh_touch κ (τ).1)) (((sScan (uC τ (sh_touch κ (τ).1))) + 1) + (hd_traced (sh_val κ (τ).1 (sScan τ))))) ((sScan (uTend (uC τ (sh_touch κ (τ).1)) (((sScan (uC τ (sh_touch κ (τ).1))) + 1) + (hd_traced (sh_val κ (τ).1 (sScan τ)))))) + (hd_cells (sh_val κ (τ).1 (sScan τ)))))) + 1)))) n := by rw [sh_workN, if_pos c_2n, if_pos c_3n, est]
              rw [eN] at K
              rw [nI_1] at hl
              exact ih (j + 1) _ H locs ls (by omega) hw (lv_sub hl [0, 2, 3] rfl) K
end LPW
set_option maxHeartbeats 4000000 in
set_option maxRecDepth 100000 in
theorem c_M_work (l : Launch) (D : va_G) (cI cP : ClassId) (a : cx_a) (κ : sh_K) (np : Nat) (σ : sh_S) : cx_Met l D cI cP a κ np y_M_work b_M_work 5 (none) 4 80 [.ref (aXM a)] σ (none) (sh_work κ σ) := by
  refine cx_start (by decide) (Nat.le_of_ble_eq_true rfl) mo_work ?_
  intro p e R s m args below meth c A ls S hr hlk hfr hlc hw hbud hl
  have hl : lv_has ls 5 [(0, .ref (aXM a))] := hl
  refine lv_aload_n S.1 S.2.1 d_M_work_0 rfl (lv_at hl 0 rfl) ?_
  refine cx_get S hw (q0 := 2) (ci := 2) (k := 7) (v := .int (sBase σ)) (fun _ => rfl) rfl (by decide) inM tb_70 rfl rfl d_M_work_1 ?_
  refine lv_aload_n S.1 S.2.1 d_M_work_4 rfl (lv_at hl 0 rfl) ?_
  refine cx_get S hw (q0 := 2) (ci := 2) (k := 2) (v := .int (kK κ)) (fun _ => rfl) rfl (by decide) inM tb_62 rfl rfl d_M_work_5 ?_
  refine lv_aload_n S.1 S.2.1 d_M_work_8 rfl (lv_at hl 0 rfl) ?_
  refine cx_get S hw (q0 := 2) (ci := 2) (k := 5) (v := .int (sMade σ)) (fun _ => rfl) rfl (by decide) inM tb_66 rfl rfl d_M_work_9 ?_
  refine lv_imul S.1 S.2.1 d_M_work_12 ?_
  refine lv_iadd S.1 S.2.1 d_M_work_13 ?_
  refine lv_istore_n (lv' := [(1, .int ((sBase σ) + ((kK κ) * (sMade σ)))), (0, .ref (aXM a))]) S.1 S.2.1 d_M_work_14 rfl hl (by decide) rfl (fun ls hl => ?_)
  refine lv_iconst (v := 0) S.1 S.2.1 d_M_work_15 (by decide) ?_
  refine lv_istore_n (lv' := [(2, .int 0), (1, .int ((sBase σ) + ((kK κ) * (sMade σ)))), (0, .ref (aXM a))]) S.1 S.2.1 d_M_work_16 rfl hl (by decide) rfl (fun ls hl => ?_)
  generalize hb8 : (kK κ * 16).toNatClampNeg = n8
  refine lp_work (κ := κ) S hbud (by omega) (by omega) n8 0 σ _ _ ls (by rw [Nat.zero_add]; exact hb8.symm) hw hl (fun H locs ls hw => ?_)
  generalize hq_1 : sh_workN κ (sBase σ + kK κ * sMade σ) σ n8 = q_1 at hw ⊢
  exact cx_retV S hr hlk hw hbud rfl (by subst hq_1; subst hb8; rfl) d_M_work_162
section LPL
variable {p : Program} {l : Launch} {e : Env} {R : Room} {s : State} {m : MethodId} {args : Array Value} {below : List Frame} {meth : Method} {c : Code} {Q : State → Prop} {D : va_G} {cI cP : ClassId} {a : cx_a} {κ : sh_K} {np n0 : Nat} {A : Nat → Prop} {c1 : Cond}
set_option maxHeartbeats 4000000 in
set_option maxRecDepth 100000 in
theorem lp_place (S : CallFix p m c b_M_place 4 s args (c1 :: bt) "StepHeap$Mover") (hbud : 2 * (np - n0) ≤ R.cells ∧ 1025 * (np - n0) ≤ R.slots) (hfr : 3 ≤ R.frames) (hlc : 55 ≤ R.locals) {σ0 : sh_S} {h : Int32} {N : Nat} (hN : N < 2 ^ 30) :
    ∀ (n j : Nat) (i : Int32) (cs : sh_C) (H : Heap) (locs : List Loc) (ls : Array Slot), i = nI j → j + n = N → cx_Wd D cI cP a κ np s A n0 (uC σ0 cs) H locs → lv_has ls 4 [(3, .int i), (2, .int (nI N)), (0, .ref (aXM a)), (1, .int h)] →
    (∀ (H' : Heap) (locs' : List Loc) (ls' : Array Slot), cx_Wd D cI cP a κ np s A n0 (uC σ0 (sh_zeroN κ cs (sLow σ0) i n)) H' locs' → lv_has ls' 4 [(3, .int (nI N)), (2, .int (nI N)), (0, .ref (aXM a)), (1, .int h)] → W p l e R s m args below meth c H' locs' (2 * (nal (uC σ0 (sh_zeroN κ cs (sLow σ0) i n)) - n0)) (1025 * (nal (uC σ0 (sh_zeroN κ cs (sLow σ0) i n)) - n0)) Q (F0 m 54 ls' [])) →
    W p l e R s m args below meth c H locs (2 * (nal (uC σ0 cs) - n0)) (1025 * (nal (uC σ0 cs) - n0)) Q (F0 m 29 ls []) := by
  intro n
  induction n with
  | zero =>
    intro j i cs H locs ls hi hj hw hl K
    refine lv_iload_n S.1 S.2.1 d_M_place_29 rfl (lv_at hl 0 rfl) ?_
    refine lv_iload_n S.1 S.2.1 d_M_place_30 rfl (lv_at hl 1 rfl) ?_
    refine lv_icmp_ge (tgt := 54) S.1 S.2.1 d_M_place_31 (by decide) (fun c_1 => ?_) (fun c_1 => ?_)
    · have c_1n := i32_nlt c_1
      have ej : i = nI N := by rw [hi, show j = N by omega]
      exact K H locs ls hw (by rw [← ej] at hl ⊢; exact hl)
    · have c_1n := i32_lt c_1
      exact absurd (by rw [hi, show j = N by omega]; exact nI_le (Nat.le_refl _) (by omega)) c_1
  | succ n ih =>
    intro j i cs H locs ls hi hj hw hl K
    refine lv_iload_n S.1 S.2.1 d_M_place_29 rfl (lv_at hl 0 rfl) ?_
    refine lv_iload_n S.1 S.2.1 d_M_place_30 rfl (lv_at hl 1 rfl) ?_
    refine lv_icmp_ge (tgt := 54) S.1 S.2.1 d_M_place_31 (by decide) (fun c_1 => ?_) (fun c_1 => ?_)
    · have c_1n := i32_nlt c_1
      exact absurd (by rw [hi] at c_1; exact c_1) (nI_ge (show j < N by omega) (by omega))
    · have c_1n := i32_lt c_1
      refine lv_aload_n S.1 S.2.1 d_M_place_34 rfl (lv_at hl 2 rfl) ?_
      refine cx_get S hw (q0 := 2) (ci := 2) (k := 0) (v := .ref (aXC a)) (fun _ => rfl) rfl (by decide) inM tb_59 rfl rfl d_M_place_35 ?_
      refine lv_aload_n S.1 S.2.1 d_M_place_38 rfl (lv_at hl 2 rfl) ?_
      refine cx_get S hw (q0 := 2) (ci := 2) (k := 9) (v := .int (sLow (uC σ0 cs))) (fun _ => rfl) rfl (by decide) inM tb_72 rfl rfl d_M_place_39 ?_
      refine lv_iload_n S.1 S.2.1 d_M_place_42 rfl (lv_at hl 0 rfl) ?_
      refine lv_iadd S.1 S.2.1 d_M_place_43 ?_
      refine lv_iconst (v := 0) S.1 S.2.1 d_M_place_44 (by decide) ?_
      refine cx_call S hw hbud (As := [.int ((sLow (uC σ0 cs)) + i), .int 0]) (rest := []) (c_C_write l D cI cP a κ np (uC σ0 cs) ((sLow (uC σ0 cs)) + i) 0) (q0 := 1) (fun _ => rfl) rfl tb_179 tb_176 tb_177 tb_178 tb_4 hd_C_write rfl ⟨by omega, by omega⟩ hl.1 rfl (Nat.le_of_ble_eq_true rfl) d_M_place_45 (fun H locs hw => ?_)
      generalize hq_1 : sh_write κ ((uC σ0 cs)).1 ((sLow (uC σ0 cs)) + i) 0 = q_1 at hw ⊢
      refine W.eq (g2 := F0 m 48 ls []) rfl ?_
      refine lv_iinc (v := i + 1) (lv' := [(3, .int (i + 1)), (2, .int (nI N)), (0, .ref (aXM a)), (1, .int h)]) S.1 S.2.1 d_M_place_48 hl (k := 0) rfl rfl (by decide) rfl (fun ls hl => ?_)
      refine lv_goto (tgt := 29) S.1 S.2.1 d_M_place_51 (by decide) ?_
      subst hq_1
      exact ih (j + 1) (i + 1) _ H locs ls (by rw [hi]; exact nI_1 j) (by omega) hw (lv_sub hl [0, 1, 2, 3] rfl) K
end LPL
set_option maxHeartbeats 4000000 in
set_option maxRecDepth 100000 in
theorem c_M_place (l : Launch) (D : va_G) (cI cP : ClassId) (a : cx_a) (κ : sh_K) (np : Nat) (σ : sh_S) (h : Int32) : cx_Met l D cI cP a κ np y_M_place b_M_place 4 (some .int) 5 104 [.ref (aXM a), .int h] σ (some (.int ((sh_place κ σ h).1))) ((sh_place κ σ h).2) := by
  refine cx_start (by decide) (Nat.le_of_ble_eq_true rfl) mo_place ?_
  intro p e R s m args below meth c A ls S hr hlk hfr hlc hw hbud hl
  have hl : lv_has ls 4 [(0, .ref (aXM a)), (1, .int h)] := hl
  refine lv_iload_n S.1 S.2.1 d_M_place_0 rfl (lv_at hl 1 rfl) ?_
  refine cx_fn S (As := [.int h]) (rest := []) (c_H_cells l h) tb_136 tb_175 tb_135 tb_6 hdf_H_cells rfl ⟨by omega, by omega⟩ hl.1 rfl (Nat.le_of_ble_eq_true rfl) d_M_place_1 (hw.fit hbud) ?_
  refine lv_istore_n (lv' := [(2, .int (hd_cells h)), (0, .ref (aXM a)), (1, .int h)]) S.1 S.2.1 d_M_place_4 rfl hl (by decide) rfl (fun ls hl => ?_)
  refine lv_aload_n S.1 S.2.1 d_M_place_5 rfl (lv_at hl 1 rfl) ?_
  refine lv_dup S.1 S.2.1 d_M_place_6 rfl ?_
  refine cx_get S hw (q0 := 2) (ci := 2) (k := 9) (v := .int (sLow σ)) (fun _ => rfl) rfl (by decide) inM tb_72 rfl rfl d_M_place_7 ?_
  refine lv_iload_n S.1 S.2.1 d_M_place_10 rfl (lv_at hl 0 rfl) ?_
  refine lv_isub S.1 S.2.1 d_M_place_11 ?_
  refine cx_put S hw (q0 := 2) (ci := 2) (k := 9) (σ' := uLow σ ((sLow σ) - (hd_cells h))) (ty := .int) (fun _ => rfl) rfl (by decide) inM tyM tyM_ok nmM tb_72 rfl rfl rfl rfl rfl (Nat.le_of_ble_eq_true rfl) (fun _ => rfl) rfl rfl d_M_place_12 (fun H locs hw => ?_)
  refine W.cs (cells' := 2 * (nal (uLow σ ((sLow σ) - (hd_cells h))) - nal σ)) (slots' := 1025 * (nal (uLow σ ((sLow σ) - (hd_cells h))) - nal σ)) rfl rfl ?_
  refine lv_aload_n S.1 S.2.1 d_M_place_15 rfl (lv_at hl 1 rfl) ?_
  refine cx_get S hw (q0 := 2) (ci := 2) (k := 0) (v := .ref (aXC a)) (fun _ => rfl) rfl (by decide) inM tb_59 rfl rfl d_M_place_16 ?_
  refine lv_aload_n S.1 S.2.1 d_M_place_19 rfl (lv_at hl 1 rfl) ?_
  refine cx_get S hw (q0 := 2) (ci := 2) (k := 9) (v := .int (sLow (uLow σ ((sLow σ) - (hd_cells h))))) (fun _ => rfl) rfl (by decide) inM tb_72 rfl rfl d_M_place_20 ?_
  refine lv_iload_n S.1 S.2.1 d_M_place_23 rfl (lv_at hl 2 rfl) ?_
  refine cx_call S hw hbud (As := [.int (sLow (uLow σ ((sLow σ) - (hd_cells h)))), .int h]) (rest := []) (c_C_write l D cI cP a κ np (uLow σ ((sLow σ) - (hd_cells h))) (sLow (uLow σ ((sLow σ) - (hd_cells h)))) h) (q0 := 1) (fun _ => rfl) rfl tb_179 tb_176 tb_177 tb_178 tb_4 hd_C_write rfl ⟨by omega, by omega⟩ hl.1 rfl (Nat.le_of_ble_eq_true rfl) d_M_place_24 (fun H locs hw => ?_)
  generalize hq_1 : sh_write κ ((uLow σ ((sLow σ) - (hd_cells h)))).1 (sLow (uLow σ ((sLow σ) - (hd_cells h)))) h = q_1 at hw ⊢
  refine W.eq (g2 := F0 m 27 ls []) rfl ?_
  refine lv_iconst (v := 1) S.1 S.2.1 d_M_place_27 (by decide) ?_
  refine lv_istore_n (lv' := [(3, .int 1), (2, .int (hd_cells h)), (0, .ref (aXM a)), (1, .int h)]) S.1 S.2.1 d_M_place_28 rfl hl (by decide) rfl (fun ls hl => ?_)
  have hN := hC_eq h
  have hB := hC_big h
  refine lp_place S hbud (by omega) (by omega) (σ0 := (uLow σ ((sLow σ) - (hd_cells h)))) hB.2 (hC h - 1) 1 1 q_1 H locs ls rfl (by omega) hw (by rw [← hN]; exact hl) (fun H locs ls hw hl => ?_)
  generalize hq_2 : sh_zeroN κ q_1 (sLow ((uLow σ ((sLow σ) - (hd_cells h))))) 1 (hC h - 1) = q_2 at hw ⊢
  refine lv_aload_n S.1 S.2.1 d_M_place_54 rfl (lv_at hl 2 rfl) ?_
  refine lv_dup S.1 S.2.1 d_M_place_55 rfl ?_
  refine cx_get S hw (q0 := 2) (ci := 2) (k := 5) (v := .int (sMade (uC (uLow σ ((sLow σ) - (hd_cells h))) q_2))) (fun _ => rfl) rfl (by decide) inM tb_66 rfl rfl d_M_place_56 ?_
  refine lv_iload_n S.1 S.2.1 d_M_place_59 rfl (lv_at hl 1 rfl) ?_
  refine lv_iadd S.1 S.2.1 d_M_place_60 ?_
  refine cx_put S hw (q0 := 2) (ci := 2) (k := 5) (σ' := uMade (uC (uLow σ ((sLow σ) - (hd_cells h))) q_2) ((sMade (uC (uLow σ ((sLow σ) - (hd_cells h))) q_2)) + (nI (hC h)))) (ty := .int) (fun _ => rfl) rfl (by decide) inM tyM tyM_ok nmM tb_66 rfl rfl rfl rfl rfl (Nat.le_of_ble_eq_true rfl) (fun _ => rfl) rfl rfl d_M_place_61 (fun H locs hw => ?_)
  refine W.cs (cells' := 2 * (nal (uMade (uC (uLow σ ((sLow σ) - (hd_cells h))) q_2) ((sMade (uC (uLow σ ((sLow σ) - (hd_cells h))) q_2)) + (nI (hC h)))) - nal σ)) (slots' := 1025 * (nal (uMade (uC (uLow σ ((sLow σ) - (hd_cells h))) q_2) ((sMade (uC (uLow σ ((sLow σ) - (hd_cells h))) q_2)) + (nI (hC h)))) - nal σ)) rfl rfl ?_
  refine lv_aload_n S.1 S.2.1 d_M_place_64 rfl (lv_at hl 2 rfl) ?_
  refine cx_call S hw hbud (As := []) (rest := []) (c_M_work l D cI cP a κ np (uMade (uC (uLow σ ((sLow σ) - (hd_cells h))) q_2) ((sMade (uC (uLow σ ((sLow σ) - (hd_cells h))) q_2)) + (nI (hC h)))) ) (q0 := 2) (fun _ => rfl) rfl tb_197 tb_194 tb_196 tp_6 tb_3 hd_M_work rfl ⟨by omega, by omega⟩ hl.1 rfl (Nat.le_of_ble_eq_true rfl) d_M_place_65 (fun H locs hw => ?_)
  generalize hq_3 : sh_work κ (uMade (uC (uLow σ ((sLow σ) - (hd_cells h))) q_2) ((sMade (uC (uLow σ ((sLow σ) - (hd_cells h))) q_2)) + (nI (hC h)))) = q_3 at hw ⊢
  refine W.eq (g2 := F0 m 68 ls []) rfl ?_
  refine lv_aload_n S.1 S.2.1 d_M_place_68 rfl (lv_at hl 2 rfl) ?_
  refine cx_get S hw (q0 := 2) (ci := 2) (k := 9) (v := .int (sLow q_3)) (fun _ => rfl) rfl (by decide) inM tb_72 rfl rfl d_M_place_69 ?_
  exact cx_retI S hr hlk hw hbud (by subst hq_3; subst hq_2; subst hq_1; unfold sh_place; simp only [hC_eq, hC_clamp]; try rfl; done) (by subst hq_3; subst hq_2; subst hq_1; unfold sh_place; simp only [hC_eq, hC_clamp]; try rfl; done) d_M_place_72
end
section
/-! ===== StepHeap: headOf, referenceCell, intCell, fillRegister ===== -/
set_option maxHeartbeats 4000000 in
set_option maxRecDepth 100000 in
theorem c_X_headOf (l : Launch) (D : va_G) (cI cP : ClassId) (a : cx_a) (κ : sh_K) (np : Nat) (σ : sh_S) (r : Int32) : cx_Met l D cI cP a κ np y_X_headOf b_X_headOf 3 (some .int) 3 62 [.ref (aXX a), .int r] σ (some (.int ((sh_head κ σ r).1))) ((sh_head κ σ r).2) := by
  refine cx_start (by decide) (Nat.le_of_ble_eq_true rfl) mo_head ?_
  intro p e R s m args below meth c A ls S hr hlk hfr hlc hw hbud hl
  have hl : lv_has ls 3 [(0, .ref (aXX a)), (1, .int r)] := hl
  refine lv_aload_n S.1 S.2.1 d_X_headOf_0 rfl (lv_at hl 0 rfl) ?_
  refine cx_get S hw (q0 := 0) (ci := 0) (k := 0) (v := .ref (aXC a)) (fun _ => rfl) rfl (by decide) inX tb_103 rfl rfl d_X_headOf_1 ?_
  refine cx_call S hw hbud (As := []) (rest := []) (c_C_startCall l D cI cP a κ np σ ) (q0 := 1) (fun _ => rfl) rfl tb_133 tb_130 tb_131 tb_132 tb_4 hd_C_startCall rfl ⟨by omega, by omega⟩ hl.1 rfl (Nat.le_of_ble_eq_true rfl) d_X_headOf_4 (fun H locs hw => ?_)
  refine W.eq (g2 := F0 m 7 ls []) rfl ?_
  refine lv_aload_n S.1 S.2.1 d_X_headOf_7 rfl (lv_at hl 0 rfl) ?_
  refine cx_get S hw (q0 := 0) (ci := 0) (k := 1) (v := .ref (aXM a)) (fun _ => rfl) rfl (by decide) inX tb_104 rfl rfl d_X_headOf_8 ?_
  refine lv_iload_n S.1 S.2.1 d_X_headOf_11 rfl (lv_at hl 1 rfl) ?_
  refine cx_rd S hw (hw.fit hbud) (As := [.int r]) (rest := []) (c_M_register l D cI cP a κ np (uC σ (sh_start (σ).1)) r) (q0 := 2) (fun _ => rfl) rfl tb_226 tb_223 tb_224 tb_225 tb_3 hd_M_register rfl ⟨by omega, by omega⟩ hl.1 rfl (Nat.le_of_ble_eq_true rfl) d_X_headOf_12 ?_
  refine lv_istore_n (lv' := [(2, .int (sh_reg (uC σ (sh_start (σ).1)) r)), (0, .ref (aXX a)), (1, .int r)]) S.1 S.2.1 d_X_headOf_15 rfl hl (by decide) rfl (fun ls hl => ?_)
  refine lv_iload_n S.1 S.2.1 d_X_headOf_16 rfl (lv_at hl 0 rfl) ?_
  refine lv_if_ne (tgt := 24) S.1 S.2.1 d_X_headOf_17 (by decide) (fun c_1 => ?_) (fun c_1 => ?_)
  · refine lv_aload_n S.1 S.2.1 d_X_headOf_24 rfl (lv_at hl 1 rfl) ?_
    refine cx_get S hw (q0 := 0) (ci := 0) (k := 0) (v := .ref (aXC a)) (fun _ => rfl) rfl (by decide) inX tb_103 rfl rfl d_X_headOf_25 ?_
    refine lv_iload_n S.1 S.2.1 d_X_headOf_28 rfl (lv_at hl 0 rfl) ?_
    refine cx_call S hw hbud (As := [.int (sh_reg (uC σ (sh_start (σ).1)) r)]) (rest := []) (c_C_read l D cI cP a κ np (uC σ (sh_start (σ).1)) (sh_reg (uC σ (sh_start (σ).1)) r)) (q0 := 1) (fun _ => rfl) rfl tb_170 tb_227 tb_168 tb_169 tb_4 hd_C_read rfl ⟨by omega, by omega⟩ hl.1 rfl (Nat.le_of_ble_eq_true rfl) d_X_headOf_29 (fun H locs hw => ?_)
    refine W.eq (g2 := F0 m 32 ls [.int (sh_val κ ((uC σ (sh_start (σ).1))).1 (sh_reg (uC σ (sh_start (σ).1)) r))]) rfl ?_
    exact cx_retI S hr hlk hw hbud (by first | (unfold sh_head; simp only [if_neg c_1]; done) | (unfold sh_head; dsimp only; simp only [if_neg c_1]; done) | (unfold sh_head; simp only [if_neg c_1, hC_eq, hC_clamp]; try rfl; done)) (by first | (unfold sh_head; simp only [if_neg c_1]; done) | (unfold sh_head; dsimp only; simp only [if_neg c_1]; done) | (unfold sh_head; simp only [if_neg c_1, hC_eq, hC_clamp]; try rfl; done)) d_X_headOf_32
  · refine lv_iconst (v := 0) S.1 S.2.1 d_X_headOf_20 (by decide) ?_
    refine lv_goto (tgt := 32) S.1 S.2.1 d_X_headOf_21 (by decide) ?_
    exact cx_retI S hr hlk hw hbud (by first | (unfold sh_head; simp only [if_pos c_1]; done) | (unfold sh_head; dsimp only; simp only [if_pos c_1]; done) | (unfold sh_head; simp only [if_pos c_1, hC_eq, hC_clamp]; try rfl; done)) (by first | (unfold sh_head; simp only [if_pos c_1]; done) | (unfold sh_head; dsimp only; simp only [if_pos c_1]; done) | (unfold sh_head; simp only [if_pos c_1, hC_eq, hC_clamp]; try rfl; done)) d_X_headOf_32
set_option maxHeartbeats 4000000 in
set_option maxRecDepth 100000 in
theorem c_X_referenceCell (l : Launch) (D : va_G) (cI cP : ClassId) (a : cx_a) (κ : sh_K) (np : Nat) (σ : sh_S) (o f : Int32) : cx_Rd l D cI cP a κ np y_X_referenceCell b_X_referenceCell 3 (some .int) 3 62 [.ref (aXX a), .int o, .int f] σ (sh_reg σ o + 1 + f) := by
  refine cx_startR (by decide) (Nat.le_of_ble_eq_true rfl) ?_
  intro p e R s m args below meth c A ls S hr hlk hfr hlc hw hl
  have hl : lv_has ls 3 [(0, .ref (aXX a)), (1, .int o), (2, .int f)] := hl
  refine lv_aload_n S.1 S.2.1 d_X_referenceCell_0 rfl (lv_at hl 0 rfl) ?_
  refine cx_get S hw (q0 := 0) (ci := 0) (k := 1) (v := .ref (aXM a)) (fun _ => rfl) rfl (by decide) inX tb_104 rfl rfl d_X_referenceCell_1 ?_
  refine lv_iload_n S.1 S.2.1 d_X_referenceCell_4 rfl (lv_at hl 1 rfl) ?_
  refine cx_rd S hw ⟨Nat.zero_le _, Nat.zero_le _⟩ (As := [.int o]) (rest := []) (c_M_register l D cI cP a κ np σ o) (q0 := 2) (fun _ => rfl) rfl tb_226 tb_223 tb_224 tb_225 tb_3 hd_M_register rfl ⟨by omega, by omega⟩ hl.1 rfl (Nat.le_of_ble_eq_true rfl) d_X_referenceCell_5 ?_
  refine lv_iconst (v := 1) S.1 S.2.1 d_X_referenceCell_8 (by decide) ?_
  refine lv_iadd S.1 S.2.1 d_X_referenceCell_9 ?_
  refine lv_iload_n S.1 S.2.1 d_X_referenceCell_10 rfl (lv_at hl 2 rfl) ?_
  refine lv_iadd S.1 S.2.1 d_X_referenceCell_11 ?_
  exact cx_endI S hr hlk (by first | rfl) d_X_referenceCell_12
set_option maxHeartbeats 4000000 in
set_option maxRecDepth 100000 in
theorem c_X_intCell (l : Launch) (D : va_G) (cI cP : ClassId) (a : cx_a) (κ : sh_K) (np : Nat) (σ : sh_S) (o h f : Int32) : cx_Rd l D cI cP a κ np y_X_intCell b_X_intCell 4 (some .int) 3 62 [.ref (aXX a), .int o, .int h, .int f] σ (sh_reg σ o + 1 + hd_refs h + f) := by
  refine cx_startR (by decide) (Nat.le_of_ble_eq_true rfl) ?_
  intro p e R s m args below meth c A ls S hr hlk hfr hlc hw hl
  have hl : lv_has ls 4 [(0, .ref (aXX a)), (1, .int o), (2, .int h), (3, .int f)] := hl
  refine lv_aload_n S.1 S.2.1 d_X_intCell_0 rfl (lv_at hl 0 rfl) ?_
  refine cx_get S hw (q0 := 0) (ci := 0) (k := 1) (v := .ref (aXM a)) (fun _ => rfl) rfl (by decide) inX tb_104 rfl rfl d_X_intCell_1 ?_
  refine lv_iload_n S.1 S.2.1 d_X_intCell_4 rfl (lv_at hl 1 rfl) ?_
  refine cx_rd S hw ⟨Nat.zero_le _, Nat.zero_le _⟩ (As := [.int o]) (rest := []) (c_M_register l D cI cP a κ np σ o) (q0 := 2) (fun _ => rfl) rfl tb_226 tb_223 tb_224 tb_225 tb_3 hd_M_register rfl ⟨by omega, by omega⟩ hl.1 rfl (Nat.le_of_ble_eq_true rfl) d_X_intCell_5 ?_
  refine lv_iconst (v := 1) S.1 S.2.1 d_X_intCell_8 (by decide) ?_
  refine lv_iadd S.1 S.2.1 d_X_intCell_9 ?_
  refine lv_iload_n S.1 S.2.1 d_X_intCell_10 rfl (lv_at hl 2 rfl) ?_
  refine cx_fn S (As := [.int h]) (rest := [.int ((sh_reg σ o) + 1)]) (c_H_references l h) tb_230 tb_228 tb_229 tb_6 hdf_H_references rfl ⟨by omega, by omega⟩ hl.1 rfl (Nat.le_of_ble_eq_true rfl) d_X_intCell_11 ⟨Nat.zero_le _, Nat.zero_le _⟩ ?_
  refine lv_iadd S.1 S.2.1 d_X_intCell_14 ?_
  refine lv_iload_n S.1 S.2.1 d_X_intCell_15 rfl (lv_at hl 3 rfl) ?_
  refine lv_iadd S.1 S.2.1 d_X_intCell_16 ?_
  exact cx_endI S hr hlk (by first | rfl) d_X_intCell_17
set_option maxHeartbeats 4000000 in
set_option maxRecDepth 100000 in
theorem c_X_fillRegister (l : Launch) (D : va_G) (cI cP : ClassId) (a : cx_a) (κ : sh_K) (np : Nat) (σ : sh_S) (r h : Int32) : cx_Met l D cI cP a κ np y_X_fillRegister b_X_fillRegister 3 (some .int) 6 127 [.ref (aXX a), .int r, .int h] σ (some (.int ((sh_fill κ σ r h).1))) ((sh_fill κ σ r h).2) := by
  refine cx_start (by decide) (Nat.le_of_ble_eq_true rfl) mo_fill ?_
  intro p e R s m args below meth c A ls S hr hlk hfr hlc hw hbud hl
  have hl : lv_has ls 3 [(0, .ref (aXX a)), (1, .int r), (2, .int h)] := hl
  refine lv_aload_n S.1 S.2.1 d_X_fillRegister_0 rfl (lv_at hl 0 rfl) ?_
  refine cx_get S hw (q0 := 0) (ci := 0) (k := 0) (v := .ref (aXC a)) (fun _ => rfl) rfl (by decide) inX tb_103 rfl rfl d_X_fillRegister_1 ?_
  refine cx_call S hw hbud (As := []) (rest := []) (c_C_startCall l D cI cP a κ np σ ) (q0 := 1) (fun _ => rfl) rfl tb_133 tb_130 tb_131 tb_132 tb_4 hd_C_startCall rfl ⟨by omega, by omega⟩ hl.1 rfl (Nat.le_of_ble_eq_true rfl) d_X_fillRegister_4 (fun H locs hw => ?_)
  refine W.eq (g2 := F0 m 7 ls []) rfl ?_
  refine lv_aload_n S.1 S.2.1 d_X_fillRegister_7 rfl (lv_at hl 0 rfl) ?_
  refine cx_get S hw (q0 := 0) (ci := 0) (k := 1) (v := .ref (aXM a)) (fun _ => rfl) rfl (by decide) inX tb_104 rfl rfl d_X_fillRegister_8 ?_
  refine lv_iload_n S.1 S.2.1 d_X_fillRegister_11 rfl (lv_at hl 2 rfl) ?_
  refine cx_fn S (As := [.int h]) (rest := [.ref (aXM a)]) (c_H_cells l h) tb_136 tb_134 tb_135 tb_6 hdf_H_cells rfl ⟨by omega, by omega⟩ hl.1 rfl (Nat.le_of_ble_eq_true rfl) d_X_fillRegister_12 (hw.fit hbud) ?_
  refine cx_call S hw hbud (As := [.int (hd_cells h)]) (rest := []) (c_M_hasRoom l D cI cP a κ np (uC σ (sh_start (σ).1)) (hd_cells h)) (q0 := 2) (fun _ => rfl) rfl tb_146 tb_143 tb_144 tb_145 tb_3 hd_M_hasRoom rfl ⟨by omega, by omega⟩ hl.1 rfl (Nat.le_of_ble_eq_true rfl) d_X_fillRegister_15 (fun H locs hw => ?_)
  generalize hq_1 : sh_room κ (uC σ (sh_start (σ).1)) (hd_cells h) = q_1 at hw ⊢
  refine W.eq (g2 := F0 m 18 ls [.int q_1.1]) rfl ?_
  refine lv_if_ne (tgt := 23) S.1 S.2.1 d_X_fillRegister_18 (by decide) (fun c_1 => ?_) (fun c_1 => ?_)
  · refine lv_aload_n S.1 S.2.1 d_X_fillRegister_23 rfl (lv_at hl 0 rfl) ?_
    refine cx_get S hw (q0 := 0) (ci := 0) (k := 1) (v := .ref (aXM a)) (fun _ => rfl) rfl (by decide) inX tb_104 rfl rfl d_X_fillRegister_24 ?_
    refine lv_iload_n S.1 S.2.1 d_X_fillRegister_27 rfl (lv_at hl 1 rfl) ?_
    refine lv_aload_n S.1 S.2.1 d_X_fillRegister_28 rfl (lv_at hl 0 rfl) ?_
    refine cx_get S hw (q0 := 0) (ci := 0) (k := 1) (v := .ref (aXM a)) (fun _ => rfl) rfl (by decide) inX tb_104 rfl rfl d_X_fillRegister_29 ?_
    refine lv_iload_n S.1 S.2.1 d_X_fillRegister_32 rfl (lv_at hl 2 rfl) ?_
    refine cx_call S hw hbud (As := [.int h]) (rest := [.int r, .ref (aXM a)]) (c_M_place l D cI cP a κ np q_1.2 h) (q0 := 2) (fun _ => rfl) rfl tb_193 tb_190 tb_191 tb_192 tb_3 hd_M_place rfl ⟨by omega, by omega⟩ hl.1 rfl (Nat.le_of_ble_eq_true rfl) d_X_fillRegister_33 (fun H locs hw => ?_)
    generalize hq_2 : sh_place κ q_1.2 h = q_2 at hw ⊢
    refine W.eq (g2 := F0 m 36 ls [.int q_2.1, .int r, .ref (aXM a)]) rfl ?_
    refine cx_call S hw hbud (As := [.int r, .int q_2.1]) (rest := []) (c_M_setRegister l D cI cP a κ np q_2.2 r q_2.1) (q0 := 2) (fun _ => rfl) rfl tb_202 tb_199 tb_200 tb_201 tb_3 hd_M_setRegister rfl ⟨by omega, by omega⟩ hl.1 rfl (Nat.le_of_ble_eq_true rfl) d_X_fillRegister_36 (fun H locs hw => ?_)
    refine W.eq (g2 := F0 m 39 ls []) rfl ?_
    refine lv_iconst (v := 1) S.1 S.2.1 d_X_fillRegister_39 (by decide) ?_
    exact cx_retI S hr hlk hw hbud (by first | (unfold sh_fill; simp only [hq_1, if_neg c_1, hq_2]; done) | (unfold sh_fill; dsimp only; simp only [hq_1, if_neg c_1, hq_2]; done) | (subst hq_2; subst hq_1; unfold sh_fill; simp only [if_neg c_1, hC_eq, hC_clamp]; try rfl; done)) (by first | (unfold sh_fill; simp only [hq_1, if_neg c_1, hq_2]; done) | (unfold sh_fill; dsimp only; simp only [hq_1, if_neg c_1, hq_2]; done) | (subst hq_2; subst hq_1; unfold sh_fill; simp only [if_neg c_1, hC_eq, hC_clamp]; try rfl; done)) d_X_fillRegister_40
  · refine lv_iconst (v := 0) S.1 S.2.1 d_X_fillRegister_21 (by decide) ?_
    exact cx_retI S hr hlk hw hbud (by first | (unfold sh_fill; simp only [hq_1, if_pos c_1]; done) | (unfold sh_fill; dsimp only; simp only [hq_1, if_pos c_1]; done) | (subst hq_1; unfold sh_fill; simp only [if_pos c_1, hC_eq, hC_clamp]; try rfl; done)) (by first | (unfold sh_fill; simp only [hq_1, if_pos c_1]; done) | (unfold sh_fill; dsimp only; simp only [hq_1, if_pos c_1]; done) | (subst hq_1; unfold sh_fill; simp only [if_pos c_1, hC_eq, hC_clamp]; try rfl; done)) d_X_fillRegister_22
end
section
/-! ===== StepHeap: levelOfGap, cellOnWay, openWay ===== -/
theorem gp_dec {lv : Int32} {n : Nat} (h : lv.toInt ≤ (n + 1 : Nat)) (h0 : ¬ lv ≤ 0) : (lv + (-1)).toInt ≤ n := by
  rw [Int32.le_iff_toInt_le, Int32.toInt_zero] at h0
  have h1 : (lv + (-1)).toInt = lv.toInt - 1 := by
    obtain ⟨k, hk, rfl⟩ := nI_of (x := lv) (fun z => by rw [Int32.lt_iff_toInt_lt, Int32.toInt_zero] at z; omega)
    rw [nI_toInt hk] at h0 ⊢
    obtain ⟨k', rfl⟩ : ∃ k', k = k' + 1 := ⟨k - 1, by omega⟩
    rw [pk_m1, nI_toInt (by omega)]
    omega
  omega
theorem gp_zero {lv : Int32} (h : lv.toInt ≤ (0 : Nat)) : lv ≤ 0 := by
  rw [Int32.le_iff_toInt_le, Int32.toInt_zero]
  exact h
theorem gp_height (h : Int32) : (hd_height h).toInt ≤ (3 : Nat) ∧ (hd_height h = 0 ∨ hd_height h = 1 ∨ hd_height h = 2) := by
  unfold hd_height
  split
  · split
    · exact ⟨by decide, Or.inl rfl⟩
    · exact ⟨by decide, Or.inr (Or.inl rfl)⟩
  · exact ⟨by decide, Or.inr (Or.inr rfl)⟩
section LPG
variable {p : Program} {l : Launch} {e : Env} {R : Room} {s : State} {m : MethodId} {args : Array Value} {below : List Frame} {meth : Method} {c : Code} {D : va_G} {cI cP : ClassId} {a : cx_a} {κ : sh_K} {np n0 : Nat} {A : Nat → Prop} {c1 : Cond}
set_option maxHeartbeats 4000000 in
set_option maxRecDepth 100000 in
theorem lp_gap (S : CallFix p m c b_X_levelOfGap 6 s args (c1 :: bt) "StepHeap") (hr : meth.sig.returnType = some .int) (hlk : meth.locks = false) (hbud : 2 * (np - n0) ≤ R.cells ∧ 1025 * (np - n0) ≤ R.slots) (hfr : 5 ≤ R.frames) (hlc : 101 ≤ R.locals) {o h i : Int32} :
    ∀ (n : Nat) (τ : sh_S) (nd lv : Int32) (H : Heap) (locs : List Loc) (ls : Array Slot) (r : Int32 × sh_S), r = sh_gapN κ τ i nd lv n → lv.toInt ≤ (n : Nat) → cx_Wd D cI cP a κ np s A n0 τ H locs → lv_has ls 6 [(5, .int lv), (4, .int nd), (0, .ref (aXX a)), (1, .int o), (2, .int h), (3, .int i)] →
    W p l e R s m args below meth c H locs (2 * (nal τ - n0)) (1025 * (nal τ - n0)) (MQ below (sx_Q (some (.int r.1)) (fun t => ∃ Lp', cx_St D cI cP a κ np r.2 Lp' A t.heap) A (2 * (nal r.2 - n0)) (1025 * (nal r.2 - n0))) args s R.cells R.slots A) (F0 m 16 ls []) := by
  intro n
  induction n with
  | zero =>
    intro τ nd lv H locs ls r hrr hm hw hl
    refine lv_iload S.1 S.2.1 d_X_levelOfGap_16 (lv_at hl 0 rfl) ?_
    refine lv_if_le (tgt := 55) S.1 S.2.1 d_X_levelOfGap_18 (by decide) (fun c_1 => ?_) (fun c_1 => ?_)
    · refine lv_iconst (v := 0) S.1 S.2.1 d_X_levelOfGap_55 (by decide) ?_
      exact cx_retI S hr hlk hw hbud (by rw [hrr]; rfl) (by rw [hrr]; rfl) d_X_levelOfGap_56
    · exact absurd (gp_zero hm) c_1
  | succ n ih =>
    intro τ nd lv H locs ls r hrr hm hw hl
    refine lv_iload S.1 S.2.1 d_X_levelOfGap_16 (lv_at hl 0 rfl) ?_
    refine lv_if_le (tgt := 55) S.1 S.2.1 d_X_levelOfGap_18 (by decide) (fun c_1 => ?_) (fun c_1 => ?_)
    · refine lv_iconst (v := 0) S.1 S.2.1 d_X_levelOfGap_55 (by decide) ?_
      exact cx_retI S hr hlk hw hbud (by rw [hrr, sh_gapN]; simp only [if_pos c_1]) (by rw [hrr, sh_gapN]; simp only [if_pos c_1]) d_X_levelOfGap_56
    · refine lv_aload_n S.1 S.2.1 d_X_levelOfGap_21 rfl (lv_at hl 2 rfl) ?_
      refine cx_get S hw (q0 := 0) (ci := 0) (k := 1) (v := .ref (aXM a)) (fun _ => rfl) rfl (by decide) inX tb_104 rfl rfl d_X_levelOfGap_22 ?_
      refine lv_iload S.1 S.2.1 d_X_levelOfGap_25 (lv_at hl 1 rfl) ?_
      refine lv_iconst (v := 1) S.1 S.2.1 d_X_levelOfGap_27 (by decide) ?_
      refine lv_iadd S.1 S.2.1 d_X_levelOfGap_28 ?_
      refine lv_iload_n S.1 S.2.1 d_X_levelOfGap_29 rfl (lv_at hl 5 rfl) ?_
      refine lv_iload S.1 S.2.1 d_X_levelOfGap_30 (lv_at hl 0 rfl) ?_
      refine cx_fn S (As := [.int i, .int lv]) (rest := [.int (nd + 1), .ref (aXM a)]) (c_X_slot l i lv) tb_290 tb_288 tb_289 tb_1 hdf_X_slot rfl ⟨by omega, by omega⟩ hl.1 rfl (Nat.le_of_ble_eq_true rfl) d_X_levelOfGap_32 (hw.fit hbud) ?_
      refine lv_iadd S.1 S.2.1 d_X_levelOfGap_35 ?_
      refine cx_call S hw hbud (As := [.int ((nd + 1) + (sh_slot i lv))]) (rest := []) (c_M_follow l D cI cP a κ np τ ((nd + 1) + (sh_slot i lv))) (q0 := 2) (fun _ => rfl) rfl tb_241 tb_238 tb_239 tb_240 tb_3 hd_M_follow rfl ⟨by omega, by omega⟩ hl.1 rfl (Nat.le_of_ble_eq_true rfl) d_X_levelOfGap_36 (fun H locs hw => ?_)
      generalize hq_1 : sh_follow κ τ ((nd + 1) + (sh_slot i lv)) = q_1 at hw ⊢
      refine W.eq (g2 := F0 m 39 ls [.int q_1.1]) rfl ?_
      refine lv_istore (lv' := [(4, .int q_1.1), (5, .int lv), (0, .ref (aXX a)), (1, .int o), (2, .int h), (3, .int i)]) S.1 S.2.1 d_X_levelOfGap_39 hl (by decide) rfl (fun ls hl => ?_)
      refine lv_iload S.1 S.2.1 d_X_levelOfGap_41 (lv_at hl 0 rfl) ?_
      refine lv_if_ne (tgt := 49) S.1 S.2.1 d_X_levelOfGap_43 (by decide) (fun c_2 => ?_) (fun c_2 => ?_)
      · refine lv_iinc (v := lv + (-1)) (lv' := [(5, .int (lv + (-1))), (4, .int q_1.1), (0, .ref (aXX a)), (1, .int o), (2, .int h), (3, .int i)]) S.1 S.2.1 d_X_levelOfGap_49 hl (k := 1) rfl rfl (by decide) rfl (fun ls hl => ?_)
        refine lv_goto (tgt := 16) S.1 S.2.1 d_X_levelOfGap_52 (by decide) ?_
        have hr2 : r = sh_gapN κ q_1.2 i q_1.1 (lv + (-1)) n := by rw [hrr, sh_gapN]; simp only [if_neg c_1, hq_1, if_neg c_2]
        exact ih q_1.2 q_1.1 (lv + (-1)) H locs ls r hr2 (gp_dec hm c_1) hw (lv_sub hl [0, 1, 2, 3, 4, 5] rfl)
      · refine lv_iload S.1 S.2.1 d_X_levelOfGap_46 (lv_at hl 1 rfl) ?_
        exact cx_retI S hr hlk hw hbud (by rw [hrr, sh_gapN]; simp only [if_neg c_1, hq_1, if_pos c_2]) (by rw [hrr, sh_gapN]; simp only [if_neg c_1, hq_1, if_pos c_2]) d_X_levelOfGap_48
end LPG
set_option maxHeartbeats 4000000 in
set_option maxRecDepth 100000 in
theorem c_X_levelOfGap (l : Launch) (D : va_G) (cI cP : ClassId) (a : cx_a) (κ : sh_K) (np : Nat) (σ : sh_S) (o h i : Int32) : cx_Met l D cI cP a κ np y_X_levelOfGap b_X_levelOfGap 6 (some .int) 5 101 [.ref (aXX a), .int o, .int h, .int i] σ (some (.int ((sh_gap κ σ o h i).1))) ((sh_gap κ σ o h i).2) := by
  refine cx_start (by decide) (Nat.le_of_ble_eq_true rfl) mo_gap ?_
  intro p e R s m args below meth c A ls S hr hlk hfr hlc hw hbud hl
  have hl : lv_has ls 6 [(0, .ref (aXX a)), (1, .int o), (2, .int h), (3, .int i)] := hl
  refine lv_aload_n S.1 S.2.1 d_X_levelOfGap_0 rfl (lv_at hl 0 rfl) ?_
  refine cx_get S hw (q0 := 0) (ci := 0) (k := 1) (v := .ref (aXM a)) (fun _ => rfl) rfl (by decide) inX tb_104 rfl rfl d_X_levelOfGap_1 ?_
  refine lv_iload_n S.1 S.2.1 d_X_levelOfGap_4 rfl (lv_at hl 1 rfl) ?_
  refine cx_rd S hw (hw.fit hbud) (As := [.int o]) (rest := []) (c_M_register l D cI cP a κ np σ o) (q0 := 2) (fun _ => rfl) rfl tb_226 tb_223 tb_224 tb_225 tb_3 hd_M_register rfl ⟨by omega, by omega⟩ hl.1 rfl (Nat.le_of_ble_eq_true rfl) d_X_levelOfGap_5 ?_
  refine lv_istore (lv' := [(4, .int (sh_reg σ o)), (0, .ref (aXX a)), (1, .int o), (2, .int h), (3, .int i)]) S.1 S.2.1 d_X_levelOfGap_8 hl (by decide) rfl (fun ls hl => ?_)
  refine lv_iload_n S.1 S.2.1 d_X_levelOfGap_10 rfl (lv_at hl 3 rfl) ?_
  refine cx_fn S (As := [.int h]) (rest := []) (c_H_height l h) tb_287 tb_285 tb_286 tb_6 hdf_H_height rfl ⟨by omega, by omega⟩ hl.1 rfl (Nat.le_of_ble_eq_true rfl) d_X_levelOfGap_11 (hw.fit hbud) ?_
  refine lv_istore (lv' := [(5, .int (hd_height h)), (4, .int (sh_reg σ o)), (0, .ref (aXX a)), (1, .int o), (2, .int h), (3, .int i)]) S.1 S.2.1 d_X_levelOfGap_14 hl (by decide) rfl (fun ls hl => ?_)
  exact lp_gap S hr hlk hbud (by omega) (by omega) 3 σ _ _ _ _ ls (sh_gap κ σ o h i) rfl (gp_height h).1 hw (lv_sub hl [0, 1, 2, 3, 4, 5] rfl)
theorem wy_zero {ab v : Int32} {n : Nat} (h : ab.toInt ≤ v.toInt + (0 : Nat)) : ab ≤ v := by
  rw [Int32.le_iff_toInt_le]
  omega
theorem wy_dec {ab v : Int32} {n : Nat} (h : ab.toInt ≤ v.toInt + (n + 1 : Nat)) (h1 : ¬ ab ≤ v) (h0 : -1 ≤ v.toInt) : (ab + (-1)).toInt ≤ v.toInt + n := by
  rw [Int32.le_iff_toInt_le] at h1
  obtain ⟨k, hk, rfl⟩ := nI_of (x := ab) (fun z => by rw [Int32.lt_iff_toInt_lt, Int32.toInt_zero] at z; omega)
  rw [nI_toInt hk] at h h1
  cases k with
  | zero =>
    have : (nI 0 + (-1) : Int32).toInt = -1 := by decide
    omega
  | succ k =>
    rw [pk_m1, nI_toInt (by omega)]
    omega
section LPY
variable {p : Program} {l : Launch} {e : Env} {R : Room} {s : State} {m : MethodId} {args : Array Value} {below : List Frame} {meth : Method} {c : Code} {Q : State → Prop} {D : va_G} {cI cP : ClassId} {a : cx_a} {κ : sh_K} {np n0 : Nat} {A : Nat → Prop} {c1 : Cond}
set_option maxHeartbeats 4000000 in
set_option maxRecDepth 100000 in
theorem lp_way (S : CallFix p m c b_X_cellOnWay 7 s args (c1 :: bt) "StepHeap") (hbud : 2 * (np - n0) ≤ R.cells ∧ 1025 * (np - n0) ≤ R.slots) (hfr : 5 ≤ R.frames) (hlc : 101 ≤ R.locals) {o h i v : Int32} (h0 : -1 ≤ v.toInt) :
    ∀ (n : Nat) (τ : sh_S) (nd ab : Int32) (H : Heap) (locs : List Loc) (ls : Array Slot), ab.toInt ≤ v.toInt + (n : Nat) → cx_Wd D cI cP a κ np s A n0 τ H locs → lv_has ls 7 [(6, .int ab), (5, .int nd), (0, .ref (aXX a)), (1, .int o), (2, .int h), (3, .int i), (4, .int v)] →
    (∀ (H' : Heap) (locs' : List Loc) (ls' : Array Slot) (ab' : Int32), cx_Wd D cI cP a κ np s A n0 (sh_wayN κ τ i v nd ab n).2 H' locs' → lv_has ls' 7 [(6, .int ab'), (5, .int (sh_wayN κ τ i v nd ab n).1), (0, .ref (aXX a)), (1, .int o), (2, .int h), (3, .int i), (4, .int v)] → W p l e R s m args below meth c H' locs' (2 * (nal ((sh_wayN κ τ i v nd ab n).2) - n0)) (1025 * (nal ((sh_wayN κ τ i v nd ab n).2) - n0)) Q (F0 m 49 ls' [])) →
    W p l e R s m args below meth c H locs (2 * (nal (τ) - n0)) (1025 * (nal (τ) - n0)) Q (F0 m 16 ls []) := by
  intro n
  induction n with
  | zero =>
    intro τ nd ab H locs ls hm hw hl K
    refine lv_iload S.1 S.2.1 d_X_cellOnWay_16 (lv_at hl 0 rfl) ?_
    refine lv_iload S.1 S.2.1 d_X_cellOnWay_18 (lv_at hl 6 rfl) ?_
    refine lv_icmp_le (tgt := 49) S.1 S.2.1 d_X_cellOnWay_20 (by decide) (fun c_1 => ?_) (fun c_1 => ?_)
    · exact K H locs ls ab hw hl
    · exact absurd (wy_zero (n := 0) hm) c_1
  | succ n ih =>
    intro τ nd ab H locs ls hm hw hl K
    refine lv_iload S.1 S.2.1 d_X_cellOnWay_16 (lv_at hl 0 rfl) ?_
    refine lv_iload S.1 S.2.1 d_X_cellOnWay_18 (lv_at hl 6 rfl) ?_
    refine lv_icmp_le (tgt := 49) S.1 S.2.1 d_X_cellOnWay_20 (by decide) (fun c_1 => ?_) (fun c_1 => ?_)
    · have eN : sh_wayN κ τ i v nd ab (n + 1) = (nd, τ) := by rw [sh_wayN]; simp only [if_pos c_1]
      rw [eN] at K
      exact K H locs ls ab hw hl
    · refine lv_aload_n S.1 S.2.1 d_X_cellOnWay_23 rfl (lv_at hl 2 rfl) ?_
      refine cx_get S hw (q0 := 0) (ci := 0) (k := 1) (v := .ref (aXM a)) (fun _ => rfl) rfl (by decide) inX tb_104 rfl rfl d_X_cellOnWay_24 ?_
      refine lv_iload S.1 S.2.1 d_X_cellOnWay_27 (lv_at hl 1 rfl) ?_
      refine lv_iconst (v := 1) S.1 S.2.1 d_X_cellOnWay_29 (by decide) ?_
      refine lv_iadd S.1 S.2.1 d_X_cellOnWay_30 ?_
      refine lv_iload_n S.1 S.2.1 d_X_cellOnWay_31 rfl (lv_at hl 5 rfl) ?_
      refine lv_iload S.1 S.2.1 d_X_cellOnWay_32 (lv_at hl 0 rfl) ?_
      refine cx_fn S (As := [.int i, .int ab]) (rest := [.int (nd + 1), .ref (aXM a)]) (c_X_slot l i ab) tb_290 tb_288 tb_289 tb_1 hdf_X_slot rfl ⟨by omega, by omega⟩ hl.1 rfl (Nat.le_of_ble_eq_true rfl) d_X_cellOnWay_34 (hw.fit hbud) ?_
      refine lv_iadd S.1 S.2.1 d_X_cellOnWay_37 ?_
      refine cx_call S hw hbud (As := [.int ((nd + 1) + (sh_slot i ab))]) (rest := []) (c_M_follow l D cI cP a κ np τ ((nd + 1) + (sh_slot i ab))) (q0 := 2) (fun _ => rfl) rfl tb_241 tb_238 tb_239 tb_240 tb_3 hd_M_follow rfl ⟨by omega, by omega⟩ hl.1 rfl (Nat.le_of_ble_eq_true rfl) d_X_cellOnWay_38 (fun H locs hw => ?_)
      generalize hq_1 : sh_follow κ τ ((nd + 1) + (sh_slot i ab)) = q_1 at hw ⊢
      refine W.eq (g2 := F0 m 41 ls [.int q_1.1]) rfl ?_
      refine lv_istore (lv' := [(5, .int q_1.1), (6, .int ab), (0, .ref (aXX a)), (1, .int o), (2, .int h), (3, .int i), (4, .int v)]) S.1 S.2.1 d_X_cellOnWay_41 hl (by decide) rfl (fun ls hl => ?_)
      refine lv_iinc (v := ab + (-1)) (lv' := [(6, .int (ab + (-1))), (5, .int q_1.1), (0, .ref (aXX a)), (1, .int o), (2, .int h), (3, .int i), (4, .int v)]) S.1 S.2.1 d_X_cellOnWay_43 hl (k := 1) rfl rfl (by decide) rfl (fun ls hl => ?_)
      refine lv_goto (tgt := 16) S.1 S.2.1 d_X_cellOnWay_46 (by decide) ?_
      have eN : sh_wayN κ τ i v nd ab (n + 1) = sh_wayN κ q_1.2 i v q_1.1 (ab + (-1)) n := by rw [sh_wayN]; simp only [if_neg c_1, hq_1]
      rw [eN] at K
      exact ih q_1.2 q_1.1 (ab + (-1)) H locs ls (wy_dec hm c_1 h0) hw (lv_sub hl [0, 1, 2, 3, 4, 5, 6] rfl) K
end LPY
end
section
/-! ===== StepHeap: cellOnWay, openWay ===== -/
theorem gp_pos {κ : sh_K} {i : Int32} : ∀ (n : Nat) (σ : sh_S) (nd lv : Int32), 0 ≤ (sh_gapN κ σ i nd lv n).1.toInt
  | 0, _, _, _ => by rw [sh_gapN]; exact Int.le_refl 0
  | n + 1, σ, nd, lv => by
    rw [sh_gapN]
    generalize sh_follow κ σ (nd + 1 + sh_slot i lv) = q
    by_cases h : lv ≤ 0
    · simp only [if_pos h]; exact Int.le_refl 0
    · simp only [if_neg h]
      by_cases h2 : q.1 = 0
      · simp only [if_pos h2]
        rw [Int32.le_iff_toInt_le, Int32.toInt_zero] at h
        omega
      · simp only [if_neg h2]
        exact gp_pos n _ _ _
theorem gp_pos2 {κ : sh_K} {σ : sh_S} {o h i : Int32} : -1 ≤ (sh_gap κ σ o h i).1.toInt := by
  have := gp_pos (κ := κ) (i := i) 3 σ (sh_reg σ o) (hd_height h)
  unfold sh_gap
  omega
theorem wy_h {h v : Int32} (hv : -1 ≤ v.toInt) : (hd_height h).toInt ≤ v.toInt + (3 : Nat) := by
  rcases (gp_height h).2 with e | e | e <;> rw [e]
  · rw [show (0 : Int32).toInt = 0 from rfl]; omega
  · rw [show (1 : Int32).toInt = 1 from rfl]; omega
  · rw [show (2 : Int32).toInt = 2 from rfl]; omega
theorem z1_refIt {h : Int32} (hz : ¬ hd_refIt h = 0) : hd_refIt h = 1 := (z_refIt h).resolve_left hz
set_option maxHeartbeats 4000000 in
set_option maxRecDepth 100000 in
theorem c_X_cellOnWay (l : Launch) (D : va_G) (cI cP : ClassId) (a : cx_a) (κ : sh_K) (np : Nat) (σ : sh_S) (o h i v : Int32) (hv : -1 ≤ v.toInt) : cx_Met l D cI cP a κ np y_X_cellOnWay b_X_cellOnWay 7 (some .int) 5 101 [.ref (aXX a), .int o, .int h, .int i, .int v] σ (some (.int ((sh_way κ σ o h i v).1))) ((sh_way κ σ o h i v).2) := by
  refine cx_start (by decide) (Nat.le_of_ble_eq_true rfl) mo_way ?_
  intro p e R s m args below meth c A ls S hr hlk hfr hlc hw hbud hl
  have hl : lv_has ls 7 [(0, .ref (aXX a)), (1, .int o), (2, .int h), (3, .int i), (4, .int v)] := hl
  refine lv_aload_n S.1 S.2.1 d_X_cellOnWay_0 rfl (lv_at hl 0 rfl) ?_
  refine cx_get S hw (q0 := 0) (ci := 0) (k := 1) (v := .ref (aXM a)) (fun _ => rfl) rfl (by decide) inX tb_104 rfl rfl d_X_cellOnWay_1 ?_
  refine lv_iload_n S.1 S.2.1 d_X_cellOnWay_4 rfl (lv_at hl 1 rfl) ?_
  refine cx_rd S hw (hw.fit hbud) (As := [.int o]) (rest := []) (c_M_register l D cI cP a κ np σ o) (q0 := 2) (fun _ => rfl) rfl tb_226 tb_223 tb_224 tb_225 tb_3 hd_M_register rfl ⟨by omega, by omega⟩ hl.1 rfl (Nat.le_of_ble_eq_true rfl) d_X_cellOnWay_5 ?_
  refine lv_istore (lv' := [(5, .int (sh_reg σ o)), (0, .ref (aXX a)), (1, .int o), (2, .int h), (3, .int i), (4, .int v)]) S.1 S.2.1 d_X_cellOnWay_8 hl (by decide) rfl (fun ls hl => ?_)
  refine lv_iload_n S.1 S.2.1 d_X_cellOnWay_10 rfl (lv_at hl 3 rfl) ?_
  refine cx_fn S (As := [.int h]) (rest := []) (c_H_height l h) tb_287 tb_285 tb_286 tb_6 hdf_H_height rfl ⟨by omega, by omega⟩ hl.1 rfl (Nat.le_of_ble_eq_true rfl) d_X_cellOnWay_11 (hw.fit hbud) ?_
  refine lv_istore (lv' := [(6, .int (hd_height h)), (5, .int (sh_reg σ o)), (0, .ref (aXX a)), (1, .int o), (2, .int h), (3, .int i), (4, .int v)]) S.1 S.2.1 d_X_cellOnWay_14 hl (by decide) rfl (fun ls hl => ?_)
  refine lp_way S hbud (by omega) (by omega) hv 3 σ (sh_reg σ o) (hd_height h) _ _ ls (wy_h hv) hw (lv_sub hl [0, 1, 2, 3, 4, 5, 6] rfl) (fun H locs ls ab hw hl => ?_)
  generalize hq_1 : sh_wayN κ σ i v (sh_reg σ o) (hd_height h) 3 = q_1 at hw hl ⊢
  refine lv_iload S.1 S.2.1 d_X_cellOnWay_49 (lv_at hl 1 rfl) ?_
  refine lv_iconst (v := 1) S.1 S.2.1 d_X_cellOnWay_51 (by decide) ?_
  refine lv_iadd S.1 S.2.1 d_X_cellOnWay_52 ?_
  refine lv_iload_n S.1 S.2.1 d_X_cellOnWay_53 rfl (lv_at hl 5 rfl) ?_
  refine lv_iload S.1 S.2.1 d_X_cellOnWay_54 (lv_at hl 6 rfl) ?_
  refine cx_fn S (As := [.int i, .int v]) (rest := [.int (q_1.1 + 1)]) (c_X_slot l i v) tb_290 tb_288 tb_289 tb_1 hdf_X_slot rfl ⟨by omega, by omega⟩ hl.1 rfl (Nat.le_of_ble_eq_true rfl) d_X_cellOnWay_56 (hw.fit hbud) ?_
  refine lv_iadd S.1 S.2.1 d_X_cellOnWay_59 ?_
  exact cx_retI S hr hlk hw hbud (by unfold sh_way; simp only [hq_1]) (by unfold sh_way; simp only [hq_1]) d_X_cellOnWay_60
set_option maxHeartbeats 4000000 in
set_option maxRecDepth 100000 in
theorem c_X_openWay (l : Launch) (D : va_G) (cI cP : ClassId) (a : cx_a) (κ : sh_K) (np : Nat) (σ : sh_S) (o h i : Int32) : cx_Met l D cI cP a κ np y_X_openWay b_X_openWay 6 (some .int) 6 127 [.ref (aXX a), .int o, .int h, .int i] σ (some (.int ((sh_open κ σ o h i).1))) ((sh_open κ σ o h i).2) := by
  refine cx_start (by decide) (Nat.le_of_ble_eq_true rfl) mo_open ?_
  intro p e R s m args below meth c A ls S hr hlk hfr hlc hw hbud hl
  have hl : lv_has ls 6 [(0, .ref (aXX a)), (1, .int o), (2, .int h), (3, .int i)] := hl
  refine lv_aload_n S.1 S.2.1 d_X_openWay_0 rfl (lv_at hl 0 rfl) ?_
  refine lv_iload_n S.1 S.2.1 d_X_openWay_1 rfl (lv_at hl 1 rfl) ?_
  refine lv_iload_n S.1 S.2.1 d_X_openWay_2 rfl (lv_at hl 2 rfl) ?_
  refine lv_iload_n S.1 S.2.1 d_X_openWay_3 rfl (lv_at hl 3 rfl) ?_
  refine cx_call S hw hbud (As := [.int o, .int h, .int i]) (rest := []) (c_X_levelOfGap l D cI cP a κ np σ o h i) (q0 := 0) (fun _ => rfl) rfl tb_284 tb_281 tb_283 tp_10 tb_1 hd_X_levelOfGap rfl ⟨by omega, by omega⟩ hl.1 rfl (Nat.le_of_ble_eq_true rfl) d_X_openWay_4 (fun H locs hw => ?_)
  generalize hq_1 : sh_gap κ σ o h i = q_1 at hw ⊢
  refine W.eq (g2 := F0 m 7 ls [.int q_1.1]) rfl ?_
  refine lv_istore (lv' := [(4, .int q_1.1), (0, .ref (aXX a)), (1, .int o), (2, .int h), (3, .int i)]) S.1 S.2.1 d_X_openWay_7 hl (by decide) rfl (fun ls hl => ?_)
  refine lv_iload S.1 S.2.1 d_X_openWay_9 (lv_at hl 0 rfl) ?_
  refine lv_if_ne (tgt := 16) S.1 S.2.1 d_X_openWay_11 (by decide) (fun c_1 => ?_) (fun c_1 => ?_)
  · refine lv_aload_n S.1 S.2.1 d_X_openWay_16 rfl (lv_at hl 1 rfl) ?_
    refine cx_get S hw (q0 := 0) (ci := 0) (k := 1) (v := .ref (aXM a)) (fun _ => rfl) rfl (by decide) inX tb_104 rfl rfl d_X_openWay_17 ?_
    refine lv_bipush (v := 16) S.1 S.2.1 d_X_openWay_20 (by decide) ?_
    refine cx_call S hw hbud (As := [.int 16]) (rest := []) (c_M_hasRoom l D cI cP a κ np q_1.2 16) (q0 := 2) (fun _ => rfl) rfl tb_146 tb_143 tb_144 tb_145 tb_3 hd_M_hasRoom rfl ⟨by omega, by omega⟩ hl.1 rfl (Nat.le_of_ble_eq_true rfl) d_X_openWay_22 (fun H locs hw => ?_)
    generalize hq_2 : sh_room κ q_1.2 16 = q_2 at hw ⊢
    refine W.eq (g2 := F0 m 25 ls [.int q_2.1]) rfl ?_
    refine lv_if_ne (tgt := 30) S.1 S.2.1 d_X_openWay_25 (by decide) (fun c_2 => ?_) (fun c_2 => ?_)
    · refine lv_aload_n S.1 S.2.1 d_X_openWay_30 rfl (lv_at hl 1 rfl) ?_
      refine cx_get S hw (q0 := 0) (ci := 0) (k := 1) (v := .ref (aXM a)) (fun _ => rfl) rfl (by decide) inX tb_104 rfl rfl d_X_openWay_31 ?_
      refine lv_iload S.1 S.2.1 d_X_openWay_34 (lv_at hl 0 rfl) ?_
      refine lv_iconst (v := 1) S.1 S.2.1 d_X_openWay_36 (by decide) ?_
      refine lv_icmp_gt (tgt := 47) S.1 S.2.1 d_X_openWay_37 (by decide) (fun c_3 => ?_) (fun c_3 => ?_)
      · have c_3n := i32_nle c_3
        refine lv_iconst (v := 1) S.1 S.2.1 d_X_openWay_47 (by decide) ?_
        refine lv_goto (tgt := 52) S.1 S.2.1 d_X_openWay_48 (by decide) ?_
        refine cx_fn S (As := [.int 1]) (rest := [.ref (aXM a)]) (c_H_ofNode l 1) tb_213 tb_304 tb_212 tb_6 hdf_H_ofNode rfl ⟨by omega, by omega⟩ hl.1 rfl (Nat.le_of_ble_eq_true rfl) d_X_openWay_52 (hw.fit hbud) ?_
        refine cx_call S hw hbud (As := [.int (hd_node 1)]) (rest := []) (c_M_place l D cI cP a κ np q_2.2 (hd_node 1)) (q0 := 2) (fun _ => rfl) rfl tb_193 tb_190 tb_191 tb_192 tb_3 hd_M_place rfl ⟨by omega, by omega⟩ hl.1 rfl (Nat.le_of_ble_eq_true rfl) d_X_openWay_55 (fun H locs hw => ?_)
        generalize hq_3 : sh_place κ q_2.2 (hd_node 1) = q_3 at hw ⊢
        refine W.eq (g2 := F0 m 58 ls [.int q_3.1]) rfl ?_
        refine lv_istore (lv' := [(5, .int q_3.1), (4, .int q_1.1), (0, .ref (aXX a)), (1, .int o), (2, .int h), (3, .int i)]) S.1 S.2.1 d_X_openWay_58 hl (by decide) rfl (fun ls hl => ?_)
        refine lv_aload_n S.1 S.2.1 d_X_openWay_60 rfl (lv_at hl 2 rfl) ?_
        refine cx_get S hw (q0 := 0) (ci := 0) (k := 1) (v := .ref (aXM a)) (fun _ => rfl) rfl (by decide) inX tb_104 rfl rfl d_X_openWay_61 ?_
        refine lv_aload_n S.1 S.2.1 d_X_openWay_64 rfl (lv_at hl 2 rfl) ?_
        refine lv_iload_n S.1 S.2.1 d_X_openWay_65 rfl (lv_at hl 3 rfl) ?_
        refine lv_iload_n S.1 S.2.1 d_X_openWay_66 rfl (lv_at hl 4 rfl) ?_
        refine lv_iload_n S.1 S.2.1 d_X_openWay_67 rfl (lv_at hl 5 rfl) ?_
        refine lv_iload S.1 S.2.1 d_X_openWay_68 (lv_at hl 1 rfl) ?_
        refine cx_call S hw hbud (As := [.int o, .int h, .int i, .int q_1.1]) (rest := [.ref (aXM a)]) (c_X_cellOnWay l D cI cP a κ np q_3.2 o h i q_1.1 (by rw [← hq_1]; exact gp_pos2)) (q0 := 0) (fun _ => rfl) rfl tb_294 tb_291 tb_293 tp_11 tb_1 hd_X_cellOnWay rfl ⟨by omega, by omega⟩ hl.1 rfl (Nat.le_of_ble_eq_true rfl) d_X_openWay_70 (fun H locs hw => ?_)
        generalize hq_4 : sh_way κ q_3.2 o h i q_1.1 = q_4 at hw ⊢
        refine W.eq (g2 := F0 m 73 ls [.int q_4.1, .ref (aXM a)]) rfl ?_
        refine lv_iload S.1 S.2.1 d_X_openWay_73 (lv_at hl 0 rfl) ?_
        refine cx_call S hw hbud (As := [.int q_4.1, .int q_3.1]) (rest := []) (c_M_link l D cI cP a κ np q_4.2 q_4.1 q_3.1) (q0 := 2) (fun _ => rfl) rfl tb_249 tb_246 tb_247 tb_248 tb_3 hd_M_link rfl ⟨by omega, by omega⟩ hl.1 rfl (Nat.le_of_ble_eq_true rfl) d_X_openWay_75 (fun H locs hw => ?_)
        generalize hq_5 : sh_link κ q_4.2 q_4.1 q_3.1 = q_5 at hw ⊢
        refine W.eq (g2 := F0 m 78 ls []) rfl ?_
        refine lv_iconst (v := 2) S.1 S.2.1 d_X_openWay_78 (by decide) ?_
        exact cx_retI S hr hlk hw hbud (by first | (unfold sh_open; simp only [hq_1, if_neg c_1, hq_2, if_neg c_2, if_pos c_3, if_neg c_3n, hq_3, hq_4, hq_5]; done)) (by first | (unfold sh_open; simp only [hq_1, if_neg c_1, hq_2, if_neg c_2, if_pos c_3, if_neg c_3n, hq_3, hq_4, hq_5]; done)) d_X_openWay_79
      · have c_3n := i32_le c_3
        refine lv_iload_n S.1 S.2.1 d_X_openWay_40 rfl (lv_at hl 3 rfl) ?_
        refine cx_fn S (As := [.int h]) (rest := [.ref (aXM a)]) (c_H_hasReferenceItems l h) tb_277 tb_303 tb_276 tb_6 hdf_H_hasReferenceItems rfl ⟨by omega, by omega⟩ hl.1 rfl (Nat.le_of_ble_eq_true rfl) d_X_openWay_41 (hw.fit hbud) ?_
        refine lv_if_eq (tgt := 51) S.1 S.2.1 d_X_openWay_44 (by decide) (fun c_4 => ?_) (fun c_4 => ?_)
        · refine lv_iconst (v := 0) S.1 S.2.1 d_X_openWay_51 (by decide) ?_
          refine cx_fn S (As := [.int 0]) (rest := [.ref (aXM a)]) (c_H_ofNode l 0) tb_213 tb_304 tb_212 tb_6 hdf_H_ofNode rfl ⟨by omega, by omega⟩ hl.1 rfl (Nat.le_of_ble_eq_true rfl) d_X_openWay_52 (hw.fit hbud) ?_
          refine cx_call S hw hbud (As := [.int (hd_node 0)]) (rest := []) (c_M_place l D cI cP a κ np q_2.2 (hd_node 0)) (q0 := 2) (fun _ => rfl) rfl tb_193 tb_190 tb_191 tb_192 tb_3 hd_M_place rfl ⟨by omega, by omega⟩ hl.1 rfl (Nat.le_of_ble_eq_true rfl) d_X_openWay_55 (fun H locs hw => ?_)
          generalize hq_6 : sh_place κ q_2.2 (hd_node 0) = q_6 at hw ⊢
          refine W.eq (g2 := F0 m 58 ls [.int q_6.1]) rfl ?_
          refine lv_istore (lv' := [(5, .int q_6.1), (4, .int q_1.1), (0, .ref (aXX a)), (1, .int o), (2, .int h), (3, .int i)]) S.1 S.2.1 d_X_openWay_58 hl (by decide) rfl (fun ls hl => ?_)
          refine lv_aload_n S.1 S.2.1 d_X_openWay_60 rfl (lv_at hl 2 rfl) ?_
          refine cx_get S hw (q0 := 0) (ci := 0) (k := 1) (v := .ref (aXM a)) (fun _ => rfl) rfl (by decide) inX tb_104 rfl rfl d_X_openWay_61 ?_
          refine lv_aload_n S.1 S.2.1 d_X_openWay_64 rfl (lv_at hl 2 rfl) ?_
          refine lv_iload_n S.1 S.2.1 d_X_openWay_65 rfl (lv_at hl 3 rfl) ?_
          refine lv_iload_n S.1 S.2.1 d_X_openWay_66 rfl (lv_at hl 4 rfl) ?_
          refine lv_iload_n S.1 S.2.1 d_X_openWay_67 rfl (lv_at hl 5 rfl) ?_
          refine lv_iload S.1 S.2.1 d_X_openWay_68 (lv_at hl 1 rfl) ?_
          refine cx_call S hw hbud (As := [.int o, .int h, .int i, .int q_1.1]) (rest := [.ref (aXM a)]) (c_X_cellOnWay l D cI cP a κ np q_6.2 o h i q_1.1 (by rw [← hq_1]; exact gp_pos2)) (q0 := 0) (fun _ => rfl) rfl tb_294 tb_291 tb_293 tp_11 tb_1 hd_X_cellOnWay rfl ⟨by omega, by omega⟩ hl.1 rfl (Nat.le_of_ble_eq_true rfl) d_X_openWay_70 (fun H locs hw => ?_)
          generalize hq_7 : sh_way κ q_6.2 o h i q_1.1 = q_7 at hw ⊢
          refine W.eq (g2 := F0 m 73 ls [.int q_7.1, .ref (aXM a)]) rfl ?_
          refine lv_iload S.1 S.2.1 d_X_openWay_73 (lv_at hl 0 rfl) ?_
          refine cx_call S hw hbud (As := [.int q_7.1, .int q_6.1]) (rest := []) (c_M_link l D cI cP a κ np q_7.2 q_7.1 q_6.1) (q0 := 2) (fun _ => rfl) rfl tb_249 tb_246 tb_247 tb_248 tb_3 hd_M_link rfl ⟨by omega, by omega⟩ hl.1 rfl (Nat.le_of_ble_eq_true rfl) d_X_openWay_75 (fun H locs hw => ?_)
          generalize hq_8 : sh_link κ q_7.2 q_7.1 q_6.1 = q_8 at hw ⊢
          refine W.eq (g2 := F0 m 78 ls []) rfl ?_
          refine lv_iconst (v := 2) S.1 S.2.1 d_X_openWay_78 (by decide) ?_
          exact cx_retI S hr hlk hw hbud (by first | (unfold sh_open; simp only [hq_1, if_neg c_1, hq_2, if_neg c_2, if_neg c_3, if_pos c_3n, hq_6, hq_7, hq_8, c_4]; done) | (unfold sh_open; simp only [hq_1, if_neg c_1, hq_2, if_neg c_2, if_neg c_3, if_pos c_3n, if_pos c_4, hq_6, hq_7, hq_8]; done)) (by first | (unfold sh_open; simp only [hq_1, if_neg c_1, hq_2, if_neg c_2, if_neg c_3, if_pos c_3n, hq_6, hq_7, hq_8, c_4]; done) | (unfold sh_open; simp only [hq_1, if_neg c_1, hq_2, if_neg c_2, if_neg c_3, if_pos c_3n, if_pos c_4, hq_6, hq_7, hq_8]; done)) d_X_openWay_79
        · refine lv_iconst (v := 1) S.1 S.2.1 d_X_openWay_47 (by decide) ?_
          refine lv_goto (tgt := 52) S.1 S.2.1 d_X_openWay_48 (by decide) ?_
          refine cx_fn S (As := [.int 1]) (rest := [.ref (aXM a)]) (c_H_ofNode l 1) tb_213 tb_304 tb_212 tb_6 hdf_H_ofNode rfl ⟨by omega, by omega⟩ hl.1 rfl (Nat.le_of_ble_eq_true rfl) d_X_openWay_52 (hw.fit hbud) ?_
          refine cx_call S hw hbud (As := [.int (hd_node 1)]) (rest := []) (c_M_place l D cI cP a κ np q_2.2 (hd_node 1)) (q0 := 2) (fun _ => rfl) rfl tb_193 tb_190 tb_191 tb_192 tb_3 hd_M_place rfl ⟨by omega, by omega⟩ hl.1 rfl (Nat.le_of_ble_eq_true rfl) d_X_openWay_55 (fun H locs hw => ?_)
          generalize hq_9 : sh_place κ q_2.2 (hd_node 1) = q_9 at hw ⊢
          refine W.eq (g2 := F0 m 58 ls [.int q_9.1]) rfl ?_
          refine lv_istore (lv' := [(5, .int q_9.1), (4, .int q_1.1), (0, .ref (aXX a)), (1, .int o), (2, .int h), (3, .int i)]) S.1 S.2.1 d_X_openWay_58 hl (by decide) rfl (fun ls hl => ?_)
          refine lv_aload_n S.1 S.2.1 d_X_openWay_60 rfl (lv_at hl 2 rfl) ?_
          refine cx_get S hw (q0 := 0) (ci := 0) (k := 1) (v := .ref (aXM a)) (fun _ => rfl) rfl (by decide) inX tb_104 rfl rfl d_X_openWay_61 ?_
          refine lv_aload_n S.1 S.2.1 d_X_openWay_64 rfl (lv_at hl 2 rfl) ?_
          refine lv_iload_n S.1 S.2.1 d_X_openWay_65 rfl (lv_at hl 3 rfl) ?_
          refine lv_iload_n S.1 S.2.1 d_X_openWay_66 rfl (lv_at hl 4 rfl) ?_
          refine lv_iload_n S.1 S.2.1 d_X_openWay_67 rfl (lv_at hl 5 rfl) ?_
          refine lv_iload S.1 S.2.1 d_X_openWay_68 (lv_at hl 1 rfl) ?_
          refine cx_call S hw hbud (As := [.int o, .int h, .int i, .int q_1.1]) (rest := [.ref (aXM a)]) (c_X_cellOnWay l D cI cP a κ np q_9.2 o h i q_1.1 (by rw [← hq_1]; exact gp_pos2)) (q0 := 0) (fun _ => rfl) rfl tb_294 tb_291 tb_293 tp_11 tb_1 hd_X_cellOnWay rfl ⟨by omega, by omega⟩ hl.1 rfl (Nat.le_of_ble_eq_true rfl) d_X_openWay_70 (fun H locs hw => ?_)
          generalize hq_10 : sh_way κ q_9.2 o h i q_1.1 = q_10 at hw ⊢
          refine W.eq (g2 := F0 m 73 ls [.int q_10.1, .ref (aXM a)]) rfl ?_
          refine lv_iload S.1 S.2.1 d_X_openWay_73 (lv_at hl 0 rfl) ?_
          refine cx_call S hw hbud (As := [.int q_10.1, .int q_9.1]) (rest := []) (c_M_link l D cI cP a κ np q_10.2 q_10.1 q_9.1) (q0 := 2) (fun _ => rfl) rfl tb_249 tb_246 tb_247 tb_248 tb_3 hd_M_link rfl ⟨by omega, by omega⟩ hl.1 rfl (Nat.le_of_ble_eq_true rfl) d_X_openWay_75 (fun H locs hw => ?_)
          generalize hq_11 : sh_link κ q_10.2 q_10.1 q_9.1 = q_11 at hw ⊢
          refine W.eq (g2 := F0 m 78 ls []) rfl ?_
          refine lv_iconst (v := 2) S.1 S.2.1 d_X_openWay_78 (by decide) ?_
          exact cx_retI S hr hlk hw hbud (by first | (unfold sh_open; simp only [hq_1, if_neg c_1, hq_2, if_neg c_2, if_neg c_3, if_pos c_3n, hq_9, hq_10, hq_11, z1_refIt c_4]; done) | (unfold sh_open; simp only [hq_1, if_neg c_1, hq_2, if_neg c_2, if_neg c_3, if_pos c_3n, if_neg c_4, hq_9, hq_10, hq_11]; done)) (by first | (unfold sh_open; simp only [hq_1, if_neg c_1, hq_2, if_neg c_2, if_neg c_3, if_pos c_3n, hq_9, hq_10, hq_11, z1_refIt c_4]; done) | (unfold sh_open; simp only [hq_1, if_neg c_1, hq_2, if_neg c_2, if_neg c_3, if_pos c_3n, if_neg c_4, hq_9, hq_10, hq_11]; done)) d_X_openWay_79
    · refine lv_iconst (v := 0) S.1 S.2.1 d_X_openWay_28 (by decide) ?_
      exact cx_retI S hr hlk hw hbud (by first | (unfold sh_open; simp only [hq_1, if_neg c_1, hq_2, if_pos c_2]; done)) (by first | (unfold sh_open; simp only [hq_1, if_neg c_1, hq_2, if_pos c_2]; done)) d_X_openWay_29
  · refine lv_iconst (v := 1) S.1 S.2.1 d_X_openWay_14 (by decide) ?_
    exact cx_retI S hr hlk hw hbud (by first | (unfold sh_open; simp only [hq_1, if_pos c_1]; done)) (by first | (unfold sh_open; simp only [hq_1, if_pos c_1]; done)) d_X_openWay_15
end
section
/-! ===== THE FACE, as functions ===== -/
def sh_make (κ : sh_K) (σ : sh_S) (r n i : Int32) : Int32 × sh_S := if sh_isReg r = 0 then (-1, σ) else if sh_shape n i = 0 then (-1, σ) else sh_fill κ σ r (hd_obj n i)
def sh_array (κ : sh_K) (σ : sh_S) (r n b : Int32) : Int32 × sh_S := if sh_isReg r = 0 then (-1, σ) else if n < 0 then (-1, σ) else if n ≤ 3375 then sh_fill κ σ r (hd_arr n b) else (-1, σ)
def sh_get (κ : sh_K) (σ : sh_S) (t o f : Int32) : Int32 × sh_S :=
  let q := sh_head κ σ o
  if sh_isReg t = 0 then (0, q.2) else if sh_below f (hd_refs q.1) = 0 then (0, q.2) else
  let u := sh_follow κ q.2 (sh_reg q.2 o + 1 + f)
  (1, sh_setReg u.2 t u.1)
def sh_putF (κ : sh_K) (σ : sh_S) (o f r : Int32) : Int32 × sh_S :=
  let q := sh_head κ σ o
  if sh_isReg r = 0 then (0, q.2) else if sh_below f (hd_refs q.1) = 0 then (0, q.2) else (1, sh_link κ q.2 (sh_reg q.2 o + 1 + f) (sh_reg q.2 r))
def sh_look (κ : sh_K) (σ : sh_S) (o f : Int32) : Int64 × sh_S :=
  let q := sh_head κ σ o
  if sh_below f (hd_ints q.1) = 0 then (-9223372036854775808, q.2) else ((sh_val κ q.2.1 (sh_reg q.2 o + 1 + hd_refs q.1 + f)).toInt64, uC q.2 (sh_touch κ q.2.1))
def sh_set (κ : sh_K) (σ : sh_S) (o f v : Int32) : Int32 × sh_S :=
  let q := sh_head κ σ o
  if sh_below f (hd_ints q.1) = 0 then (0, q.2) else (1, uC q.2 (sh_write κ q.2.1 (sh_reg q.2 o + 1 + hd_refs q.1 + f) v))
def sh_getItem (κ : sh_K) (σ : sh_S) (t o i : Int32) : Int32 × sh_S :=
  let q := sh_head κ σ o
  if sh_isReg t = 0 then (0, q.2) else if sh_below i (hd_items q.1 1) = 0 then (0, q.2) else
  let g := sh_gap κ q.2 o q.1 i
  if g.1 = 0 then
    let w := sh_way κ g.2 o q.1 i 0
    let u := sh_follow κ w.2 w.1
    (1, sh_setReg u.2 t u.1)
  else (1, sh_setReg g.2 t 0)
def sh_putItem (κ : sh_K) (σ : sh_S) (o i r : Int32) : Int32 × sh_S :=
  let q := sh_head κ σ o
  if sh_isReg r = 0 then (-1, q.2) else if sh_below i (hd_items q.1 1) = 0 then (-1, q.2) else
  let a := sh_open κ q.2 o q.1 i
  if a.1 = 1 then
    let w := sh_way κ a.2 o q.1 i 0
    (a.1, sh_link κ w.2 w.1 (sh_reg w.2 r))
  else (a.1, a.2)
def sh_lookItem (κ : sh_K) (σ : sh_S) (o i : Int32) : Int64 × sh_S :=
  let q := sh_head κ σ o
  if sh_below i (hd_items q.1 0) = 0 then (-9223372036854775808, q.2) else
  let g := sh_gap κ q.2 o q.1 i
  if g.1 = 0 then
    let w := sh_way κ g.2 o q.1 i 0
    ((sh_val κ w.2.1 w.1).toInt64, uC w.2 (sh_touch κ w.2.1))
  else (0, g.2)
def sh_setItem (κ : sh_K) (σ : sh_S) (o i v : Int32) : Int32 × sh_S :=
  let q := sh_head κ σ o
  if sh_below i (hd_items q.1 0) = 0 then (-1, q.2) else
  let a := sh_open κ q.2 o q.1 i
  if a.1 = 1 then
    let w := sh_way κ a.2 o q.1 i 0
    (a.1, uC w.2 (sh_write κ w.2.1 w.1 v))
  else (a.1, a.2)
def sh_copy (σ : sh_S) (t r : Int32) : Int32 × sh_S := if sh_isReg t = 0 then (0, σ) else if sh_isReg r = 0 then (0, σ) else (1, sh_setReg σ t (sh_reg σ r))
def sh_drop (σ : sh_S) (r : Int32) : Int32 × sh_S := (if sh_reg σ r = 0 then 0 else 1, sh_setReg σ r 0)
def sh_same (σ : sh_S) (x y : Int32) : Int32 := if sh_isReg x = 0 then 0 else if sh_isReg y = 0 then 0 else if sh_reg σ x = sh_reg σ y then 1 else 0
def sh_size (κ : sh_K) (σ : sh_S) (r w : Int32) : Int32 × sh_S :=
  let q := sh_head κ σ r
  if q.1 = 0 then (-1, q.2) else
  if w = 0 then (if hd_isArr q.1 = 0 then hd_refs q.1 else -1, q.2) else
  if w = 1 then (if hd_isArr q.1 = 0 then hd_ints q.1 else -1, q.2) else
  if w = 2 then (if hd_isArr q.1 = 0 then -1 else hd_len q.1, q.2) else
  if w = 3 then (hd_cells q.1, q.2) else (-1, q.2)
def sh_told (κ : sh_K) (σ : sh_S) (w : Int32) : Int32 :=
  if w = 0 then sBeg σ else if w = 1 then (if sh_done κ σ = 0 then 0 else 1) else if w = 2 then (if sh_done κ σ = 0 then -1 else sh_moved σ) else
  if w = 3 then sMade σ else if w = 4 then kLim κ else -1
set_option maxHeartbeats 40000 in
theorem mo_make {κ : sh_K} {σ : sh_S} {r n i : Int32} : nal σ ≤ nal (sh_make κ σ r n i).2 := by
  unfold sh_make
  try dsimp only
  have h0 : nal σ ≤ nal (sh_fill κ σ r (hd_obj n i)).2 := mo_fill
  generalize sh_fill κ σ r (hd_obj n i) = a at h0 ⊢
  repeat' split
  all_goals first | exact Nat.le_refl _ | exact h0
set_option maxHeartbeats 40000 in
theorem mo_array {κ : sh_K} {σ : sh_S} {r n b : Int32} : nal σ ≤ nal (sh_array κ σ r n b).2 := by
  unfold sh_array
  try dsimp only
  have h0 : nal σ ≤ nal (sh_fill κ σ r (hd_arr n b)).2 := mo_fill
  generalize sh_fill κ σ r (hd_arr n b) = a at h0 ⊢
  repeat' split
  all_goals first | exact Nat.le_refl _ | exact h0
set_option maxHeartbeats 40000 in
theorem mo_get {κ : sh_K} {σ : sh_S} {t o f : Int32} : nal σ ≤ nal (sh_get κ σ t o f).2 := by
  unfold sh_get
  try dsimp only
  have h0 : nal σ ≤ nal (sh_head κ σ o).2 := mo_head
  generalize sh_head κ σ o = q at h0 ⊢
  have h1 : nal q.2 ≤ nal (sh_follow κ q.2 (sh_reg q.2 o + 1 + f)).2 := mo_follow
  generalize sh_follow κ q.2 (sh_reg q.2 o + 1 + f) = u at h1 ⊢
  have h2 : nal u.2 ≤ nal (sh_setReg u.2 t u.1) := mo_setReg
  generalize sh_setReg u.2 t u.1 = w at h2 ⊢
  repeat' split
  all_goals first | exact Nat.le_refl _ | exact h0 | exact Nat.le_trans (h0) h1 | exact Nat.le_trans (Nat.le_trans (h0) h1) h2
set_option maxHeartbeats 40000 in
theorem mo_putF {κ : sh_K} {σ : sh_S} {o f r : Int32} : nal σ ≤ nal (sh_putF κ σ o f r).2 := by
  unfold sh_putF
  try dsimp only
  have h0 : nal σ ≤ nal (sh_head κ σ o).2 := mo_head
  generalize sh_head κ σ o = q at h0 ⊢
  have h1 : nal q.2 ≤ nal (sh_link κ q.2 (sh_reg q.2 o + 1 + f) (sh_reg q.2 r)) := mo_link
  generalize sh_link κ q.2 (sh_reg q.2 o + 1 + f) (sh_reg q.2 r) = u at h1 ⊢
  repeat' split
  all_goals first | exact Nat.le_refl _ | exact h0 | exact Nat.le_trans (h0) h1
set_option maxHeartbeats 40000 in
theorem mo_look {κ : sh_K} {σ : sh_S} {o f : Int32} : nal σ ≤ nal (sh_look κ σ o f).2 := by
  unfold sh_look
  try dsimp only
  have h0 : nal σ ≤ nal (sh_head κ σ o).2 := mo_head
  generalize sh_head κ σ o = q at h0 ⊢
  repeat' split
  all_goals first | exact Nat.le_refl _ | exact h0
set_option maxHeartbeats 40000 in
theorem mo_set {κ : sh_K} {σ : sh_S} {o f v : Int32} : nal σ ≤ nal (sh_set κ σ o f v).2 := by
  unfold sh_set
  try dsimp only
  have h0 : nal σ ≤ nal (sh_head κ σ o).2 := mo_head
  generalize sh_head κ σ o = q at h0 ⊢
  have h1 : nal q.2 ≤ nalC (sh_write κ q.2.1 (sh_reg q.2 o + 1 + hd_refs q.1 + f) v) := mo_write
  generalize sh_write κ q.2.1 (sh_reg q.2 o + 1 + hd_refs q.1 + f) v = u at h1 ⊢
  repeat' split
  all_goals first | exact Nat.le_refl _ | exact h0 | exact Nat.le_trans (h0) h1
set_option maxHeartbeats 40000 in
theorem mo_getItem {κ : sh_K} {σ : sh_S} {t o i : Int32} : nal σ ≤ nal (sh_getItem κ σ t o i).2 := by
  unfold sh_getItem
  try dsimp only
  have h0 : nal σ ≤ nal (sh_head κ σ o).2 := mo_head
  generalize sh_head κ σ o = q at h0 ⊢
  have h1 : nal q.2 ≤ nal (sh_gap κ q.2 o q.1 i).2 := mo_gap
  generalize sh_gap κ q.2 o q.1 i = g at h1 ⊢
  have h2 : nal g.2 ≤ nal (sh_way κ g.2 o q.1 i 0).2 := mo_way
  generalize sh_way κ g.2 o q.1 i 0 = w at h2 ⊢
  have h3 : nal w.2 ≤ nal (sh_follow κ w.2 w.1).2 := mo_follow
  generalize sh_follow κ w.2 w.1 = u at h3 ⊢
  have h4 : nal u.2 ≤ nal (sh_setReg u.2 t u.1) := mo_setReg
  generalize sh_setReg u.2 t u.1 = z at h4 ⊢
  have h5 : nal g.2 ≤ nal (sh_setReg g.2 t 0) := mo_setReg
  generalize sh_setReg g.2 t 0 = z2 at h5 ⊢
  repeat' split
  all_goals first | exact Nat.le_refl _ | exact h0 | exact Nat.le_trans (h0) h1 | exact Nat.le_trans (Nat.le_trans (h0) h1) h2 | exact Nat.le_trans (Nat.le_trans (Nat.le_trans (h0) h1) h2) h3 | exact Nat.le_trans (Nat.le_trans (Nat.le_trans (Nat.le_trans (h0) h1) h2) h3) h4 | exact Nat.le_trans (Nat.le_trans (Nat.le_trans (Nat.le_trans (Nat.le_trans (h0) h1) h2) h3) h4) h5 | exact Nat.le_trans (Nat.le_trans h0 h1) h5
set_option maxHeartbeats 40000 in
theorem mo_putItem {κ : sh_K} {σ : sh_S} {o i r : Int32} : nal σ ≤ nal (sh_putItem κ σ o i r).2 := by
  unfold sh_putItem
  try dsimp only
  have h0 : nal σ ≤ nal (sh_head κ σ o).2 := mo_head
  generalize sh_head κ σ o = q at h0 ⊢
  have h1 : nal q.2 ≤ nal (sh_open κ q.2 o q.1 i).2 := mo_open
  generalize sh_open κ q.2 o q.1 i = a at h1 ⊢
  have h2 : nal a.2 ≤ nal (sh_way κ a.2 o q.1 i 0).2 := mo_way
  generalize sh_way κ a.2 o q.1 i 0 = w at h2 ⊢
  have h3 : nal w.2 ≤ nal (sh_link κ w.2 w.1 (sh_reg w.2 r)) := mo_link
  generalize sh_link κ w.2 w.1 (sh_reg w.2 r) = u at h3 ⊢
  repeat' split
  all_goals first | exact Nat.le_refl _ | exact h0 | exact Nat.le_trans (h0) h1 | exact Nat.le_trans (Nat.le_trans (h0) h1) h2 | exact Nat.le_trans (Nat.le_trans (Nat.le_trans (h0) h1) h2) h3
set_option maxHeartbeats 40000 in
theorem mo_lookItem {κ : sh_K} {σ : sh_S} {o i : Int32} : nal σ ≤ nal (sh_lookItem κ σ o i).2 := by
  unfold sh_lookItem
  try dsimp only
  have h0 : nal σ ≤ nal (sh_head κ σ o).2 := mo_head
  generalize sh_head κ σ o = q at h0 ⊢
  have h1 : nal q.2 ≤ nal (sh_gap κ q.2 o q.1 i).2 := mo_gap
  generalize sh_gap κ q.2 o q.1 i = g at h1 ⊢
  have h2 : nal g.2 ≤ nal (sh_way κ g.2 o q.1 i 0).2 := mo_way
  generalize sh_way κ g.2 o q.1 i 0 = w at h2 ⊢
  repeat' split
  all_goals first | exact Nat.le_refl _ | exact h0 | exact Nat.le_trans (h0) h1 | exact Nat.le_trans (Nat.le_trans (h0) h1) h2
set_option maxHeartbeats 40000 in
theorem mo_setItem {κ : sh_K} {σ : sh_S} {o i v : Int32} : nal σ ≤ nal (sh_setItem κ σ o i v).2 := by
  unfold sh_setItem
  try dsimp only
  have h0 : nal σ ≤ nal (sh_head κ σ o).2 := mo_head
  generalize sh_head κ σ o = q at h0 ⊢
  have h1 : nal q.2 ≤ nal (sh_open κ q.2 o q.1 i).2 := mo_open
  generalize sh_open κ q.2 o q.1 i = a at h1 ⊢
  have h2 : nal a.2 ≤ nal (sh_way κ a.2 o q.1 i 0).2 := mo_way
  generalize sh_way κ a.2 o q.1 i 0 = w at h2 ⊢
  have h3 : nal w.2 ≤ nalC (sh_write κ w.2.1 w.1 v) := mo_write
  generalize sh_write κ w.2.1 w.1 v = u at h3 ⊢
  repeat' split
  all_goals first | exact Nat.le_refl _ | exact h0 | exact Nat.le_trans (h0) h1 | exact Nat.le_trans (Nat.le_trans (h0) h1) h2 | exact Nat.le_trans (Nat.le_trans (Nat.le_trans (h0) h1) h2) h3
set_option maxHeartbeats 40000 in
theorem mo_copy {σ : sh_S} {t r : Int32} : nal σ ≤ nal (sh_copy σ t r).2 := by
  unfold sh_copy
  try dsimp only
  have h0 : nal σ ≤ nal (sh_setReg σ t (sh_reg σ r)) := mo_setReg
  generalize sh_setReg σ t (sh_reg σ r) = u at h0 ⊢
  repeat' split
  all_goals first | exact Nat.le_refl _ | exact h0
set_option maxHeartbeats 40000 in
theorem mo_drop {σ : sh_S} {r : Int32} : nal σ ≤ nal (sh_drop σ r).2 := by
  unfold sh_drop
  try dsimp only
  have h0 : nal σ ≤ nal (sh_setReg σ r 0) := mo_setReg
  generalize sh_setReg σ r 0 = u at h0 ⊢
  repeat' split
  all_goals first | exact Nat.le_refl _ | exact h0
set_option maxHeartbeats 40000 in
theorem mo_size {κ : sh_K} {σ : sh_S} {r w : Int32} : nal σ ≤ nal (sh_size κ σ r w).2 := by
  unfold sh_size
  try dsimp only
  have h0 : nal σ ≤ nal (sh_head κ σ r).2 := mo_head
  generalize sh_head κ σ r = q at h0 ⊢
  repeat' split
  all_goals first | exact Nat.le_refl _ | exact h0
end
section
/-! ===== THE FACE: contracts ===== -/
set_option maxHeartbeats 4000000 in
set_option maxRecDepth 100000 in
theorem c_X_make (l : Launch) (D : va_G) (cI cP : ClassId) (a : cx_a) (κ : sh_K) (np : Nat) (σ : sh_S) (r n i : Int32) : cx_Met l D cI cP a κ np y_X_make b_X_make 4 (some .int) 7 149 [.ref (aXX a), .int r, .int n, .int i] σ (some (.int ((sh_make κ σ r n i).1))) ((sh_make κ σ r n i).2) := by
  refine cx_start (by decide) (Nat.le_of_ble_eq_true rfl) mo_make ?_
  intro p e R s m args below meth c A ls S hr hlk hfr hlc hw hbud hl
  have hl : lv_has ls 4 [(0, .ref (aXX a)), (1, .int r), (2, .int n), (3, .int i)] := hl
  refine lv_iload_n S.1 S.2.1 d_X_make_0 rfl (lv_at hl 1 rfl) ?_
  refine cx_fn S (As := [.int r]) (rest := []) (c_X_isRegister l r) tb_116 tb_114 tb_115 tb_1 hdf_X_isRegister rfl ⟨by omega, by omega⟩ hl.1 rfl (Nat.le_of_ble_eq_true rfl) d_X_make_1 (hw.fit hbud) ?_
  refine lv_if_eq (tgt := 15) S.1 S.2.1 d_X_make_4 (by decide) (fun c_1 => ?_) (fun c_1 => ?_)
  · refine lv_iconst (v := -1) S.1 S.2.1 d_X_make_15 (by decide) ?_
    exact cx_retI S hr hlk hw hbud (by first | (unfold sh_make; simp only [if_pos c_1]; done) | (unfold sh_make; dsimp only; simp only [if_pos c_1]; done) | (unfold sh_make; simp only [if_pos c_1, hC_eq, hC_clamp]; try rfl; done)) (by first | (unfold sh_make; simp only [if_pos c_1]; done) | (unfold sh_make; dsimp only; simp only [if_pos c_1]; done) | (unfold sh_make; simp only [if_pos c_1, hC_eq, hC_clamp]; try rfl; done)) d_X_make_16
  · refine lv_iload_n S.1 S.2.1 d_X_make_7 rfl (lv_at hl 2 rfl) ?_
    refine lv_iload_n S.1 S.2.1 d_X_make_8 rfl (lv_at hl 3 rfl) ?_
    refine cx_fn S (As := [.int n, .int i]) (rest := []) (c_X_isShape l n i) tb_122 tb_120 tb_121 tb_1 hdf_X_isShape rfl ⟨by omega, by omega⟩ hl.1 rfl (Nat.le_of_ble_eq_true rfl) d_X_make_9 (hw.fit hbud) ?_
    refine lv_if_ne (tgt := 17) S.1 S.2.1 d_X_make_12 (by decide) (fun c_2 => ?_) (fun c_2 => ?_)
    · refine lv_aload_n S.1 S.2.1 d_X_make_17 rfl (lv_at hl 0 rfl) ?_
      refine lv_iload_n S.1 S.2.1 d_X_make_18 rfl (lv_at hl 1 rfl) ?_
      refine lv_iload_n S.1 S.2.1 d_X_make_19 rfl (lv_at hl 2 rfl) ?_
      refine lv_iload_n S.1 S.2.1 d_X_make_20 rfl (lv_at hl 3 rfl) ?_
      refine cx_fn S (As := [.int n, .int i]) (rest := [.int r, .ref (aXX a)]) (c_H_ofObject l n i) tb_125 tb_123 tb_124 tb_6 hdf_H_ofObject rfl ⟨by omega, by omega⟩ hl.1 rfl (Nat.le_of_ble_eq_true rfl) d_X_make_21 (hw.fit hbud) ?_
      refine cx_call S hw hbud (As := [.int r, .int (hd_obj n i)]) (rest := []) (c_X_fillRegister l D cI cP a κ np σ r (hd_obj n i)) (q0 := 0) (fun _ => rfl) rfl tb_129 tb_126 tb_128 tp_1 tb_1 hd_X_fillRegister rfl ⟨by omega, by omega⟩ hl.1 rfl (Nat.le_of_ble_eq_true rfl) d_X_make_24 (fun H locs hw => ?_)
      generalize hq_1 : sh_fill κ σ r (hd_obj n i) = q_1 at hw ⊢
      refine W.eq (g2 := F0 m 27 ls [.int q_1.1]) rfl ?_
      exact cx_retI S hr hlk hw hbud (by first | (unfold sh_make; simp only [if_neg c_1, if_neg c_2, hq_1]; done) | (unfold sh_make; dsimp only; simp only [if_neg c_1, if_neg c_2, hq_1]; done) | (subst hq_1; unfold sh_make; simp only [if_neg c_1, if_neg c_2, hC_eq, hC_clamp]; try rfl; done)) (by first | (unfold sh_make; simp only [if_neg c_1, if_neg c_2, hq_1]; done) | (unfold sh_make; dsimp only; simp only [if_neg c_1, if_neg c_2, hq_1]; done) | (subst hq_1; unfold sh_make; simp only [if_neg c_1, if_neg c_2, hC_eq, hC_clamp]; try rfl; done)) d_X_make_27
    · refine lv_iconst (v := -1) S.1 S.2.1 d_X_make_15 (by decide) ?_
      exact cx_retI S hr hlk hw hbud (by first | exact absurd c_2 c_1 | (unfold sh_make; simp only [if_neg c_1, if_pos c_2]; done) | (unfold sh_make; dsimp only; simp only [if_neg c_1, if_pos c_2]; done) | (unfold sh_make; simp only [if_neg c_1, if_pos c_2, hC_eq, hC_clamp]; try rfl; done)) (by first | exact absurd c_2 c_1 | (unfold sh_make; simp only [if_neg c_1, if_pos c_2]; done) | (unfold sh_make; dsimp only; simp only [if_neg c_1, if_pos c_2]; done) | (unfold sh_make; simp only [if_neg c_1, if_pos c_2, hC_eq, hC_clamp]; try rfl; done)) d_X_make_16
set_option maxHeartbeats 4000000 in
set_option maxRecDepth 100000 in
theorem c_X_array (l : Launch) (D : va_G) (cI cP : ClassId) (a : cx_a) (κ : sh_K) (np : Nat) (σ : sh_S) (r n b : Int32) : cx_Met l D cI cP a κ np y_X_array b_X_array 4 (some .int) 7 149 [.ref (aXX a), .int r, .int n, .int b] σ (some (.int ((sh_array κ σ r n b).1))) ((sh_array κ σ r n b).2) := by
  refine cx_start (by decide) (Nat.le_of_ble_eq_true rfl) mo_array ?_
  intro p e R s m args below meth c A ls S hr hlk hfr hlc hw hbud hl
  have hl : lv_has ls 4 [(0, .ref (aXX a)), (1, .int r), (2, .int n), (3, .int b)] := hl
  refine lv_iload_n S.1 S.2.1 d_X_array_0 rfl (lv_at hl 1 rfl) ?_
  refine cx_fn S (As := [.int r]) (rest := []) (c_X_isRegister l r) tb_116 tb_114 tb_115 tb_1 hdf_X_isRegister rfl ⟨by omega, by omega⟩ hl.1 rfl (Nat.le_of_ble_eq_true rfl) d_X_array_1 (hw.fit hbud) ?_
  refine lv_if_eq (tgt := 18) S.1 S.2.1 d_X_array_4 (by decide) (fun c_1 => ?_) (fun c_1 => ?_)
  · refine lv_iconst (v := -1) S.1 S.2.1 d_X_array_18 (by decide) ?_
    exact cx_retI S hr hlk hw hbud (by first | (unfold sh_array; simp only [if_pos c_1]; done) | (unfold sh_array; dsimp only; simp only [if_pos c_1]; done) | (unfold sh_array; simp only [if_pos c_1, hC_eq, hC_clamp]; try rfl; done)) (by first | (unfold sh_array; simp only [if_pos c_1]; done) | (unfold sh_array; dsimp only; simp only [if_pos c_1]; done) | (unfold sh_array; simp only [if_pos c_1, hC_eq, hC_clamp]; try rfl; done)) d_X_array_19
  · refine lv_iload_n S.1 S.2.1 d_X_array_7 rfl (lv_at hl 2 rfl) ?_
    refine lv_if_lt (tgt := 18) S.1 S.2.1 d_X_array_8 (by decide) (fun c_2 => ?_) (fun c_2 => ?_)
    · refine lv_iconst (v := -1) S.1 S.2.1 d_X_array_18 (by decide) ?_
      exact cx_retI S hr hlk hw hbud (by first | exact absurd c_2 c_1 | (unfold sh_array; simp only [if_neg c_1, if_pos c_2]; done) | (unfold sh_array; dsimp only; simp only [if_neg c_1, if_pos c_2]; done) | (unfold sh_array; simp only [if_neg c_1, if_pos c_2, hC_eq, hC_clamp]; try rfl; done)) (by first | exact absurd c_2 c_1 | (unfold sh_array; simp only [if_neg c_1, if_pos c_2]; done) | (unfold sh_array; dsimp only; simp only [if_neg c_1, if_pos c_2]; done) | (unfold sh_array; simp only [if_neg c_1, if_pos c_2, hC_eq, hC_clamp]; try rfl; done)) d_X_array_19
    · refine lv_iload_n S.1 S.2.1 d_X_array_11 rfl (lv_at hl 2 rfl) ?_
      refine lv_sipush (v := 3375) S.1 S.2.1 d_X_array_12 (by decide) ?_
      refine lv_icmp_le (tgt := 20) S.1 S.2.1 d_X_array_15 (by decide) (fun c_3 => ?_) (fun c_3 => ?_)
      · refine lv_aload_n S.1 S.2.1 d_X_array_20 rfl (lv_at hl 0 rfl) ?_
        refine lv_iload_n S.1 S.2.1 d_X_array_21 rfl (lv_at hl 1 rfl) ?_
        refine lv_iload_n S.1 S.2.1 d_X_array_22 rfl (lv_at hl 2 rfl) ?_
        refine lv_iload_n S.1 S.2.1 d_X_array_23 rfl (lv_at hl 3 rfl) ?_
        refine cx_fn S (As := [.int n, .int b]) (rest := [.int r, .ref (aXX a)]) (c_H_ofArray l n b) tb_210 tb_208 tb_209 tb_6 hdf_H_ofArray rfl ⟨by omega, by omega⟩ hl.1 rfl (Nat.le_of_ble_eq_true rfl) d_X_array_24 (hw.fit hbud) ?_
        refine cx_call S hw hbud (As := [.int r, .int (hd_arr n b)]) (rest := []) (c_X_fillRegister l D cI cP a κ np σ r (hd_arr n b)) (q0 := 0) (fun _ => rfl) rfl tb_129 tb_126 tb_128 tp_1 tb_1 hd_X_fillRegister rfl ⟨by omega, by omega⟩ hl.1 rfl (Nat.le_of_ble_eq_true rfl) d_X_array_27 (fun H locs hw => ?_)
        generalize hq_1 : sh_fill κ σ r (hd_arr n b) = q_1 at hw ⊢
        refine W.eq (g2 := F0 m 30 ls [.int q_1.1]) rfl ?_
        exact cx_retI S hr hlk hw hbud (by first | exact absurd c_3 c_1 | exact absurd c_3 c_2 | (unfold sh_array; simp only [if_neg c_1, if_neg c_2, if_pos c_3, hq_1]; done) | (unfold sh_array; dsimp only; simp only [if_neg c_1, if_neg c_2, if_pos c_3, hq_1]; done) | (subst hq_1; unfold sh_array; simp only [if_neg c_1, if_neg c_2, if_pos c_3, hC_eq, hC_clamp]; try rfl; done)) (by first | exact absurd c_3 c_1 | exact absurd c_3 c_2 | (unfold sh_array; simp only [if_neg c_1, if_neg c_2, if_pos c_3, hq_1]; done) | (unfold sh_array; dsimp only; simp only [if_neg c_1, if_neg c_2, if_pos c_3, hq_1]; done) | (subst hq_1; unfold sh_array; simp only [if_neg c_1, if_neg c_2, if_pos c_3, hC_eq, hC_clamp]; try rfl; done)) d_X_array_30
      · refine lv_iconst (v := -1) S.1 S.2.1 d_X_array_18 (by decide) ?_
        exact cx_retI S hr hlk hw hbud (by first | (unfold sh_array; simp only [if_neg c_1, if_neg c_2, if_neg c_3]; done) | (unfold sh_array; dsimp only; simp only [if_neg c_1, if_neg c_2, if_neg c_3]; done) | (unfold sh_array; simp only [if_neg c_1, if_neg c_2, if_neg c_3, hC_eq, hC_clamp]; try rfl; done)) (by first | (unfold sh_array; simp only [if_neg c_1, if_neg c_2, if_neg c_3]; done) | (unfold sh_array; dsimp only; simp only [if_neg c_1, if_neg c_2, if_neg c_3]; done) | (unfold sh_array; simp only [if_neg c_1, if_neg c_2, if_neg c_3, hC_eq, hC_clamp]; try rfl; done)) d_X_array_19
set_option maxHeartbeats 4000000 in
set_option maxRecDepth 100000 in
theorem c_X_get (l : Launch) (D : va_G) (cI cP : ClassId) (a : cx_a) (κ : sh_K) (np : Nat) (σ : sh_S) (t o f : Int32) : cx_Met l D cI cP a κ np y_X_get b_X_get 5 (some .boolean) 5 101 [.ref (aXX a), .int t, .int o, .int f] σ (some (.int ((sh_get κ σ t o f).1))) ((sh_get κ σ t o f).2) := by
  refine cx_start (by decide) (Nat.le_of_ble_eq_true rfl) mo_get ?_
  intro p e R s m args below meth c A ls S hr hlk hfr hlc hw hbud hl
  have hl : lv_has ls 5 [(0, .ref (aXX a)), (1, .int t), (2, .int o), (3, .int f)] := hl
  refine lv_aload_n S.1 S.2.1 d_X_get_0 rfl (lv_at hl 0 rfl) ?_
  refine lv_iload_n S.1 S.2.1 d_X_get_1 rfl (lv_at hl 2 rfl) ?_
  refine cx_call S hw hbud (As := [.int o]) (rest := []) (c_X_headOf l D cI cP a κ np σ o) (q0 := 0) (fun _ => rfl) rfl tb_222 tb_219 tb_221 tp_7 tb_1 hd_X_headOf rfl ⟨by omega, by omega⟩ hl.1 rfl (Nat.le_of_ble_eq_true rfl) d_X_get_2 (fun H locs hw => ?_)
  generalize hq_1 : sh_head κ σ o = q_1 at hw ⊢
  refine W.eq (g2 := F0 m 5 ls [.int q_1.1]) rfl ?_
  refine lv_istore (lv' := [(4, .int q_1.1), (0, .ref (aXX a)), (1, .int t), (2, .int o), (3, .int f)]) S.1 S.2.1 d_X_get_5 hl (by decide) rfl (fun ls hl => ?_)
  refine lv_iload_n S.1 S.2.1 d_X_get_7 rfl (lv_at hl 2 rfl) ?_
  refine cx_fn S (As := [.int t]) (rest := []) (c_X_isRegister l t) tb_116 tb_114 tb_115 tb_1 hdf_X_isRegister rfl ⟨by omega, by omega⟩ hl.1 rfl (Nat.le_of_ble_eq_true rfl) d_X_get_8 (hw.fit hbud) ?_
  refine lv_if_eq (tgt := 26) S.1 S.2.1 d_X_get_11 (by decide) (fun c_1 => ?_) (fun c_1 => ?_)
  · refine lv_iconst (v := 0) S.1 S.2.1 d_X_get_26 (by decide) ?_
    exact cx_retZ S hr hlk hw hbud (by first | (unfold sh_get; simp only [hq_1, if_pos c_1]; done) | (unfold sh_get; dsimp only; simp only [hq_1, if_pos c_1]; done) | (subst hq_1; unfold sh_get; simp only [if_pos c_1, hC_eq, hC_clamp]; try rfl; done)) (Or.inl rfl) (by first | (unfold sh_get; simp only [hq_1, if_pos c_1]; done) | (unfold sh_get; dsimp only; simp only [hq_1, if_pos c_1]; done) | (subst hq_1; unfold sh_get; simp only [if_pos c_1, hC_eq, hC_clamp]; try rfl; done)) d_X_get_27
  · refine lv_iload_n S.1 S.2.1 d_X_get_14 rfl (lv_at hl 4 rfl) ?_
    refine lv_iload S.1 S.2.1 d_X_get_15 (lv_at hl 0 rfl) ?_
    refine cx_fn S (As := [.int q_1.1]) (rest := [.int f]) (c_H_references l q_1.1) tb_230 tb_228 tb_229 tb_6 hdf_H_references rfl ⟨by omega, by omega⟩ hl.1 rfl (Nat.le_of_ble_eq_true rfl) d_X_get_17 (hw.fit hbud) ?_
    refine cx_fn S (As := [.int f, .int (hd_refs q_1.1)]) (rest := []) (c_X_isBelow l f (hd_refs q_1.1)) tb_119 tb_117 tb_118 tb_1 hdf_X_isBelow rfl ⟨by omega, by omega⟩ hl.1 rfl (Nat.le_of_ble_eq_true rfl) d_X_get_20 (hw.fit hbud) ?_
    refine lv_if_ne (tgt := 28) S.1 S.2.1 d_X_get_23 (by decide) (fun c_2 => ?_) (fun c_2 => ?_)
    · refine lv_aload_n S.1 S.2.1 d_X_get_28 rfl (lv_at hl 1 rfl) ?_
      refine cx_get S hw (q0 := 0) (ci := 0) (k := 1) (v := .ref (aXM a)) (fun _ => rfl) rfl (by decide) inX tb_104 rfl rfl d_X_get_29 ?_
      refine lv_iload_n S.1 S.2.1 d_X_get_32 rfl (lv_at hl 2 rfl) ?_
      refine lv_aload_n S.1 S.2.1 d_X_get_33 rfl (lv_at hl 1 rfl) ?_
      refine cx_get S hw (q0 := 0) (ci := 0) (k := 1) (v := .ref (aXM a)) (fun _ => rfl) rfl (by decide) inX tb_104 rfl rfl d_X_get_34 ?_
      refine lv_aload_n S.1 S.2.1 d_X_get_37 rfl (lv_at hl 1 rfl) ?_
      refine lv_iload_n S.1 S.2.1 d_X_get_38 rfl (lv_at hl 3 rfl) ?_
      refine lv_iload_n S.1 S.2.1 d_X_get_39 rfl (lv_at hl 4 rfl) ?_
      refine cx_rd S hw (hw.fit hbud) (As := [.int o, .int f]) (rest := [.ref (aXM a), .int t, .ref (aXM a)]) (c_X_referenceCell l D cI cP a κ np q_1.2 o f) (q0 := 0) (fun _ => rfl) rfl tb_237 tb_234 tb_236 tp_8 tb_1 hd_X_referenceCell rfl ⟨by omega, by omega⟩ hl.1 rfl (Nat.le_of_ble_eq_true rfl) d_X_get_40 ?_
      refine cx_call S hw hbud (As := [.int (sh_reg q_1.2 o + 1 + f)]) (rest := [.int t, .ref (aXM a)]) (c_M_follow l D cI cP a κ np q_1.2 (sh_reg q_1.2 o + 1 + f)) (q0 := 2) (fun _ => rfl) rfl tb_241 tb_238 tb_239 tb_240 tb_3 hd_M_follow rfl ⟨by omega, by omega⟩ hl.1 rfl (Nat.le_of_ble_eq_true rfl) d_X_get_43 (fun H locs hw => ?_)
      generalize hq_2 : sh_follow κ q_1.2 (sh_reg q_1.2 o + 1 + f) = q_2 at hw ⊢
      refine W.eq (g2 := F0 m 46 ls [.int q_2.1, .int t, .ref (aXM a)]) rfl ?_
      refine cx_call S hw hbud (As := [.int t, .int q_2.1]) (rest := []) (c_M_setRegister l D cI cP a κ np q_2.2 t q_2.1) (q0 := 2) (fun _ => rfl) rfl tb_202 tb_199 tb_200 tb_201 tb_3 hd_M_setRegister rfl ⟨by omega, by omega⟩ hl.1 rfl (Nat.le_of_ble_eq_true rfl) d_X_get_46 (fun H locs hw => ?_)
      refine W.eq (g2 := F0 m 49 ls []) rfl ?_
      refine lv_iconst (v := 1) S.1 S.2.1 d_X_get_49 (by decide) ?_
      exact cx_retZ S hr hlk hw hbud (by first | (unfold sh_get; simp only [hq_1, if_neg c_1, if_neg c_2, hq_2]; done) | (unfold sh_get; dsimp only; simp only [hq_1, if_neg c_1, if_neg c_2, hq_2]; done) | (subst hq_2; subst hq_1; unfold sh_get; simp only [if_neg c_1, if_neg c_2, hC_eq, hC_clamp]; try rfl; done)) (Or.inr rfl) (by first | (unfold sh_get; simp only [hq_1, if_neg c_1, if_neg c_2, hq_2]; done) | (unfold sh_get; dsimp only; simp only [hq_1, if_neg c_1, if_neg c_2, hq_2]; done) | (subst hq_2; subst hq_1; unfold sh_get; simp only [if_neg c_1, if_neg c_2, hC_eq, hC_clamp]; try rfl; done)) d_X_get_50
    · refine lv_iconst (v := 0) S.1 S.2.1 d_X_get_26 (by decide) ?_
      exact cx_retZ S hr hlk hw hbud (by first | exact absurd c_2 c_1 | (unfold sh_get; simp only [hq_1, if_neg c_1, if_pos c_2]; done) | (unfold sh_get; dsimp only; simp only [hq_1, if_neg c_1, if_pos c_2]; done) | (subst hq_1; unfold sh_get; simp only [if_neg c_1, if_pos c_2, hC_eq, hC_clamp]; try rfl; done)) (Or.inl rfl) (by first | exact absurd c_2 c_1 | (unfold sh_get; simp only [hq_1, if_neg c_1, if_pos c_2]; done) | (unfold sh_get; dsimp only; simp only [hq_1, if_neg c_1, if_pos c_2]; done) | (subst hq_1; unfold sh_get; simp only [if_neg c_1, if_pos c_2, hC_eq, hC_clamp]; try rfl; done)) d_X_get_27
set_option maxHeartbeats 4000000 in
set_option maxRecDepth 100000 in
theorem c_X_put (l : Launch) (D : va_G) (cI cP : ClassId) (a : cx_a) (κ : sh_K) (np : Nat) (σ : sh_S) (o f r : Int32) : cx_Met l D cI cP a κ np y_X_put b_X_put 5 (some .boolean) 6 123 [.ref (aXX a), .int o, .int f, .int r] σ (some (.int ((sh_putF κ σ o f r).1))) ((sh_putF κ σ o f r).2) := by
  refine cx_start (by decide) (Nat.le_of_ble_eq_true rfl) mo_putF ?_
  intro p e R s m args below meth c A ls S hr hlk hfr hlc hw hbud hl
  have hl : lv_has ls 5 [(0, .ref (aXX a)), (1, .int o), (2, .int f), (3, .int r)] := hl
  refine lv_aload_n S.1 S.2.1 d_X_put_0 rfl (lv_at hl 0 rfl) ?_
  refine lv_iload_n S.1 S.2.1 d_X_put_1 rfl (lv_at hl 1 rfl) ?_
  refine cx_call S hw hbud (As := [.int o]) (rest := []) (c_X_headOf l D cI cP a κ np σ o) (q0 := 0) (fun _ => rfl) rfl tb_222 tb_219 tb_221 tp_7 tb_1 hd_X_headOf rfl ⟨by omega, by omega⟩ hl.1 rfl (Nat.le_of_ble_eq_true rfl) d_X_put_2 (fun H locs hw => ?_)
  generalize hq_1 : sh_head κ σ o = q_1 at hw ⊢
  refine W.eq (g2 := F0 m 5 ls [.int q_1.1]) rfl ?_
  refine lv_istore (lv' := [(4, .int q_1.1), (0, .ref (aXX a)), (1, .int o), (2, .int f), (3, .int r)]) S.1 S.2.1 d_X_put_5 hl (by decide) rfl (fun ls hl => ?_)
  refine lv_iload_n S.1 S.2.1 d_X_put_7 rfl (lv_at hl 4 rfl) ?_
  refine cx_fn S (As := [.int r]) (rest := []) (c_X_isRegister l r) tb_116 tb_114 tb_115 tb_1 hdf_X_isRegister rfl ⟨by omega, by omega⟩ hl.1 rfl (Nat.le_of_ble_eq_true rfl) d_X_put_8 (hw.fit hbud) ?_
  refine lv_if_eq (tgt := 26) S.1 S.2.1 d_X_put_11 (by decide) (fun c_1 => ?_) (fun c_1 => ?_)
  · refine lv_iconst (v := 0) S.1 S.2.1 d_X_put_26 (by decide) ?_
    exact cx_retZ S hr hlk hw hbud (by first | (unfold sh_putF; simp only [hq_1, if_pos c_1]; done) | (unfold sh_putF; dsimp only; simp only [hq_1, if_pos c_1]; done) | (subst hq_1; unfold sh_putF; simp only [if_pos c_1, hC_eq, hC_clamp]; try rfl; done)) (Or.inl rfl) (by first | (unfold sh_putF; simp only [hq_1, if_pos c_1]; done) | (unfold sh_putF; dsimp only; simp only [hq_1, if_pos c_1]; done) | (subst hq_1; unfold sh_putF; simp only [if_pos c_1, hC_eq, hC_clamp]; try rfl; done)) d_X_put_27
  · refine lv_iload_n S.1 S.2.1 d_X_put_14 rfl (lv_at hl 3 rfl) ?_
    refine lv_iload S.1 S.2.1 d_X_put_15 (lv_at hl 0 rfl) ?_
    refine cx_fn S (As := [.int q_1.1]) (rest := [.int f]) (c_H_references l q_1.1) tb_230 tb_228 tb_229 tb_6 hdf_H_references rfl ⟨by omega, by omega⟩ hl.1 rfl (Nat.le_of_ble_eq_true rfl) d_X_put_17 (hw.fit hbud) ?_
    refine cx_fn S (As := [.int f, .int (hd_refs q_1.1)]) (rest := []) (c_X_isBelow l f (hd_refs q_1.1)) tb_119 tb_117 tb_118 tb_1 hdf_X_isBelow rfl ⟨by omega, by omega⟩ hl.1 rfl (Nat.le_of_ble_eq_true rfl) d_X_put_20 (hw.fit hbud) ?_
    refine lv_if_ne (tgt := 28) S.1 S.2.1 d_X_put_23 (by decide) (fun c_2 => ?_) (fun c_2 => ?_)
    · refine lv_aload_n S.1 S.2.1 d_X_put_28 rfl (lv_at hl 1 rfl) ?_
      refine cx_get S hw (q0 := 0) (ci := 0) (k := 1) (v := .ref (aXM a)) (fun _ => rfl) rfl (by decide) inX tb_104 rfl rfl d_X_put_29 ?_
      refine lv_aload_n S.1 S.2.1 d_X_put_32 rfl (lv_at hl 1 rfl) ?_
      refine lv_iload_n S.1 S.2.1 d_X_put_33 rfl (lv_at hl 2 rfl) ?_
      refine lv_iload_n S.1 S.2.1 d_X_put_34 rfl (lv_at hl 3 rfl) ?_
      refine cx_rd S hw (hw.fit hbud) (As := [.int o, .int f]) (rest := [.ref (aXM a)]) (c_X_referenceCell l D cI cP a κ np q_1.2 o f) (q0 := 0) (fun _ => rfl) rfl tb_237 tb_234 tb_236 tp_8 tb_1 hd_X_referenceCell rfl ⟨by omega, by omega⟩ hl.1 rfl (Nat.le_of_ble_eq_true rfl) d_X_put_35 ?_
      refine lv_aload_n S.1 S.2.1 d_X_put_38 rfl (lv_at hl 1 rfl) ?_
      refine cx_get S hw (q0 := 0) (ci := 0) (k := 1) (v := .ref (aXM a)) (fun _ => rfl) rfl (by decide) inX tb_104 rfl rfl d_X_put_39 ?_
      refine lv_iload_n S.1 S.2.1 d_X_put_42 rfl (lv_at hl 4 rfl) ?_
      refine cx_rd S hw (hw.fit hbud) (As := [.int r]) (rest := [.int (sh_reg q_1.2 o + 1 + f), .ref (aXM a)]) (c_M_register l D cI cP a κ np q_1.2 r) (q0 := 2) (fun _ => rfl) rfl tb_226 tb_223 tb_224 tb_225 tb_3 hd_M_register rfl ⟨by omega, by omega⟩ hl.1 rfl (Nat.le_of_ble_eq_true rfl) d_X_put_43 ?_
      refine cx_call S hw hbud (As := [.int (sh_reg q_1.2 o + 1 + f), .int (sh_reg q_1.2 r)]) (rest := []) (c_M_link l D cI cP a κ np q_1.2 (sh_reg q_1.2 o + 1 + f) (sh_reg q_1.2 r)) (q0 := 2) (fun _ => rfl) rfl tb_249 tb_246 tb_247 tb_248 tb_3 hd_M_link rfl ⟨by omega, by omega⟩ hl.1 rfl (Nat.le_of_ble_eq_true rfl) d_X_put_46 (fun H locs hw => ?_)
      generalize hq_2 : sh_link κ q_1.2 (sh_reg q_1.2 o + 1 + f) (sh_reg q_1.2 r) = q_2 at hw ⊢
      refine W.eq (g2 := F0 m 49 ls []) rfl ?_
      refine lv_iconst (v := 1) S.1 S.2.1 d_X_put_49 (by decide) ?_
      exact cx_retZ S hr hlk hw hbud (by first | (unfold sh_putF; simp only [hq_1, if_neg c_1, if_neg c_2, hq_2]; done) | (unfold sh_putF; dsimp only; simp only [hq_1, if_neg c_1, if_neg c_2, hq_2]; done) | (subst hq_2; subst hq_1; unfold sh_putF; simp only [if_neg c_1, if_neg c_2, hC_eq, hC_clamp]; try rfl; done)) (Or.inr rfl) (by first | (unfold sh_putF; simp only [hq_1, if_neg c_1, if_neg c_2, hq_2]; done) | (unfold sh_putF; dsimp only; simp only [hq_1, if_neg c_1, if_neg c_2, hq_2]; done) | (subst hq_2; subst hq_1; unfold sh_putF; simp only [if_neg c_1, if_neg c_2, hC_eq, hC_clamp]; try rfl; done)) d_X_put_50
    · refine lv_iconst (v := 0) S.1 S.2.1 d_X_put_26 (by decide) ?_
      exact cx_retZ S hr hlk hw hbud (by first | exact absurd c_2 c_1 | (unfold sh_putF; simp only [hq_1, if_neg c_1, if_pos c_2]; done) | (unfold sh_putF; dsimp only; simp only [hq_1, if_neg c_1, if_pos c_2]; done) | (subst hq_1; unfold sh_putF; simp only [if_neg c_1, if_pos c_2, hC_eq, hC_clamp]; try rfl; done)) (Or.inl rfl) (by first | exact absurd c_2 c_1 | (unfold sh_putF; simp only [hq_1, if_neg c_1, if_pos c_2]; done) | (unfold sh_putF; dsimp only; simp only [hq_1, if_neg c_1, if_pos c_2]; done) | (subst hq_1; unfold sh_putF; simp only [if_neg c_1, if_pos c_2, hC_eq, hC_clamp]; try rfl; done)) d_X_put_27
set_option maxHeartbeats 4000000 in
set_option maxRecDepth 100000 in
theorem c_X_look (l : Launch) (D : va_G) (cI cP : ClassId) (a : cx_a) (κ : sh_K) (np : Nat) (σ : sh_S) (o f : Int32) : cx_Met l D cI cP a κ np y_X_look b_X_look 4 (some .long) 4 85 [.ref (aXX a), .int o, .int f] σ (some (.long ((sh_look κ σ o f).1))) ((sh_look κ σ o f).2) := by
  refine cx_start (by decide) (Nat.le_of_ble_eq_true rfl) mo_look ?_
  intro p e R s m args below meth c A ls S hr hlk hfr hlc hw hbud hl
  have hl : lv_has ls 4 [(0, .ref (aXX a)), (1, .int o), (2, .int f)] := hl
  refine lv_aload_n S.1 S.2.1 d_X_look_0 rfl (lv_at hl 0 rfl) ?_
  refine lv_iload_n S.1 S.2.1 d_X_look_1 rfl (lv_at hl 1 rfl) ?_
  refine cx_call S hw hbud (As := [.int o]) (rest := []) (c_X_headOf l D cI cP a κ np σ o) (q0 := 0) (fun _ => rfl) rfl tb_222 tb_219 tb_221 tp_7 tb_1 hd_X_headOf rfl ⟨by omega, by omega⟩ hl.1 rfl (Nat.le_of_ble_eq_true rfl) d_X_look_2 (fun H locs hw => ?_)
  generalize hq_1 : sh_head κ σ o = q_1 at hw ⊢
  refine W.eq (g2 := F0 m 5 ls [.int q_1.1]) rfl ?_
  refine lv_istore_n (lv' := [(3, .int q_1.1), (0, .ref (aXX a)), (1, .int o), (2, .int f)]) S.1 S.2.1 d_X_look_5 rfl hl (by decide) rfl (fun ls hl => ?_)
  refine lv_iload_n S.1 S.2.1 d_X_look_6 rfl (lv_at hl 3 rfl) ?_
  refine lv_iload_n S.1 S.2.1 d_X_look_7 rfl (lv_at hl 0 rfl) ?_
  refine cx_fn S (As := [.int q_1.1]) (rest := [.int f]) (c_H_ints l q_1.1) tb_257 tb_255 tb_256 tb_6 hdf_H_ints rfl ⟨by omega, by omega⟩ hl.1 rfl (Nat.le_of_ble_eq_true rfl) d_X_look_8 (hw.fit hbud) ?_
  refine cx_fn S (As := [.int f, .int (hd_ints q_1.1)]) (rest := []) (c_X_isBelow l f (hd_ints q_1.1)) tb_119 tb_117 tb_118 tb_1 hdf_X_isBelow rfl ⟨by omega, by omega⟩ hl.1 rfl (Nat.le_of_ble_eq_true rfl) d_X_look_11 (hw.fit hbud) ?_
  refine lv_if_ne (tgt := 21) S.1 S.2.1 d_X_look_14 (by decide) (fun c_1 => ?_) (fun c_1 => ?_)
  · refine lv_aload_n S.1 S.2.1 d_X_look_21 rfl (lv_at hl 1 rfl) ?_
    refine cx_get S hw (q0 := 0) (ci := 0) (k := 0) (v := .ref (aXC a)) (fun _ => rfl) rfl (by decide) inX tb_103 rfl rfl d_X_look_22 ?_
    refine lv_aload_n S.1 S.2.1 d_X_look_25 rfl (lv_at hl 1 rfl) ?_
    refine lv_iload_n S.1 S.2.1 d_X_look_26 rfl (lv_at hl 2 rfl) ?_
    refine lv_iload_n S.1 S.2.1 d_X_look_27 rfl (lv_at hl 0 rfl) ?_
    refine lv_iload_n S.1 S.2.1 d_X_look_28 rfl (lv_at hl 3 rfl) ?_
    refine cx_rd S hw (hw.fit hbud) (As := [.int o, .int q_1.1, .int f]) (rest := [.ref (aXC a)]) (c_X_intCell l D cI cP a κ np q_1.2 o q_1.1 f) (q0 := 0) (fun _ => rfl) rfl tb_262 tb_259 tb_261 tp_9 tb_1 hd_X_intCell rfl ⟨by omega, by omega⟩ hl.1 rfl (Nat.le_of_ble_eq_true rfl) d_X_look_29 ?_
    refine cx_call S hw hbud (As := [.int (sh_reg q_1.2 o + 1 + hd_refs q_1.1 + f)]) (rest := []) (c_C_read l D cI cP a κ np q_1.2 (sh_reg q_1.2 o + 1 + hd_refs q_1.1 + f)) (q0 := 1) (fun _ => rfl) rfl tb_170 tb_227 tb_168 tb_169 tb_4 hd_C_read rfl ⟨by omega, by omega⟩ hl.1 rfl (Nat.le_of_ble_eq_true rfl) d_X_look_32 (fun H locs hw => ?_)
    refine W.eq (g2 := F0 m 35 ls [.int (sh_val κ (q_1.2).1 (sh_reg q_1.2 o + 1 + hd_refs q_1.1 + f))]) rfl ?_
    refine lv_i2l S.1 S.2.1 d_X_look_35 rfl ?_
    exact cx_retL S hr hlk hw hbud (by first | (unfold sh_look; simp only [hq_1, if_neg c_1]; done) | (unfold sh_look; dsimp only; simp only [hq_1, if_neg c_1]; done) | (subst hq_1; unfold sh_look; simp only [if_neg c_1, hC_eq, hC_clamp]; try rfl; done)) (by first | (unfold sh_look; simp only [hq_1, if_neg c_1]; done) | (unfold sh_look; dsimp only; simp only [hq_1, if_neg c_1]; done) | (subst hq_1; unfold sh_look; simp only [if_neg c_1, hC_eq, hC_clamp]; try rfl; done)) d_X_look_36
  · refine lv_ldc2 (v := -9223372036854775808) S.1 S.2.1 S.2.2.2.1 (S.2.2.2.2 _ (List.mem_cons_of_mem _ tb_258)) d_X_look_17 ?_
    exact cx_retL S hr hlk hw hbud (by first | (unfold sh_look; simp only [hq_1, if_pos c_1]; done) | (unfold sh_look; dsimp only; simp only [hq_1, if_pos c_1]; done) | (subst hq_1; unfold sh_look; simp only [if_pos c_1, hC_eq, hC_clamp]; try rfl; done)) (by first | (unfold sh_look; simp only [hq_1, if_pos c_1]; done) | (unfold sh_look; dsimp only; simp only [hq_1, if_pos c_1]; done) | (subst hq_1; unfold sh_look; simp only [if_pos c_1, hC_eq, hC_clamp]; try rfl; done)) d_X_look_20
set_option maxHeartbeats 4000000 in
set_option maxRecDepth 100000 in
theorem c_X_set (l : Launch) (D : va_G) (cI cP : ClassId) (a : cx_a) (κ : sh_K) (np : Nat) (σ : sh_S) (o f v : Int32) : cx_Met l D cI cP a κ np y_X_set b_X_set 5 (some .boolean) 4 85 [.ref (aXX a), .int o, .int f, .int v] σ (some (.int ((sh_set κ σ o f v).1))) ((sh_set κ σ o f v).2) := by
  refine cx_start (by decide) (Nat.le_of_ble_eq_true rfl) mo_set ?_
  intro p e R s m args below meth c A ls S hr hlk hfr hlc hw hbud hl
  have hl : lv_has ls 5 [(0, .ref (aXX a)), (1, .int o), (2, .int f), (3, .int v)] := hl
  refine lv_aload_n S.1 S.2.1 d_X_set_0 rfl (lv_at hl 0 rfl) ?_
  refine lv_iload_n S.1 S.2.1 d_X_set_1 rfl (lv_at hl 1 rfl) ?_
  refine cx_call S hw hbud (As := [.int o]) (rest := []) (c_X_headOf l D cI cP a κ np σ o) (q0 := 0) (fun _ => rfl) rfl tb_222 tb_219 tb_221 tp_7 tb_1 hd_X_headOf rfl ⟨by omega, by omega⟩ hl.1 rfl (Nat.le_of_ble_eq_true rfl) d_X_set_2 (fun H locs hw => ?_)
  generalize hq_1 : sh_head κ σ o = q_1 at hw ⊢
  refine W.eq (g2 := F0 m 5 ls [.int q_1.1]) rfl ?_
  refine lv_istore (lv' := [(4, .int q_1.1), (0, .ref (aXX a)), (1, .int o), (2, .int f), (3, .int v)]) S.1 S.2.1 d_X_set_5 hl (by decide) rfl (fun ls hl => ?_)
  refine lv_iload_n S.1 S.2.1 d_X_set_7 rfl (lv_at hl 3 rfl) ?_
  refine lv_iload S.1 S.2.1 d_X_set_8 (lv_at hl 0 rfl) ?_
  refine cx_fn S (As := [.int q_1.1]) (rest := [.int f]) (c_H_ints l q_1.1) tb_257 tb_255 tb_256 tb_6 hdf_H_ints rfl ⟨by omega, by omega⟩ hl.1 rfl (Nat.le_of_ble_eq_true rfl) d_X_set_10 (hw.fit hbud) ?_
  refine cx_fn S (As := [.int f, .int (hd_ints q_1.1)]) (rest := []) (c_X_isBelow l f (hd_ints q_1.1)) tb_119 tb_117 tb_118 tb_1 hdf_X_isBelow rfl ⟨by omega, by omega⟩ hl.1 rfl (Nat.le_of_ble_eq_true rfl) d_X_set_13 (hw.fit hbud) ?_
  refine lv_if_ne (tgt := 21) S.1 S.2.1 d_X_set_16 (by decide) (fun c_1 => ?_) (fun c_1 => ?_)
  · refine lv_aload_n S.1 S.2.1 d_X_set_21 rfl (lv_at hl 1 rfl) ?_
    refine cx_get S hw (q0 := 0) (ci := 0) (k := 0) (v := .ref (aXC a)) (fun _ => rfl) rfl (by decide) inX tb_103 rfl rfl d_X_set_22 ?_
    refine lv_aload_n S.1 S.2.1 d_X_set_25 rfl (lv_at hl 1 rfl) ?_
    refine lv_iload_n S.1 S.2.1 d_X_set_26 rfl (lv_at hl 2 rfl) ?_
    refine lv_iload S.1 S.2.1 d_X_set_27 (lv_at hl 0 rfl) ?_
    refine lv_iload_n S.1 S.2.1 d_X_set_29 rfl (lv_at hl 3 rfl) ?_
    refine cx_rd S hw (hw.fit hbud) (As := [.int o, .int q_1.1, .int f]) (rest := [.ref (aXC a)]) (c_X_intCell l D cI cP a κ np q_1.2 o q_1.1 f) (q0 := 0) (fun _ => rfl) rfl tb_262 tb_259 tb_261 tp_9 tb_1 hd_X_intCell rfl ⟨by omega, by omega⟩ hl.1 rfl (Nat.le_of_ble_eq_true rfl) d_X_set_30 ?_
    refine lv_iload_n S.1 S.2.1 d_X_set_33 rfl (lv_at hl 4 rfl) ?_
    refine cx_call S hw hbud (As := [.int (sh_reg q_1.2 o + 1 + hd_refs q_1.1 + f), .int v]) (rest := []) (c_C_write l D cI cP a κ np q_1.2 (sh_reg q_1.2 o + 1 + hd_refs q_1.1 + f) v) (q0 := 1) (fun _ => rfl) rfl tb_179 tb_267 tb_177 tb_178 tb_4 hd_C_write rfl ⟨by omega, by omega⟩ hl.1 rfl (Nat.le_of_ble_eq_true rfl) d_X_set_34 (fun H locs hw => ?_)
    generalize hq_2 : sh_write κ (q_1.2).1 (sh_reg q_1.2 o + 1 + hd_refs q_1.1 + f) v = q_2 at hw ⊢
    refine W.eq (g2 := F0 m 37 ls []) rfl ?_
    refine lv_iconst (v := 1) S.1 S.2.1 d_X_set_37 (by decide) ?_
    exact cx_retZ S hr hlk hw hbud (by first | (unfold sh_set; simp only [hq_1, if_neg c_1, hq_2]; done) | (unfold sh_set; dsimp only; simp only [hq_1, if_neg c_1, hq_2]; done) | (subst hq_2; subst hq_1; unfold sh_set; simp only [if_neg c_1, hC_eq, hC_clamp]; try rfl; done)) (Or.inr rfl) (by first | (unfold sh_set; simp only [hq_1, if_neg c_1, hq_2]; done) | (unfold sh_set; dsimp only; simp only [hq_1, if_neg c_1, hq_2]; done) | (subst hq_2; subst hq_1; unfold sh_set; simp only [if_neg c_1, hC_eq, hC_clamp]; try rfl; done)) d_X_set_38
  · refine lv_iconst (v := 0) S.1 S.2.1 d_X_set_19 (by decide) ?_
    exact cx_retZ S hr hlk hw hbud (by first | (unfold sh_set; simp only [hq_1, if_pos c_1]; done) | (unfold sh_set; dsimp only; simp only [hq_1, if_pos c_1]; done) | (subst hq_1; unfold sh_set; simp only [if_pos c_1, hC_eq, hC_clamp]; try rfl; done)) (Or.inl rfl) (by first | (unfold sh_set; simp only [hq_1, if_pos c_1]; done) | (unfold sh_set; dsimp only; simp only [hq_1, if_pos c_1]; done) | (subst hq_1; unfold sh_set; simp only [if_pos c_1, hC_eq, hC_clamp]; try rfl; done)) d_X_set_20
end
section
/-! ===== THE FACE: contracts ===== -/
set_option maxHeartbeats 4000000 in
set_option maxRecDepth 100000 in
theorem c_X_getItem (l : Launch) (D : va_G) (cI cP : ClassId) (a : cx_a) (κ : sh_K) (np : Nat) (σ : sh_S) (t o i : Int32) : cx_Met l D cI cP a κ np y_X_getItem b_X_getItem 6 (some .boolean) 6 127 [.ref (aXX a), .int t, .int o, .int i] σ (some (.int ((sh_getItem κ σ t o i).1))) ((sh_getItem κ σ t o i).2) := by
  refine cx_start (by decide) (Nat.le_of_ble_eq_true rfl) mo_getItem ?_
  intro p e R s m args below meth c A ls S hr hlk hfr hlc hw hbud hl
  have hl : lv_has ls 6 [(0, .ref (aXX a)), (1, .int t), (2, .int o), (3, .int i)] := hl
  refine lv_aload_n S.1 S.2.1 d_X_getItem_0 rfl (lv_at hl 0 rfl) ?_
  refine lv_iload_n S.1 S.2.1 d_X_getItem_1 rfl (lv_at hl 2 rfl) ?_
  refine cx_call S hw hbud (As := [.int o]) (rest := []) (c_X_headOf l D cI cP a κ np σ o) (q0 := 0) (fun _ => rfl) rfl tb_222 tb_219 tb_221 tp_7 tb_1 hd_X_headOf rfl ⟨by omega, by omega⟩ hl.1 rfl (Nat.le_of_ble_eq_true rfl) d_X_getItem_2 (fun H locs hw => ?_)
  generalize hq_1 : sh_head κ σ o = q_1 at hw ⊢
  refine W.eq (g2 := F0 m 5 ls [.int q_1.1]) rfl ?_
  refine lv_istore (lv' := [(4, .int q_1.1), (0, .ref (aXX a)), (1, .int t), (2, .int o), (3, .int i)]) S.1 S.2.1 d_X_getItem_5 hl (by decide) rfl (fun ls hl => ?_)
  refine lv_iload_n S.1 S.2.1 d_X_getItem_7 rfl (lv_at hl 2 rfl) ?_
  refine cx_fn S (As := [.int t]) (rest := []) (c_X_isRegister l t) tb_116 tb_114 tb_115 tb_1 hdf_X_isRegister rfl ⟨by omega, by omega⟩ hl.1 rfl (Nat.le_of_ble_eq_true rfl) d_X_getItem_8 (hw.fit hbud) ?_
  refine lv_if_eq (tgt := 27) S.1 S.2.1 d_X_getItem_11 (by decide) (fun c_1 => ?_) (fun c_1 => ?_)
  · refine lv_iconst (v := 0) S.1 S.2.1 d_X_getItem_27 (by decide) ?_
    exact cx_retZ S hr hlk hw hbud (by first | (unfold sh_getItem; simp only [hq_1, if_pos c_1]; done) | (unfold sh_getItem; dsimp only; simp only [hq_1, if_pos c_1]; done) | (subst hq_1; unfold sh_getItem; simp only [if_pos c_1, hC_eq, hC_clamp]; try rfl; done)) (Or.inl rfl) (by first | (unfold sh_getItem; simp only [hq_1, if_pos c_1]; done) | (unfold sh_getItem; dsimp only; simp only [hq_1, if_pos c_1]; done) | (subst hq_1; unfold sh_getItem; simp only [if_pos c_1, hC_eq, hC_clamp]; try rfl; done)) d_X_getItem_28
  · refine lv_iload_n S.1 S.2.1 d_X_getItem_14 rfl (lv_at hl 4 rfl) ?_
    refine lv_iload S.1 S.2.1 d_X_getItem_15 (lv_at hl 0 rfl) ?_
    refine lv_iconst (v := 1) S.1 S.2.1 d_X_getItem_17 (by decide) ?_
    refine cx_fn S (As := [.int q_1.1, .int 1]) (rest := [.int i]) (c_H_items l q_1.1 1) tb_274 tb_272 tb_273 tb_6 hdf_H_items rfl ⟨by omega, by omega⟩ hl.1 rfl (Nat.le_of_ble_eq_true rfl) d_X_getItem_18 (hw.fit hbud) ?_
    refine cx_fn S (As := [.int i, .int (hd_items q_1.1 1)]) (rest := []) (c_X_isBelow l i (hd_items q_1.1 1)) tb_119 tb_117 tb_118 tb_1 hdf_X_isBelow rfl ⟨by omega, by omega⟩ hl.1 rfl (Nat.le_of_ble_eq_true rfl) d_X_getItem_21 (hw.fit hbud) ?_
    refine lv_if_ne (tgt := 29) S.1 S.2.1 d_X_getItem_24 (by decide) (fun c_2 => ?_) (fun c_2 => ?_)
    · refine lv_aload_n S.1 S.2.1 d_X_getItem_29 rfl (lv_at hl 1 rfl) ?_
      refine lv_iload_n S.1 S.2.1 d_X_getItem_30 rfl (lv_at hl 3 rfl) ?_
      refine lv_iload S.1 S.2.1 d_X_getItem_31 (lv_at hl 0 rfl) ?_
      refine lv_iload_n S.1 S.2.1 d_X_getItem_33 rfl (lv_at hl 4 rfl) ?_
      refine cx_call S hw hbud (As := [.int o, .int q_1.1, .int i]) (rest := []) (c_X_levelOfGap l D cI cP a κ np q_1.2 o q_1.1 i) (q0 := 0) (fun _ => rfl) rfl tb_284 tb_281 tb_283 tp_10 tb_1 hd_X_levelOfGap rfl ⟨by omega, by omega⟩ hl.1 rfl (Nat.le_of_ble_eq_true rfl) d_X_getItem_34 (fun H locs hw => ?_)
      generalize hq_2 : sh_gap κ q_1.2 o q_1.1 i = q_2 at hw ⊢
      refine W.eq (g2 := F0 m 37 ls [.int q_2.1]) rfl ?_
      refine lv_if_ne (tgt := 44) S.1 S.2.1 d_X_getItem_37 (by decide) (fun c_3 => ?_) (fun c_3 => ?_)
      · refine lv_iconst (v := 0) S.1 S.2.1 d_X_getItem_44 (by decide) ?_
        refine lv_istore (lv' := [(5, .int 0), (4, .int q_1.1), (0, .ref (aXX a)), (1, .int t), (2, .int o), (3, .int i)]) S.1 S.2.1 d_X_getItem_45 hl (by decide) rfl (fun ls hl => ?_)
        refine lv_aload_n S.1 S.2.1 d_X_getItem_47 rfl (lv_at hl 2 rfl) ?_
        refine cx_get S hw (q0 := 0) (ci := 0) (k := 1) (v := .ref (aXM a)) (fun _ => rfl) rfl (by decide) inX tb_104 rfl rfl d_X_getItem_48 ?_
        refine lv_iload_n S.1 S.2.1 d_X_getItem_51 rfl (lv_at hl 3 rfl) ?_
        refine lv_iload S.1 S.2.1 d_X_getItem_52 (lv_at hl 0 rfl) ?_
        refine lv_if_eq (tgt := 76) S.1 S.2.1 d_X_getItem_54 (by decide) (fun c_4 => ?_) (fun c_4 => absurd c_4 (by decide))
        refine lv_iconst (v := 0) S.1 S.2.1 d_X_getItem_76 (by decide) ?_
        refine cx_call S hw hbud (As := [.int t, .int 0]) (rest := []) (c_M_setRegister l D cI cP a κ np q_2.2 t 0) (q0 := 2) (fun _ => rfl) rfl tb_202 tb_199 tb_200 tb_201 tb_3 hd_M_setRegister rfl ⟨by omega, by omega⟩ hl.1 rfl (Nat.le_of_ble_eq_true rfl) d_X_getItem_77 (fun H locs hw => ?_)
        refine W.eq (g2 := F0 m 80 ls []) rfl ?_
        refine lv_iconst (v := 1) S.1 S.2.1 d_X_getItem_80 (by decide) ?_
        exact cx_retZ S hr hlk hw hbud (by first | (unfold sh_getItem; simp only [hq_1, if_neg c_1, if_neg c_2, hq_2, if_neg c_3]; done) | (unfold sh_getItem; dsimp only; simp only [hq_1, if_neg c_1, if_neg c_2, hq_2, if_neg c_3]; done) | (subst hq_2; subst hq_1; unfold sh_getItem; simp only [if_neg c_1, if_neg c_2, if_neg c_3, hC_eq, hC_clamp]; try rfl; done)) (Or.inr rfl) (by first | (unfold sh_getItem; simp only [hq_1, if_neg c_1, if_neg c_2, hq_2, if_neg c_3]; done) | (unfold sh_getItem; dsimp only; simp only [hq_1, if_neg c_1, if_neg c_2, hq_2, if_neg c_3]; done) | (subst hq_2; subst hq_1; unfold sh_getItem; simp only [if_neg c_1, if_neg c_2, if_neg c_3, hC_eq, hC_clamp]; try rfl; done)) d_X_getItem_81
      · refine lv_iconst (v := 1) S.1 S.2.1 d_X_getItem_40 (by decide) ?_
        refine lv_goto (tgt := 45) S.1 S.2.1 d_X_getItem_41 (by decide) ?_
        refine lv_istore (lv' := [(5, .int 1), (4, .int q_1.1), (0, .ref (aXX a)), (1, .int t), (2, .int o), (3, .int i)]) S.1 S.2.1 d_X_getItem_45 hl (by decide) rfl (fun ls hl => ?_)
        refine lv_aload_n S.1 S.2.1 d_X_getItem_47 rfl (lv_at hl 2 rfl) ?_
        refine cx_get S hw (q0 := 0) (ci := 0) (k := 1) (v := .ref (aXM a)) (fun _ => rfl) rfl (by decide) inX tb_104 rfl rfl d_X_getItem_48 ?_
        refine lv_iload_n S.1 S.2.1 d_X_getItem_51 rfl (lv_at hl 3 rfl) ?_
        refine lv_iload S.1 S.2.1 d_X_getItem_52 (lv_at hl 0 rfl) ?_
        refine lv_if_eq (tgt := 76) S.1 S.2.1 d_X_getItem_54 (by decide) (fun c_5 => absurd c_5 (by decide)) (fun c_5 => ?_)
        refine lv_aload_n S.1 S.2.1 d_X_getItem_57 rfl (lv_at hl 2 rfl) ?_
        refine cx_get S hw (q0 := 0) (ci := 0) (k := 1) (v := .ref (aXM a)) (fun _ => rfl) rfl (by decide) inX tb_104 rfl rfl d_X_getItem_58 ?_
        refine lv_aload_n S.1 S.2.1 d_X_getItem_61 rfl (lv_at hl 2 rfl) ?_
        refine lv_iload_n S.1 S.2.1 d_X_getItem_62 rfl (lv_at hl 4 rfl) ?_
        refine lv_iload S.1 S.2.1 d_X_getItem_63 (lv_at hl 1 rfl) ?_
        refine lv_iload_n S.1 S.2.1 d_X_getItem_65 rfl (lv_at hl 5 rfl) ?_
        refine lv_iconst (v := 0) S.1 S.2.1 d_X_getItem_66 (by decide) ?_
        refine cx_call S hw hbud (As := [.int o, .int q_1.1, .int i, .int 0]) (rest := [.ref (aXM a), .int t, .ref (aXM a)]) (c_X_cellOnWay l D cI cP a κ np q_2.2 o q_1.1 i 0 (by decide)) (q0 := 0) (fun _ => rfl) rfl tb_294 tb_291 tb_293 tp_11 tb_1 hd_X_cellOnWay rfl ⟨by omega, by omega⟩ hl.1 rfl (Nat.le_of_ble_eq_true rfl) d_X_getItem_67 (fun H locs hw => ?_)
        generalize hq_3 : sh_way κ q_2.2 o q_1.1 i 0 = q_3 at hw ⊢
        refine W.eq (g2 := F0 m 70 ls [.int q_3.1, .ref (aXM a), .int t, .ref (aXM a)]) rfl ?_
        refine cx_call S hw hbud (As := [.int q_3.1]) (rest := [.int t, .ref (aXM a)]) (c_M_follow l D cI cP a κ np q_3.2 q_3.1) (q0 := 2) (fun _ => rfl) rfl tb_241 tb_238 tb_239 tb_240 tb_3 hd_M_follow rfl ⟨by omega, by omega⟩ hl.1 rfl (Nat.le_of_ble_eq_true rfl) d_X_getItem_70 (fun H locs hw => ?_)
        generalize hq_4 : sh_follow κ q_3.2 q_3.1 = q_4 at hw ⊢
        refine W.eq (g2 := F0 m 73 ls [.int q_4.1, .int t, .ref (aXM a)]) rfl ?_
        refine lv_goto (tgt := 77) S.1 S.2.1 d_X_getItem_73 (by decide) ?_
        refine cx_call S hw hbud (As := [.int t, .int q_4.1]) (rest := []) (c_M_setRegister l D cI cP a κ np q_4.2 t q_4.1) (q0 := 2) (fun _ => rfl) rfl tb_202 tb_199 tb_200 tb_201 tb_3 hd_M_setRegister rfl ⟨by omega, by omega⟩ hl.1 rfl (Nat.le_of_ble_eq_true rfl) d_X_getItem_77 (fun H locs hw => ?_)
        refine W.eq (g2 := F0 m 80 ls []) rfl ?_
        refine lv_iconst (v := 1) S.1 S.2.1 d_X_getItem_80 (by decide) ?_
        exact cx_retZ S hr hlk hw hbud (by first | exact absurd c_3 c_1 | exact absurd c_3 c_2 | (unfold sh_getItem; simp only [hq_1, if_neg c_1, if_neg c_2, hq_2, if_pos c_3, hq_3, hq_4]; done) | (unfold sh_getItem; dsimp only; simp only [hq_1, if_neg c_1, if_neg c_2, hq_2, if_pos c_3, hq_3, hq_4]; done) | (subst hq_4; subst hq_3; subst hq_2; subst hq_1; unfold sh_getItem; simp only [if_neg c_1, if_neg c_2, if_pos c_3, hC_eq, hC_clamp]; try rfl; done)) (Or.inr rfl) (by first | exact absurd c_3 c_1 | exact absurd c_3 c_2 | (unfold sh_getItem; simp only [hq_1, if_neg c_1, if_neg c_2, hq_2, if_pos c_3, hq_3, hq_4]; done) | (unfold sh_getItem; dsimp only; simp only [hq_1, if_neg c_1, if_neg c_2, hq_2, if_pos c_3, hq_3, hq_4]; done) | (subst hq_4; subst hq_3; subst hq_2; subst hq_1; unfold sh_getItem; simp only [if_neg c_1, if_neg c_2, if_pos c_3, hC_eq, hC_clamp]; try rfl; done)) d_X_getItem_81
    · refine lv_iconst (v := 0) S.1 S.2.1 d_X_getItem_27 (by decide) ?_
      exact cx_retZ S hr hlk hw hbud (by first | exact absurd c_2 c_1 | (unfold sh_getItem; simp only [hq_1, if_neg c_1, if_pos c_2]; done) | (unfold sh_getItem; dsimp only; simp only [hq_1, if_neg c_1, if_pos c_2]; done) | (subst hq_1; unfold sh_getItem; simp only [if_neg c_1, if_pos c_2, hC_eq, hC_clamp]; try rfl; done)) (Or.inl rfl) (by first | exact absurd c_2 c_1 | (unfold sh_getItem; simp only [hq_1, if_neg c_1, if_pos c_2]; done) | (unfold sh_getItem; dsimp only; simp only [hq_1, if_neg c_1, if_pos c_2]; done) | (subst hq_1; unfold sh_getItem; simp only [if_neg c_1, if_pos c_2, hC_eq, hC_clamp]; try rfl; done)) d_X_getItem_28
set_option maxHeartbeats 4000000 in
set_option maxRecDepth 100000 in
theorem c_X_putItem (l : Launch) (D : va_G) (cI cP : ClassId) (a : cx_a) (κ : sh_K) (np : Nat) (σ : sh_S) (o i r : Int32) : cx_Met l D cI cP a κ np y_X_putItem b_X_putItem 6 (some .int) 7 152 [.ref (aXX a), .int o, .int i, .int r] σ (some (.int ((sh_putItem κ σ o i r).1))) ((sh_putItem κ σ o i r).2) := by
  refine cx_start (by decide) (Nat.le_of_ble_eq_true rfl) mo_putItem ?_
  intro p e R s m args below meth c A ls S hr hlk hfr hlc hw hbud hl
  have hl : lv_has ls 6 [(0, .ref (aXX a)), (1, .int o), (2, .int i), (3, .int r)] := hl
  refine lv_aload_n S.1 S.2.1 d_X_putItem_0 rfl (lv_at hl 0 rfl) ?_
  refine lv_iload_n S.1 S.2.1 d_X_putItem_1 rfl (lv_at hl 1 rfl) ?_
  refine cx_call S hw hbud (As := [.int o]) (rest := []) (c_X_headOf l D cI cP a κ np σ o) (q0 := 0) (fun _ => rfl) rfl tb_222 tb_219 tb_221 tp_7 tb_1 hd_X_headOf rfl ⟨by omega, by omega⟩ hl.1 rfl (Nat.le_of_ble_eq_true rfl) d_X_putItem_2 (fun H locs hw => ?_)
  generalize hq_1 : sh_head κ σ o = q_1 at hw ⊢
  refine W.eq (g2 := F0 m 5 ls [.int q_1.1]) rfl ?_
  refine lv_istore (lv' := [(4, .int q_1.1), (0, .ref (aXX a)), (1, .int o), (2, .int i), (3, .int r)]) S.1 S.2.1 d_X_putItem_5 hl (by decide) rfl (fun ls hl => ?_)
  refine lv_iload_n S.1 S.2.1 d_X_putItem_7 rfl (lv_at hl 4 rfl) ?_
  refine cx_fn S (As := [.int r]) (rest := []) (c_X_isRegister l r) tb_116 tb_114 tb_115 tb_1 hdf_X_isRegister rfl ⟨by omega, by omega⟩ hl.1 rfl (Nat.le_of_ble_eq_true rfl) d_X_putItem_8 (hw.fit hbud) ?_
  refine lv_if_eq (tgt := 27) S.1 S.2.1 d_X_putItem_11 (by decide) (fun c_1 => ?_) (fun c_1 => ?_)
  · refine lv_iconst (v := -1) S.1 S.2.1 d_X_putItem_27 (by decide) ?_
    exact cx_retI S hr hlk hw hbud (by first | (unfold sh_putItem; simp only [hq_1, if_pos c_1]; done) | (unfold sh_putItem; dsimp only; simp only [hq_1, if_pos c_1]; done) | (subst hq_1; unfold sh_putItem; simp only [if_pos c_1, hC_eq, hC_clamp]; try rfl; done)) (by first | (unfold sh_putItem; simp only [hq_1, if_pos c_1]; done) | (unfold sh_putItem; dsimp only; simp only [hq_1, if_pos c_1]; done) | (subst hq_1; unfold sh_putItem; simp only [if_pos c_1, hC_eq, hC_clamp]; try rfl; done)) d_X_putItem_28
  · refine lv_iload_n S.1 S.2.1 d_X_putItem_14 rfl (lv_at hl 3 rfl) ?_
    refine lv_iload S.1 S.2.1 d_X_putItem_15 (lv_at hl 0 rfl) ?_
    refine lv_iconst (v := 1) S.1 S.2.1 d_X_putItem_17 (by decide) ?_
    refine cx_fn S (As := [.int q_1.1, .int 1]) (rest := [.int i]) (c_H_items l q_1.1 1) tb_274 tb_272 tb_273 tb_6 hdf_H_items rfl ⟨by omega, by omega⟩ hl.1 rfl (Nat.le_of_ble_eq_true rfl) d_X_putItem_18 (hw.fit hbud) ?_
    refine cx_fn S (As := [.int i, .int (hd_items q_1.1 1)]) (rest := []) (c_X_isBelow l i (hd_items q_1.1 1)) tb_119 tb_117 tb_118 tb_1 hdf_X_isBelow rfl ⟨by omega, by omega⟩ hl.1 rfl (Nat.le_of_ble_eq_true rfl) d_X_putItem_21 (hw.fit hbud) ?_
    refine lv_if_ne (tgt := 29) S.1 S.2.1 d_X_putItem_24 (by decide) (fun c_2 => ?_) (fun c_2 => ?_)
    · refine lv_aload_n S.1 S.2.1 d_X_putItem_29 rfl (lv_at hl 1 rfl) ?_
      refine lv_iload_n S.1 S.2.1 d_X_putItem_30 rfl (lv_at hl 2 rfl) ?_
      refine lv_iload S.1 S.2.1 d_X_putItem_31 (lv_at hl 0 rfl) ?_
      refine lv_iload_n S.1 S.2.1 d_X_putItem_33 rfl (lv_at hl 3 rfl) ?_
      refine cx_call S hw hbud (As := [.int o, .int q_1.1, .int i]) (rest := []) (c_X_openWay l D cI cP a κ np q_1.2 o q_1.1 i) (q0 := 0) (fun _ => rfl) rfl tb_302 tb_299 tb_301 tp_12 tb_1 hd_X_openWay rfl ⟨by omega, by omega⟩ hl.1 rfl (Nat.le_of_ble_eq_true rfl) d_X_putItem_34 (fun H locs hw => ?_)
      generalize hq_2 : sh_open κ q_1.2 o q_1.1 i = q_2 at hw ⊢
      refine W.eq (g2 := F0 m 37 ls [.int q_2.1]) rfl ?_
      refine lv_istore (lv' := [(5, .int q_2.1), (4, .int q_1.1), (0, .ref (aXX a)), (1, .int o), (2, .int i), (3, .int r)]) S.1 S.2.1 d_X_putItem_37 hl (by decide) rfl (fun ls hl => ?_)
      refine lv_iload S.1 S.2.1 d_X_putItem_39 (lv_at hl 0 rfl) ?_
      refine lv_iconst (v := 1) S.1 S.2.1 d_X_putItem_41 (by decide) ?_
      refine lv_icmp_ne (tgt := 69) S.1 S.2.1 d_X_putItem_42 (by decide) (fun c_3 => ?_) (fun c_3 => ?_)
      · refine lv_iload S.1 S.2.1 d_X_putItem_69 (lv_at hl 0 rfl) ?_
        exact cx_retI S hr hlk hw hbud (by first | (unfold sh_putItem; simp only [hq_1, if_neg c_1, if_neg c_2, hq_2, if_neg c_3]; done) | (unfold sh_putItem; dsimp only; simp only [hq_1, if_neg c_1, if_neg c_2, hq_2, if_neg c_3]; done) | (subst hq_2; subst hq_1; unfold sh_putItem; simp only [if_neg c_1, if_neg c_2, if_neg c_3, hC_eq, hC_clamp]; try rfl; done)) (by first | (unfold sh_putItem; simp only [hq_1, if_neg c_1, if_neg c_2, hq_2, if_neg c_3]; done) | (unfold sh_putItem; dsimp only; simp only [hq_1, if_neg c_1, if_neg c_2, hq_2, if_neg c_3]; done) | (subst hq_2; subst hq_1; unfold sh_putItem; simp only [if_neg c_1, if_neg c_2, if_neg c_3, hC_eq, hC_clamp]; try rfl; done)) d_X_putItem_71
      · refine lv_aload_n S.1 S.2.1 d_X_putItem_45 rfl (lv_at hl 2 rfl) ?_
        refine cx_get S hw (q0 := 0) (ci := 0) (k := 1) (v := .ref (aXM a)) (fun _ => rfl) rfl (by decide) inX tb_104 rfl rfl d_X_putItem_46 ?_
        refine lv_aload_n S.1 S.2.1 d_X_putItem_49 rfl (lv_at hl 2 rfl) ?_
        refine lv_iload_n S.1 S.2.1 d_X_putItem_50 rfl (lv_at hl 3 rfl) ?_
        refine lv_iload S.1 S.2.1 d_X_putItem_51 (lv_at hl 1 rfl) ?_
        refine lv_iload_n S.1 S.2.1 d_X_putItem_53 rfl (lv_at hl 4 rfl) ?_
        refine lv_iconst (v := 0) S.1 S.2.1 d_X_putItem_54 (by decide) ?_
        refine cx_call S hw hbud (As := [.int o, .int q_1.1, .int i, .int 0]) (rest := [.ref (aXM a)]) (c_X_cellOnWay l D cI cP a κ np q_2.2 o q_1.1 i 0 (by decide)) (q0 := 0) (fun _ => rfl) rfl tb_294 tb_291 tb_293 tp_11 tb_1 hd_X_cellOnWay rfl ⟨by omega, by omega⟩ hl.1 rfl (Nat.le_of_ble_eq_true rfl) d_X_putItem_55 (fun H locs hw => ?_)
        generalize hq_3 : sh_way κ q_2.2 o q_1.1 i 0 = q_3 at hw ⊢
        refine W.eq (g2 := F0 m 58 ls [.int q_3.1, .ref (aXM a)]) rfl ?_
        refine lv_aload_n S.1 S.2.1 d_X_putItem_58 rfl (lv_at hl 2 rfl) ?_
        refine cx_get S hw (q0 := 0) (ci := 0) (k := 1) (v := .ref (aXM a)) (fun _ => rfl) rfl (by decide) inX tb_104 rfl rfl d_X_putItem_59 ?_
        refine lv_iload_n S.1 S.2.1 d_X_putItem_62 rfl (lv_at hl 5 rfl) ?_
        refine cx_rd S hw (hw.fit hbud) (As := [.int r]) (rest := [.int q_3.1, .ref (aXM a)]) (c_M_register l D cI cP a κ np q_3.2 r) (q0 := 2) (fun _ => rfl) rfl tb_226 tb_223 tb_224 tb_225 tb_3 hd_M_register rfl ⟨by omega, by omega⟩ hl.1 rfl (Nat.le_of_ble_eq_true rfl) d_X_putItem_63 ?_
        refine cx_call S hw hbud (As := [.int q_3.1, .int (sh_reg q_3.2 r)]) (rest := []) (c_M_link l D cI cP a κ np q_3.2 q_3.1 (sh_reg q_3.2 r)) (q0 := 2) (fun _ => rfl) rfl tb_249 tb_246 tb_247 tb_248 tb_3 hd_M_link rfl ⟨by omega, by omega⟩ hl.1 rfl (Nat.le_of_ble_eq_true rfl) d_X_putItem_66 (fun H locs hw => ?_)
        generalize hq_4 : sh_link κ q_3.2 q_3.1 (sh_reg q_3.2 r) = q_4 at hw ⊢
        refine W.eq (g2 := F0 m 69 ls []) rfl ?_
        refine lv_iload S.1 S.2.1 d_X_putItem_69 (lv_at hl 0 rfl) ?_
        exact cx_retI S hr hlk hw hbud (by first | exact absurd c_3 c_1 | exact absurd c_3 c_2 | (unfold sh_putItem; simp only [hq_1, if_neg c_1, if_neg c_2, hq_2, if_pos c_3, hq_3, hq_4]; done) | (unfold sh_putItem; dsimp only; simp only [hq_1, if_neg c_1, if_neg c_2, hq_2, if_pos c_3, hq_3, hq_4]; done) | (subst hq_4; subst hq_3; subst hq_2; subst hq_1; unfold sh_putItem; simp only [if_neg c_1, if_neg c_2, if_pos c_3, hC_eq, hC_clamp]; try rfl; done)) (by first | exact absurd c_3 c_1 | exact absurd c_3 c_2 | (unfold sh_putItem; simp only [hq_1, if_neg c_1, if_neg c_2, hq_2, if_pos c_3, hq_3, hq_4]; done) | (unfold sh_putItem; dsimp only; simp only [hq_1, if_neg c_1, if_neg c_2, hq_2, if_pos c_3, hq_3, hq_4]; done) | (subst hq_4; subst hq_3; subst hq_2; subst hq_1; unfold sh_putItem; simp only [if_neg c_1, if_neg c_2, if_pos c_3, hC_eq, hC_clamp]; try rfl; done)) d_X_putItem_71
    · refine lv_iconst (v := -1) S.1 S.2.1 d_X_putItem_27 (by decide) ?_
      exact cx_retI S hr hlk hw hbud (by first | exact absurd c_2 c_1 | (unfold sh_putItem; simp only [hq_1, if_neg c_1, if_pos c_2]; done) | (unfold sh_putItem; dsimp only; simp only [hq_1, if_neg c_1, if_pos c_2]; done) | (subst hq_1; unfold sh_putItem; simp only [if_neg c_1, if_pos c_2, hC_eq, hC_clamp]; try rfl; done)) (by first | exact absurd c_2 c_1 | (unfold sh_putItem; simp only [hq_1, if_neg c_1, if_pos c_2]; done) | (unfold sh_putItem; dsimp only; simp only [hq_1, if_neg c_1, if_pos c_2]; done) | (subst hq_1; unfold sh_putItem; simp only [if_neg c_1, if_pos c_2, hC_eq, hC_clamp]; try rfl; done)) d_X_putItem_28
set_option maxHeartbeats 4000000 in
set_option maxRecDepth 100000 in
theorem c_X_lookItem (l : Launch) (D : va_G) (cI cP : ClassId) (a : cx_a) (κ : sh_K) (np : Nat) (σ : sh_S) (o i : Int32) : cx_Met l D cI cP a κ np y_X_lookItem b_X_lookItem 5 (some .long) 6 127 [.ref (aXX a), .int o, .int i] σ (some (.long ((sh_lookItem κ σ o i).1))) ((sh_lookItem κ σ o i).2) := by
  refine cx_start (by decide) (Nat.le_of_ble_eq_true rfl) mo_lookItem ?_
  intro p e R s m args below meth c A ls S hr hlk hfr hlc hw hbud hl
  have hl : lv_has ls 5 [(0, .ref (aXX a)), (1, .int o), (2, .int i)] := hl
  refine lv_aload_n S.1 S.2.1 d_X_lookItem_0 rfl (lv_at hl 0 rfl) ?_
  refine lv_iload_n S.1 S.2.1 d_X_lookItem_1 rfl (lv_at hl 1 rfl) ?_
  refine cx_call S hw hbud (As := [.int o]) (rest := []) (c_X_headOf l D cI cP a κ np σ o) (q0 := 0) (fun _ => rfl) rfl tb_222 tb_219 tb_221 tp_7 tb_1 hd_X_headOf rfl ⟨by omega, by omega⟩ hl.1 rfl (Nat.le_of_ble_eq_true rfl) d_X_lookItem_2 (fun H locs hw => ?_)
  generalize hq_1 : sh_head κ σ o = q_1 at hw ⊢
  refine W.eq (g2 := F0 m 5 ls [.int q_1.1]) rfl ?_
  refine lv_istore_n (lv' := [(3, .int q_1.1), (0, .ref (aXX a)), (1, .int o), (2, .int i)]) S.1 S.2.1 d_X_lookItem_5 rfl hl (by decide) rfl (fun ls hl => ?_)
  refine lv_iload_n S.1 S.2.1 d_X_lookItem_6 rfl (lv_at hl 3 rfl) ?_
  refine lv_iload_n S.1 S.2.1 d_X_lookItem_7 rfl (lv_at hl 0 rfl) ?_
  refine lv_iconst (v := 0) S.1 S.2.1 d_X_lookItem_8 (by decide) ?_
  refine cx_fn S (As := [.int q_1.1, .int 0]) (rest := [.int i]) (c_H_items l q_1.1 0) tb_274 tb_272 tb_273 tb_6 hdf_H_items rfl ⟨by omega, by omega⟩ hl.1 rfl (Nat.le_of_ble_eq_true rfl) d_X_lookItem_9 (hw.fit hbud) ?_
  refine cx_fn S (As := [.int i, .int (hd_items q_1.1 0)]) (rest := []) (c_X_isBelow l i (hd_items q_1.1 0)) tb_119 tb_117 tb_118 tb_1 hdf_X_isBelow rfl ⟨by omega, by omega⟩ hl.1 rfl (Nat.le_of_ble_eq_true rfl) d_X_lookItem_12 (hw.fit hbud) ?_
  refine lv_if_ne (tgt := 22) S.1 S.2.1 d_X_lookItem_15 (by decide) (fun c_1 => ?_) (fun c_1 => ?_)
  · refine lv_aload_n S.1 S.2.1 d_X_lookItem_22 rfl (lv_at hl 1 rfl) ?_
    refine lv_iload_n S.1 S.2.1 d_X_lookItem_23 rfl (lv_at hl 2 rfl) ?_
    refine lv_iload_n S.1 S.2.1 d_X_lookItem_24 rfl (lv_at hl 0 rfl) ?_
    refine lv_iload_n S.1 S.2.1 d_X_lookItem_25 rfl (lv_at hl 3 rfl) ?_
    refine cx_call S hw hbud (As := [.int o, .int q_1.1, .int i]) (rest := []) (c_X_levelOfGap l D cI cP a κ np q_1.2 o q_1.1 i) (q0 := 0) (fun _ => rfl) rfl tb_284 tb_281 tb_283 tp_10 tb_1 hd_X_levelOfGap rfl ⟨by omega, by omega⟩ hl.1 rfl (Nat.le_of_ble_eq_true rfl) d_X_lookItem_26 (fun H locs hw => ?_)
    generalize hq_2 : sh_gap κ q_1.2 o q_1.1 i = q_2 at hw ⊢
    refine W.eq (g2 := F0 m 29 ls [.int q_2.1]) rfl ?_
    refine lv_if_ne (tgt := 36) S.1 S.2.1 d_X_lookItem_29 (by decide) (fun c_2 => ?_) (fun c_2 => ?_)
    · refine lv_iconst (v := 0) S.1 S.2.1 d_X_lookItem_36 (by decide) ?_
      refine lv_istore (lv' := [(4, .int 0), (3, .int q_1.1), (0, .ref (aXX a)), (1, .int o), (2, .int i)]) S.1 S.2.1 d_X_lookItem_37 hl (by decide) rfl (fun ls hl => ?_)
      refine lv_iload S.1 S.2.1 d_X_lookItem_39 (lv_at hl 0 rfl) ?_
      refine lv_if_eq (tgt := 63) S.1 S.2.1 d_X_lookItem_41 (by decide) (fun c_3 => ?_) (fun c_3 => absurd c_3 (by decide))
      refine lv_lconst (v := 0) S.1 S.2.1 d_X_lookItem_63 (by decide) ?_
      exact cx_retL S hr hlk hw hbud (by first | (unfold sh_lookItem; simp only [hq_1, if_neg c_1, hq_2, if_neg c_2]; done) | (unfold sh_lookItem; dsimp only; simp only [hq_1, if_neg c_1, hq_2, if_neg c_2]; done) | (subst hq_2; subst hq_1; unfold sh_lookItem; simp only [if_neg c_1, if_neg c_2, hC_eq, hC_clamp]; try rfl; done)) (by first | (unfold sh_lookItem; simp only [hq_1, if_neg c_1, hq_2, if_neg c_2]; done) | (unfold sh_lookItem; dsimp only; simp only [hq_1, if_neg c_1, hq_2, if_neg c_2]; done) | (subst hq_2; subst hq_1; unfold sh_lookItem; simp only [if_neg c_1, if_neg c_2, hC_eq, hC_clamp]; try rfl; done)) d_X_lookItem_64
    · refine lv_iconst (v := 1) S.1 S.2.1 d_X_lookItem_32 (by decide) ?_
      refine lv_goto (tgt := 37) S.1 S.2.1 d_X_lookItem_33 (by decide) ?_
      refine lv_istore (lv' := [(4, .int 1), (3, .int q_1.1), (0, .ref (aXX a)), (1, .int o), (2, .int i)]) S.1 S.2.1 d_X_lookItem_37 hl (by decide) rfl (fun ls hl => ?_)
      refine lv_iload S.1 S.2.1 d_X_lookItem_39 (lv_at hl 0 rfl) ?_
      refine lv_if_eq (tgt := 63) S.1 S.2.1 d_X_lookItem_41 (by decide) (fun c_4 => absurd c_4 (by decide)) (fun c_4 => ?_)
      refine lv_aload_n S.1 S.2.1 d_X_lookItem_44 rfl (lv_at hl 2 rfl) ?_
      refine cx_get S hw (q0 := 0) (ci := 0) (k := 0) (v := .ref (aXC a)) (fun _ => rfl) rfl (by decide) inX tb_103 rfl rfl d_X_lookItem_45 ?_
      refine lv_aload_n S.1 S.2.1 d_X_lookItem_48 rfl (lv_at hl 2 rfl) ?_
      refine lv_iload_n S.1 S.2.1 d_X_lookItem_49 rfl (lv_at hl 3 rfl) ?_
      refine lv_iload_n S.1 S.2.1 d_X_lookItem_50 rfl (lv_at hl 1 rfl) ?_
      refine lv_iload_n S.1 S.2.1 d_X_lookItem_51 rfl (lv_at hl 4 rfl) ?_
      refine lv_iconst (v := 0) S.1 S.2.1 d_X_lookItem_52 (by decide) ?_
      refine cx_call S hw hbud (As := [.int o, .int q_1.1, .int i, .int 0]) (rest := [.ref (aXC a)]) (c_X_cellOnWay l D cI cP a κ np q_2.2 o q_1.1 i 0 (by decide)) (q0 := 0) (fun _ => rfl) rfl tb_294 tb_291 tb_293 tp_11 tb_1 hd_X_cellOnWay rfl ⟨by omega, by omega⟩ hl.1 rfl (Nat.le_of_ble_eq_true rfl) d_X_lookItem_53 (fun H locs hw => ?_)
      generalize hq_3 : sh_way κ q_2.2 o q_1.1 i 0 = q_3 at hw ⊢
      refine W.eq (g2 := F0 m 56 ls [.int q_3.1, .ref (aXC a)]) rfl ?_
      refine cx_call S hw hbud (As := [.int q_3.1]) (rest := []) (c_C_read l D cI cP a κ np q_3.2 q_3.1) (q0 := 1) (fun _ => rfl) rfl tb_170 tb_227 tb_168 tb_169 tb_4 hd_C_read rfl ⟨by omega, by omega⟩ hl.1 rfl (Nat.le_of_ble_eq_true rfl) d_X_lookItem_56 (fun H locs hw => ?_)
      refine W.eq (g2 := F0 m 59 ls [.int (sh_val κ (q_3.2).1 q_3.1)]) rfl ?_
      refine lv_i2l S.1 S.2.1 d_X_lookItem_59 rfl ?_
      refine lv_goto (tgt := 64) S.1 S.2.1 d_X_lookItem_60 (by decide) ?_
      exact cx_retL S hr hlk hw hbud (by first | exact absurd c_2 c_1 | (unfold sh_lookItem; simp only [hq_1, if_neg c_1, hq_2, if_pos c_2, hq_3]; done) | (unfold sh_lookItem; dsimp only; simp only [hq_1, if_neg c_1, hq_2, if_pos c_2, hq_3]; done) | (subst hq_3; subst hq_2; subst hq_1; unfold sh_lookItem; simp only [if_neg c_1, if_pos c_2, hC_eq, hC_clamp]; try rfl; done)) (by first | exact absurd c_2 c_1 | (unfold sh_lookItem; simp only [hq_1, if_neg c_1, hq_2, if_pos c_2, hq_3]; done) | (unfold sh_lookItem; dsimp only; simp only [hq_1, if_neg c_1, hq_2, if_pos c_2, hq_3]; done) | (subst hq_3; subst hq_2; subst hq_1; unfold sh_lookItem; simp only [if_neg c_1, if_pos c_2, hC_eq, hC_clamp]; try rfl; done)) d_X_lookItem_64
  · refine lv_ldc2 (v := -9223372036854775808) S.1 S.2.1 S.2.2.2.1 (S.2.2.2.2 _ (List.mem_cons_of_mem _ tb_258)) d_X_lookItem_18 ?_
    exact cx_retL S hr hlk hw hbud (by first | (unfold sh_lookItem; simp only [hq_1, if_pos c_1]; done) | (unfold sh_lookItem; dsimp only; simp only [hq_1, if_pos c_1]; done) | (subst hq_1; unfold sh_lookItem; simp only [if_pos c_1, hC_eq, hC_clamp]; try rfl; done)) (by first | (unfold sh_lookItem; simp only [hq_1, if_pos c_1]; done) | (unfold sh_lookItem; dsimp only; simp only [hq_1, if_pos c_1]; done) | (subst hq_1; unfold sh_lookItem; simp only [if_pos c_1, hC_eq, hC_clamp]; try rfl; done)) d_X_lookItem_21
set_option maxHeartbeats 4000000 in
set_option maxRecDepth 100000 in
theorem c_X_setItem (l : Launch) (D : va_G) (cI cP : ClassId) (a : cx_a) (κ : sh_K) (np : Nat) (σ : sh_S) (o i v : Int32) : cx_Met l D cI cP a κ np y_X_setItem b_X_setItem 6 (some .int) 7 152 [.ref (aXX a), .int o, .int i, .int v] σ (some (.int ((sh_setItem κ σ o i v).1))) ((sh_setItem κ σ o i v).2) := by
  refine cx_start (by decide) (Nat.le_of_ble_eq_true rfl) mo_setItem ?_
  intro p e R s m args below meth c A ls S hr hlk hfr hlc hw hbud hl
  have hl : lv_has ls 6 [(0, .ref (aXX a)), (1, .int o), (2, .int i), (3, .int v)] := hl
  refine lv_aload_n S.1 S.2.1 d_X_setItem_0 rfl (lv_at hl 0 rfl) ?_
  refine lv_iload_n S.1 S.2.1 d_X_setItem_1 rfl (lv_at hl 1 rfl) ?_
  refine cx_call S hw hbud (As := [.int o]) (rest := []) (c_X_headOf l D cI cP a κ np σ o) (q0 := 0) (fun _ => rfl) rfl tb_222 tb_219 tb_221 tp_7 tb_1 hd_X_headOf rfl ⟨by omega, by omega⟩ hl.1 rfl (Nat.le_of_ble_eq_true rfl) d_X_setItem_2 (fun H locs hw => ?_)
  generalize hq_1 : sh_head κ σ o = q_1 at hw ⊢
  refine W.eq (g2 := F0 m 5 ls [.int q_1.1]) rfl ?_
  refine lv_istore (lv' := [(4, .int q_1.1), (0, .ref (aXX a)), (1, .int o), (2, .int i), (3, .int v)]) S.1 S.2.1 d_X_setItem_5 hl (by decide) rfl (fun ls hl => ?_)
  refine lv_iload_n S.1 S.2.1 d_X_setItem_7 rfl (lv_at hl 3 rfl) ?_
  refine lv_iload S.1 S.2.1 d_X_setItem_8 (lv_at hl 0 rfl) ?_
  refine lv_iconst (v := 0) S.1 S.2.1 d_X_setItem_10 (by decide) ?_
  refine cx_fn S (As := [.int q_1.1, .int 0]) (rest := [.int i]) (c_H_items l q_1.1 0) tb_274 tb_272 tb_273 tb_6 hdf_H_items rfl ⟨by omega, by omega⟩ hl.1 rfl (Nat.le_of_ble_eq_true rfl) d_X_setItem_11 (hw.fit hbud) ?_
  refine cx_fn S (As := [.int i, .int (hd_items q_1.1 0)]) (rest := []) (c_X_isBelow l i (hd_items q_1.1 0)) tb_119 tb_117 tb_118 tb_1 hdf_X_isBelow rfl ⟨by omega, by omega⟩ hl.1 rfl (Nat.le_of_ble_eq_true rfl) d_X_setItem_14 (hw.fit hbud) ?_
  refine lv_if_ne (tgt := 22) S.1 S.2.1 d_X_setItem_17 (by decide) (fun c_1 => ?_) (fun c_1 => ?_)
  · refine lv_aload_n S.1 S.2.1 d_X_setItem_22 rfl (lv_at hl 1 rfl) ?_
    refine lv_iload_n S.1 S.2.1 d_X_setItem_23 rfl (lv_at hl 2 rfl) ?_
    refine lv_iload S.1 S.2.1 d_X_setItem_24 (lv_at hl 0 rfl) ?_
    refine lv_iload_n S.1 S.2.1 d_X_setItem_26 rfl (lv_at hl 3 rfl) ?_
    refine cx_call S hw hbud (As := [.int o, .int q_1.1, .int i]) (rest := []) (c_X_openWay l D cI cP a κ np q_1.2 o q_1.1 i) (q0 := 0) (fun _ => rfl) rfl tb_302 tb_299 tb_301 tp_12 tb_1 hd_X_openWay rfl ⟨by omega, by omega⟩ hl.1 rfl (Nat.le_of_ble_eq_true rfl) d_X_setItem_27 (fun H locs hw => ?_)
    generalize hq_2 : sh_open κ q_1.2 o q_1.1 i = q_2 at hw ⊢
    refine W.eq (g2 := F0 m 30 ls [.int q_2.1]) rfl ?_
    refine lv_istore (lv' := [(5, .int q_2.1), (4, .int q_1.1), (0, .ref (aXX a)), (1, .int o), (2, .int i), (3, .int v)]) S.1 S.2.1 d_X_setItem_30 hl (by decide) rfl (fun ls hl => ?_)
    refine lv_iload S.1 S.2.1 d_X_setItem_32 (lv_at hl 0 rfl) ?_
    refine lv_iconst (v := 1) S.1 S.2.1 d_X_setItem_34 (by decide) ?_
    refine lv_icmp_ne (tgt := 55) S.1 S.2.1 d_X_setItem_35 (by decide) (fun c_2 => ?_) (fun c_2 => ?_)
    · refine lv_iload S.1 S.2.1 d_X_setItem_55 (lv_at hl 0 rfl) ?_
      exact cx_retI S hr hlk hw hbud (by first | (unfold sh_setItem; simp only [hq_1, if_neg c_1, hq_2, if_neg c_2]; done) | (unfold sh_setItem; dsimp only; simp only [hq_1, if_neg c_1, hq_2, if_neg c_2]; done) | (subst hq_2; subst hq_1; unfold sh_setItem; simp only [if_neg c_1, if_neg c_2, hC_eq, hC_clamp]; try rfl; done)) (by first | (unfold sh_setItem; simp only [hq_1, if_neg c_1, hq_2, if_neg c_2]; done) | (unfold sh_setItem; dsimp only; simp only [hq_1, if_neg c_1, hq_2, if_neg c_2]; done) | (subst hq_2; subst hq_1; unfold sh_setItem; simp only [if_neg c_1, if_neg c_2, hC_eq, hC_clamp]; try rfl; done)) d_X_setItem_57
    · refine lv_aload_n S.1 S.2.1 d_X_setItem_38 rfl (lv_at hl 2 rfl) ?_
      refine cx_get S hw (q0 := 0) (ci := 0) (k := 0) (v := .ref (aXC a)) (fun _ => rfl) rfl (by decide) inX tb_103 rfl rfl d_X_setItem_39 ?_
      refine lv_aload_n S.1 S.2.1 d_X_setItem_42 rfl (lv_at hl 2 rfl) ?_
      refine lv_iload_n S.1 S.2.1 d_X_setItem_43 rfl (lv_at hl 3 rfl) ?_
      refine lv_iload S.1 S.2.1 d_X_setItem_44 (lv_at hl 1 rfl) ?_
      refine lv_iload_n S.1 S.2.1 d_X_setItem_46 rfl (lv_at hl 4 rfl) ?_
      refine lv_iconst (v := 0) S.1 S.2.1 d_X_setItem_47 (by decide) ?_
      refine cx_call S hw hbud (As := [.int o, .int q_1.1, .int i, .int 0]) (rest := [.ref (aXC a)]) (c_X_cellOnWay l D cI cP a κ np q_2.2 o q_1.1 i 0 (by decide)) (q0 := 0) (fun _ => rfl) rfl tb_294 tb_291 tb_293 tp_11 tb_1 hd_X_cellOnWay rfl ⟨by omega, by omega⟩ hl.1 rfl (Nat.le_of_ble_eq_true rfl) d_X_setItem_48 (fun H locs hw => ?_)
      generalize hq_3 : sh_way κ q_2.2 o q_1.1 i 0 = q_3 at hw ⊢
      refine W.eq (g2 := F0 m 51 ls [.int q_3.1, .ref (aXC a)]) rfl ?_
      refine lv_iload_n S.1 S.2.1 d_X_setItem_51 rfl (lv_at hl 5 rfl) ?_
      refine cx_call S hw hbud (As := [.int q_3.1, .int v]) (rest := []) (c_C_write l D cI cP a κ np q_3.2 q_3.1 v) (q0 := 1) (fun _ => rfl) rfl tb_179 tb_267 tb_177 tb_178 tb_4 hd_C_write rfl ⟨by omega, by omega⟩ hl.1 rfl (Nat.le_of_ble_eq_true rfl) d_X_setItem_52 (fun H locs hw => ?_)
      generalize hq_4 : sh_write κ (q_3.2).1 q_3.1 v = q_4 at hw ⊢
      refine W.eq (g2 := F0 m 55 ls []) rfl ?_
      refine lv_iload S.1 S.2.1 d_X_setItem_55 (lv_at hl 0 rfl) ?_
      exact cx_retI S hr hlk hw hbud (by first | exact absurd c_2 c_1 | (unfold sh_setItem; simp only [hq_1, if_neg c_1, hq_2, if_pos c_2, hq_3, hq_4]; done) | (unfold sh_setItem; dsimp only; simp only [hq_1, if_neg c_1, hq_2, if_pos c_2, hq_3, hq_4]; done) | (subst hq_4; subst hq_3; subst hq_2; subst hq_1; unfold sh_setItem; simp only [if_neg c_1, if_pos c_2, hC_eq, hC_clamp]; try rfl; done)) (by first | exact absurd c_2 c_1 | (unfold sh_setItem; simp only [hq_1, if_neg c_1, hq_2, if_pos c_2, hq_3, hq_4]; done) | (unfold sh_setItem; dsimp only; simp only [hq_1, if_neg c_1, hq_2, if_pos c_2, hq_3, hq_4]; done) | (subst hq_4; subst hq_3; subst hq_2; subst hq_1; unfold sh_setItem; simp only [if_neg c_1, if_pos c_2, hC_eq, hC_clamp]; try rfl; done)) d_X_setItem_57
  · refine lv_iconst (v := -1) S.1 S.2.1 d_X_setItem_20 (by decide) ?_
    exact cx_retI S hr hlk hw hbud (by first | (unfold sh_setItem; simp only [hq_1, if_pos c_1]; done) | (unfold sh_setItem; dsimp only; simp only [hq_1, if_pos c_1]; done) | (subst hq_1; unfold sh_setItem; simp only [if_pos c_1, hC_eq, hC_clamp]; try rfl; done)) (by first | (unfold sh_setItem; simp only [hq_1, if_pos c_1]; done) | (unfold sh_setItem; dsimp only; simp only [hq_1, if_pos c_1]; done) | (subst hq_1; unfold sh_setItem; simp only [if_pos c_1, hC_eq, hC_clamp]; try rfl; done)) d_X_setItem_21
end
section
/-! ===== THE FACE: contracts ===== -/
set_option maxHeartbeats 4000000 in
set_option maxRecDepth 100000 in
theorem c_X_copy (l : Launch) (D : va_G) (cI cP : ClassId) (a : cx_a) (κ : sh_K) (np : Nat) (σ : sh_S) (t r : Int32) : cx_Met l D cI cP a κ np y_X_copy b_X_copy 3 (some .boolean) 3 63 [.ref (aXX a), .int t, .int r] σ (some (.int ((sh_copy σ t r).1))) ((sh_copy σ t r).2) := by
  refine cx_start (by decide) (Nat.le_of_ble_eq_true rfl) mo_copy ?_
  intro p e R s m args below meth c A ls S hr hlk hfr hlc hw hbud hl
  have hl : lv_has ls 3 [(0, .ref (aXX a)), (1, .int t), (2, .int r)] := hl
  refine lv_iload_n S.1 S.2.1 d_X_copy_0 rfl (lv_at hl 1 rfl) ?_
  refine cx_fn S (As := [.int t]) (rest := []) (c_X_isRegister l t) tb_116 tb_114 tb_115 tb_1 hdf_X_isRegister rfl ⟨by omega, by omega⟩ hl.1 rfl (Nat.le_of_ble_eq_true rfl) d_X_copy_1 (hw.fit hbud) ?_
  refine lv_if_eq (tgt := 14) S.1 S.2.1 d_X_copy_4 (by decide) (fun c_1 => ?_) (fun c_1 => ?_)
  · refine lv_iconst (v := 0) S.1 S.2.1 d_X_copy_14 (by decide) ?_
    exact cx_retZ S hr hlk hw hbud (by first | (unfold sh_copy; simp only [if_pos c_1]; done) | (unfold sh_copy; dsimp only; simp only [if_pos c_1]; done) | (unfold sh_copy; simp only [if_pos c_1, hC_eq, hC_clamp]; try rfl; done)) (Or.inl rfl) (by first | (unfold sh_copy; simp only [if_pos c_1]; done) | (unfold sh_copy; dsimp only; simp only [if_pos c_1]; done) | (unfold sh_copy; simp only [if_pos c_1, hC_eq, hC_clamp]; try rfl; done)) d_X_copy_15
  · refine lv_iload_n S.1 S.2.1 d_X_copy_7 rfl (lv_at hl 2 rfl) ?_
    refine cx_fn S (As := [.int r]) (rest := []) (c_X_isRegister l r) tb_116 tb_114 tb_115 tb_1 hdf_X_isRegister rfl ⟨by omega, by omega⟩ hl.1 rfl (Nat.le_of_ble_eq_true rfl) d_X_copy_8 (hw.fit hbud) ?_
    refine lv_if_ne (tgt := 16) S.1 S.2.1 d_X_copy_11 (by decide) (fun c_2 => ?_) (fun c_2 => ?_)
    · refine lv_aload_n S.1 S.2.1 d_X_copy_16 rfl (lv_at hl 0 rfl) ?_
      refine cx_get S hw (q0 := 0) (ci := 0) (k := 1) (v := .ref (aXM a)) (fun _ => rfl) rfl (by decide) inX tb_104 rfl rfl d_X_copy_17 ?_
      refine lv_iload_n S.1 S.2.1 d_X_copy_20 rfl (lv_at hl 1 rfl) ?_
      refine lv_aload_n S.1 S.2.1 d_X_copy_21 rfl (lv_at hl 0 rfl) ?_
      refine cx_get S hw (q0 := 0) (ci := 0) (k := 1) (v := .ref (aXM a)) (fun _ => rfl) rfl (by decide) inX tb_104 rfl rfl d_X_copy_22 ?_
      refine lv_iload_n S.1 S.2.1 d_X_copy_25 rfl (lv_at hl 2 rfl) ?_
      refine cx_rd S hw (hw.fit hbud) (As := [.int r]) (rest := [.int t, .ref (aXM a)]) (c_M_register l D cI cP a κ np σ r) (q0 := 2) (fun _ => rfl) rfl tb_226 tb_223 tb_224 tb_225 tb_3 hd_M_register rfl ⟨by omega, by omega⟩ hl.1 rfl (Nat.le_of_ble_eq_true rfl) d_X_copy_26 ?_
      refine cx_call S hw hbud (As := [.int t, .int (sh_reg σ r)]) (rest := []) (c_M_setRegister l D cI cP a κ np σ t (sh_reg σ r)) (q0 := 2) (fun _ => rfl) rfl tb_202 tb_199 tb_200 tb_201 tb_3 hd_M_setRegister rfl ⟨by omega, by omega⟩ hl.1 rfl (Nat.le_of_ble_eq_true rfl) d_X_copy_29 (fun H locs hw => ?_)
      refine W.eq (g2 := F0 m 32 ls []) rfl ?_
      refine lv_iconst (v := 1) S.1 S.2.1 d_X_copy_32 (by decide) ?_
      exact cx_retZ S hr hlk hw hbud (by first | (unfold sh_copy; simp only [if_neg c_1, if_neg c_2]; done) | (unfold sh_copy; dsimp only; simp only [if_neg c_1, if_neg c_2]; done) | (unfold sh_copy; simp only [if_neg c_1, if_neg c_2, hC_eq, hC_clamp]; try rfl; done)) (Or.inr rfl) (by first | (unfold sh_copy; simp only [if_neg c_1, if_neg c_2]; done) | (unfold sh_copy; dsimp only; simp only [if_neg c_1, if_neg c_2]; done) | (unfold sh_copy; simp only [if_neg c_1, if_neg c_2, hC_eq, hC_clamp]; try rfl; done)) d_X_copy_33
    · refine lv_iconst (v := 0) S.1 S.2.1 d_X_copy_14 (by decide) ?_
      exact cx_retZ S hr hlk hw hbud (by first | exact absurd c_2 c_1 | (unfold sh_copy; simp only [if_neg c_1, if_pos c_2]; done) | (unfold sh_copy; dsimp only; simp only [if_neg c_1, if_pos c_2]; done) | (unfold sh_copy; simp only [if_neg c_1, if_pos c_2, hC_eq, hC_clamp]; try rfl; done)) (Or.inl rfl) (by first | exact absurd c_2 c_1 | (unfold sh_copy; simp only [if_neg c_1, if_pos c_2]; done) | (unfold sh_copy; dsimp only; simp only [if_neg c_1, if_pos c_2]; done) | (unfold sh_copy; simp only [if_neg c_1, if_pos c_2, hC_eq, hC_clamp]; try rfl; done)) d_X_copy_15
set_option maxHeartbeats 4000000 in
set_option maxRecDepth 100000 in
theorem c_X_drop (l : Launch) (D : va_G) (cI cP : ClassId) (a : cx_a) (κ : sh_K) (np : Nat) (σ : sh_S) (r : Int32) : cx_Met l D cI cP a κ np y_X_drop b_X_drop 3 (some .boolean) 3 63 [.ref (aXX a), .int r] σ (some (.int ((sh_drop σ r).1))) ((sh_drop σ r).2) := by
  refine cx_start (by decide) (Nat.le_of_ble_eq_true rfl) mo_drop ?_
  intro p e R s m args below meth c A ls S hr hlk hfr hlc hw hbud hl
  have hl : lv_has ls 3 [(0, .ref (aXX a)), (1, .int r)] := hl
  refine lv_aload_n S.1 S.2.1 d_X_drop_0 rfl (lv_at hl 0 rfl) ?_
  refine cx_get S hw (q0 := 0) (ci := 0) (k := 1) (v := .ref (aXM a)) (fun _ => rfl) rfl (by decide) inX tb_104 rfl rfl d_X_drop_1 ?_
  refine lv_iload_n S.1 S.2.1 d_X_drop_4 rfl (lv_at hl 1 rfl) ?_
  refine cx_rd S hw (hw.fit hbud) (As := [.int r]) (rest := []) (c_M_register l D cI cP a κ np σ r) (q0 := 2) (fun _ => rfl) rfl tb_226 tb_223 tb_224 tb_225 tb_3 hd_M_register rfl ⟨by omega, by omega⟩ hl.1 rfl (Nat.le_of_ble_eq_true rfl) d_X_drop_5 ?_
  refine lv_if_eq (tgt := 15) S.1 S.2.1 d_X_drop_8 (by decide) (fun c_1 => ?_) (fun c_1 => ?_)
  · refine lv_iconst (v := 0) S.1 S.2.1 d_X_drop_15 (by decide) ?_
    refine lv_istore_n (lv' := [(2, .int 0), (0, .ref (aXX a)), (1, .int r)]) S.1 S.2.1 d_X_drop_16 rfl hl (by decide) rfl (fun ls hl => ?_)
    refine lv_aload_n S.1 S.2.1 d_X_drop_17 rfl (lv_at hl 1 rfl) ?_
    refine cx_get S hw (q0 := 0) (ci := 0) (k := 1) (v := .ref (aXM a)) (fun _ => rfl) rfl (by decide) inX tb_104 rfl rfl d_X_drop_18 ?_
    refine lv_iload_n S.1 S.2.1 d_X_drop_21 rfl (lv_at hl 2 rfl) ?_
    refine lv_iconst (v := 0) S.1 S.2.1 d_X_drop_22 (by decide) ?_
    refine cx_call S hw hbud (As := [.int r, .int 0]) (rest := []) (c_M_setRegister l D cI cP a κ np σ r 0) (q0 := 2) (fun _ => rfl) rfl tb_202 tb_199 tb_200 tb_201 tb_3 hd_M_setRegister rfl ⟨by omega, by omega⟩ hl.1 rfl (Nat.le_of_ble_eq_true rfl) d_X_drop_23 (fun H locs hw => ?_)
    refine W.eq (g2 := F0 m 26 ls []) rfl ?_
    refine lv_iload_n S.1 S.2.1 d_X_drop_26 rfl (lv_at hl 0 rfl) ?_
    exact cx_retZ S hr hlk hw hbud (by first | (unfold sh_drop; simp only [if_pos c_1]; done) | (unfold sh_drop; dsimp only; simp only [if_pos c_1]; done) | (unfold sh_drop; simp only [if_pos c_1, hC_eq, hC_clamp]; try rfl; done)) (Or.inl rfl) (by first | (unfold sh_drop; simp only [if_pos c_1]; done) | (unfold sh_drop; dsimp only; simp only [if_pos c_1]; done) | (unfold sh_drop; simp only [if_pos c_1, hC_eq, hC_clamp]; try rfl; done)) d_X_drop_27
  · refine lv_iconst (v := 1) S.1 S.2.1 d_X_drop_11 (by decide) ?_
    refine lv_goto (tgt := 16) S.1 S.2.1 d_X_drop_12 (by decide) ?_
    refine lv_istore_n (lv' := [(2, .int 1), (0, .ref (aXX a)), (1, .int r)]) S.1 S.2.1 d_X_drop_16 rfl hl (by decide) rfl (fun ls hl => ?_)
    refine lv_aload_n S.1 S.2.1 d_X_drop_17 rfl (lv_at hl 1 rfl) ?_
    refine cx_get S hw (q0 := 0) (ci := 0) (k := 1) (v := .ref (aXM a)) (fun _ => rfl) rfl (by decide) inX tb_104 rfl rfl d_X_drop_18 ?_
    refine lv_iload_n S.1 S.2.1 d_X_drop_21 rfl (lv_at hl 2 rfl) ?_
    refine lv_iconst (v := 0) S.1 S.2.1 d_X_drop_22 (by decide) ?_
    refine cx_call S hw hbud (As := [.int r, .int 0]) (rest := []) (c_M_setRegister l D cI cP a κ np σ r 0) (q0 := 2) (fun _ => rfl) rfl tb_202 tb_199 tb_200 tb_201 tb_3 hd_M_setRegister rfl ⟨by omega, by omega⟩ hl.1 rfl (Nat.le_of_ble_eq_true rfl) d_X_drop_23 (fun H locs hw => ?_)
    refine W.eq (g2 := F0 m 26 ls []) rfl ?_
    refine lv_iload_n S.1 S.2.1 d_X_drop_26 rfl (lv_at hl 0 rfl) ?_
    exact cx_retZ S hr hlk hw hbud (by first | (unfold sh_drop; simp only [if_neg c_1]; done) | (unfold sh_drop; dsimp only; simp only [if_neg c_1]; done) | (unfold sh_drop; simp only [if_neg c_1, hC_eq, hC_clamp]; try rfl; done)) (Or.inr rfl) (by first | (unfold sh_drop; simp only [if_neg c_1]; done) | (unfold sh_drop; dsimp only; simp only [if_neg c_1]; done) | (unfold sh_drop; simp only [if_neg c_1, hC_eq, hC_clamp]; try rfl; done)) d_X_drop_27
set_option maxHeartbeats 4000000 in
set_option maxRecDepth 100000 in
theorem c_X_same (l : Launch) (D : va_G) (cI cP : ClassId) (a : cx_a) (κ : sh_K) (np : Nat) (σ : sh_S) (x y : Int32) : cx_Rd l D cI cP a κ np y_X_same b_X_same 3 (some .boolean) 3 62 [.ref (aXX a), .int x, .int y] σ (sh_same σ x y) := by
  refine cx_startR (by decide) (Nat.le_of_ble_eq_true rfl) ?_
  intro p e R s m args below meth c A ls S hr hlk hfr hlc hw hl
  have hl : lv_has ls 3 [(0, .ref (aXX a)), (1, .int x), (2, .int y)] := hl
  refine lv_iload_n S.1 S.2.1 d_X_same_0 rfl (lv_at hl 1 rfl) ?_
  refine cx_fn S (As := [.int x]) (rest := []) (c_X_isRegister l x) tb_116 tb_114 tb_115 tb_1 hdf_X_isRegister rfl ⟨by omega, by omega⟩ hl.1 rfl (Nat.le_of_ble_eq_true rfl) d_X_same_1 ⟨Nat.zero_le _, Nat.zero_le _⟩ ?_
  refine lv_if_eq (tgt := 37) S.1 S.2.1 d_X_same_4 (by decide) (fun c_1 => ?_) (fun c_1 => ?_)
  · refine lv_iconst (v := 0) S.1 S.2.1 d_X_same_37 (by decide) ?_
    exact cx_endZ S hr hlk (by first | rfl | (unfold sh_same; rfl) | (unfold sh_same; simp only [if_pos c_1]; done) | (unfold sh_same; simp only [if_pos c_1]; rfl) | (unfold sh_same; dsimp only; simp only [if_pos c_1]; done) | (unfold sh_same; simp only [if_pos c_1]; done)) (Or.inl rfl) d_X_same_38
  · refine lv_iload_n S.1 S.2.1 d_X_same_7 rfl (lv_at hl 2 rfl) ?_
    refine cx_fn S (As := [.int y]) (rest := []) (c_X_isRegister l y) tb_116 tb_114 tb_115 tb_1 hdf_X_isRegister rfl ⟨by omega, by omega⟩ hl.1 rfl (Nat.le_of_ble_eq_true rfl) d_X_same_8 ⟨Nat.zero_le _, Nat.zero_le _⟩ ?_
    refine lv_if_eq (tgt := 37) S.1 S.2.1 d_X_same_11 (by decide) (fun c_2 => ?_) (fun c_2 => ?_)
    · refine lv_iconst (v := 0) S.1 S.2.1 d_X_same_37 (by decide) ?_
      exact cx_endZ S hr hlk (by first | exact absurd c_2 c_1 | rfl | (unfold sh_same; rfl) | (unfold sh_same; simp only [if_neg c_1, if_pos c_2]; done) | (unfold sh_same; simp only [if_neg c_1, if_pos c_2]; rfl) | (unfold sh_same; dsimp only; simp only [if_neg c_1, if_pos c_2]; done) | (unfold sh_same; simp only [if_neg c_1, if_pos c_2]; done)) (Or.inl rfl) d_X_same_38
    · refine lv_aload_n S.1 S.2.1 d_X_same_14 rfl (lv_at hl 0 rfl) ?_
      refine cx_get S hw (q0 := 0) (ci := 0) (k := 1) (v := .ref (aXM a)) (fun _ => rfl) rfl (by decide) inX tb_104 rfl rfl d_X_same_15 ?_
      refine lv_iload_n S.1 S.2.1 d_X_same_18 rfl (lv_at hl 1 rfl) ?_
      refine cx_rd S hw ⟨Nat.zero_le _, Nat.zero_le _⟩ (As := [.int x]) (rest := []) (c_M_register l D cI cP a κ np σ x) (q0 := 2) (fun _ => rfl) rfl tb_226 tb_223 tb_224 tb_225 tb_3 hd_M_register rfl ⟨by omega, by omega⟩ hl.1 rfl (Nat.le_of_ble_eq_true rfl) d_X_same_19 ?_
      refine lv_aload_n S.1 S.2.1 d_X_same_22 rfl (lv_at hl 0 rfl) ?_
      refine cx_get S hw (q0 := 0) (ci := 0) (k := 1) (v := .ref (aXM a)) (fun _ => rfl) rfl (by decide) inX tb_104 rfl rfl d_X_same_23 ?_
      refine lv_iload_n S.1 S.2.1 d_X_same_26 rfl (lv_at hl 2 rfl) ?_
      refine cx_rd S hw ⟨Nat.zero_le _, Nat.zero_le _⟩ (As := [.int y]) (rest := [.int (sh_reg σ x)]) (c_M_register l D cI cP a κ np σ y) (q0 := 2) (fun _ => rfl) rfl tb_226 tb_223 tb_224 tb_225 tb_3 hd_M_register rfl ⟨by omega, by omega⟩ hl.1 rfl (Nat.le_of_ble_eq_true rfl) d_X_same_27 ?_
      refine lv_icmp_ne (tgt := 37) S.1 S.2.1 d_X_same_30 (by decide) (fun c_3 => ?_) (fun c_3 => ?_)
      · refine lv_iconst (v := 0) S.1 S.2.1 d_X_same_37 (by decide) ?_
        exact cx_endZ S hr hlk (by first | rfl | (unfold sh_same; rfl) | (unfold sh_same; simp only [if_neg c_1, if_neg c_2, if_neg c_3]; done) | (unfold sh_same; simp only [if_neg c_1, if_neg c_2, if_neg c_3]; rfl) | (unfold sh_same; dsimp only; simp only [if_neg c_1, if_neg c_2, if_neg c_3]; done) | (unfold sh_same; simp only [if_neg c_1, if_neg c_2, if_neg c_3]; done)) (Or.inl rfl) d_X_same_38
      · refine lv_iconst (v := 1) S.1 S.2.1 d_X_same_33 (by decide) ?_
        refine lv_goto (tgt := 38) S.1 S.2.1 d_X_same_34 (by decide) ?_
        exact cx_endZ S hr hlk (by first | exact absurd c_3 c_1 | exact absurd c_3 c_2 | rfl | (unfold sh_same; rfl) | (unfold sh_same; simp only [if_neg c_1, if_neg c_2, if_pos c_3]; done) | (unfold sh_same; simp only [if_neg c_1, if_neg c_2, if_pos c_3]; rfl) | (unfold sh_same; dsimp only; simp only [if_neg c_1, if_neg c_2, if_pos c_3]; done) | (unfold sh_same; simp only [if_neg c_1, if_neg c_2, if_pos c_3]; done)) (Or.inr rfl) d_X_same_38
set_option maxHeartbeats 4000000 in
set_option maxRecDepth 100000 in
theorem c_X_size (l : Launch) (D : va_G) (cI cP : ClassId) (a : cx_a) (κ : sh_K) (np : Nat) (σ : sh_S) (r w : Int32) : cx_Met l D cI cP a κ np y_X_size b_X_size 5 (some .int) 4 84 [.ref (aXX a), .int r, .int w] σ (some (.int ((sh_size κ σ r w).1))) ((sh_size κ σ r w).2) := by
  refine cx_start (by decide) (Nat.le_of_ble_eq_true rfl) mo_size ?_
  intro p e R s m args below meth c A ls S hr hlk hfr hlc hw hbud hl
  have hl : lv_has ls 5 [(0, .ref (aXX a)), (1, .int r), (2, .int w)] := hl
  refine lv_aload_n S.1 S.2.1 d_X_size_0 rfl (lv_at hl 0 rfl) ?_
  refine lv_iload_n S.1 S.2.1 d_X_size_1 rfl (lv_at hl 1 rfl) ?_
  refine cx_call S hw hbud (As := [.int r]) (rest := []) (c_X_headOf l D cI cP a κ np σ r) (q0 := 0) (fun _ => rfl) rfl tb_222 tb_219 tb_221 tp_7 tb_1 hd_X_headOf rfl ⟨by omega, by omega⟩ hl.1 rfl (Nat.le_of_ble_eq_true rfl) d_X_size_2 (fun H locs hw => ?_)
  generalize hq_1 : sh_head κ σ r = q_1 at hw ⊢
  refine W.eq (g2 := F0 m 5 ls [.int q_1.1]) rfl ?_
  refine lv_istore_n (lv' := [(3, .int q_1.1), (0, .ref (aXX a)), (1, .int r), (2, .int w)]) S.1 S.2.1 d_X_size_5 rfl hl (by decide) rfl (fun ls hl => ?_)
  refine lv_iload_n S.1 S.2.1 d_X_size_6 rfl (lv_at hl 0 rfl) ?_
  refine lv_if_ne (tgt := 12) S.1 S.2.1 d_X_size_7 (by decide) (fun c_1 => ?_) (fun c_1 => ?_)
  · refine lv_iload_n S.1 S.2.1 d_X_size_12 rfl (lv_at hl 0 rfl) ?_
    refine cx_fn S (As := [.int q_1.1]) (rest := []) (c_H_isArray l q_1.1) tb_233 tb_329 tb_232 tb_6 hdf_H_isArray rfl ⟨by omega, by omega⟩ hl.1 rfl (Nat.le_of_ble_eq_true rfl) d_X_size_13 (hw.fit hbud) ?_
    refine lv_istore (lv' := [(4, .int (hd_isArr q_1.1)), (3, .int q_1.1), (0, .ref (aXX a)), (1, .int r), (2, .int w)]) S.1 S.2.1 d_X_size_16 hl (by decide) rfl (fun ls hl => ?_)
    refine lv_iload_n S.1 S.2.1 d_X_size_18 rfl (lv_at hl 4 rfl) ?_
    by_cases c_2 : w = 0
    · refine lv_tableIn (off := 29) (tgt := 48) S.1 S.2.1 d_X_size_19 (by rw [c_2]; decide) (by rw [c_2]; decide) (by rw [c_2]; decide) (by decide) ?_
      refine lv_iload S.1 S.2.1 d_X_size_48 (lv_at hl 0 rfl) ?_
      refine lv_if_eq (tgt := 57) S.1 S.2.1 d_X_size_50 (by decide) (fun c_3 => ?_) (fun c_3 => ?_)
      · refine lv_iload_n S.1 S.2.1 d_X_size_57 rfl (lv_at hl 1 rfl) ?_
        refine cx_fn S (As := [.int q_1.1]) (rest := []) (c_H_references l q_1.1) tb_230 tb_228 tb_229 tb_6 hdf_H_references rfl ⟨by omega, by omega⟩ hl.1 rfl (Nat.le_of_ble_eq_true rfl) d_X_size_58 (hw.fit hbud) ?_
        exact cx_retI S hr hlk hw hbud (by first | exact absurd c_2 c_1 | exact absurd c_3 c_1 | (unfold sh_size; simp only [hq_1, if_neg c_1, if_pos c_2, if_pos c_3]; done) | (unfold sh_size; dsimp only; simp only [hq_1, if_neg c_1, if_pos c_2, if_pos c_3]; done) | (subst hq_1; unfold sh_size; simp only [if_neg c_1, if_pos c_2, if_pos c_3, hC_eq, hC_clamp]; try rfl; done)) (by first | exact absurd c_2 c_1 | exact absurd c_3 c_1 | (unfold sh_size; simp only [hq_1, if_neg c_1, if_pos c_2, if_pos c_3]; done) | (unfold sh_size; dsimp only; simp only [hq_1, if_neg c_1, if_pos c_2, if_pos c_3]; done) | (subst hq_1; unfold sh_size; simp only [if_neg c_1, if_pos c_2, if_pos c_3, hC_eq, hC_clamp]; try rfl; done)) d_X_size_61
      · refine lv_iconst (v := -1) S.1 S.2.1 d_X_size_53 (by decide) ?_
        refine lv_goto (tgt := 61) S.1 S.2.1 d_X_size_54 (by decide) ?_
        exact cx_retI S hr hlk hw hbud (by first | exact absurd c_2 c_1 | exact absurd c_2 c_3 | (unfold sh_size; simp only [hq_1, if_neg c_1, if_pos c_2, if_neg c_3]; done) | (unfold sh_size; dsimp only; simp only [hq_1, if_neg c_1, if_pos c_2, if_neg c_3]; done) | (subst hq_1; unfold sh_size; simp only [if_neg c_1, if_pos c_2, if_neg c_3, hC_eq, hC_clamp]; try rfl; done)) (by first | exact absurd c_2 c_1 | exact absurd c_2 c_3 | (unfold sh_size; simp only [hq_1, if_neg c_1, if_pos c_2, if_neg c_3]; done) | (unfold sh_size; dsimp only; simp only [hq_1, if_neg c_1, if_pos c_2, if_neg c_3]; done) | (subst hq_1; unfold sh_size; simp only [if_neg c_1, if_pos c_2, if_neg c_3, hC_eq, hC_clamp]; try rfl; done)) d_X_size_61
    · skip
      by_cases c_4 : w = 1
      · refine lv_tableIn (off := 43) (tgt := 62) S.1 S.2.1 d_X_size_19 (by rw [c_4]; decide) (by rw [c_4]; decide) (by rw [c_4]; decide) (by decide) ?_
        refine lv_iload S.1 S.2.1 d_X_size_62 (lv_at hl 0 rfl) ?_
        refine lv_if_eq (tgt := 71) S.1 S.2.1 d_X_size_64 (by decide) (fun c_5 => ?_) (fun c_5 => ?_)
        · refine lv_iload_n S.1 S.2.1 d_X_size_71 rfl (lv_at hl 1 rfl) ?_
          refine cx_fn S (As := [.int q_1.1]) (rest := []) (c_H_ints l q_1.1) tb_257 tb_255 tb_256 tb_6 hdf_H_ints rfl ⟨by omega, by omega⟩ hl.1 rfl (Nat.le_of_ble_eq_true rfl) d_X_size_72 (hw.fit hbud) ?_
          exact cx_retI S hr hlk hw hbud (by first | exact absurd c_4 c_1 | exact absurd c_4 c_2 | exact absurd c_5 c_1 | exact absurd c_5 c_2 | (unfold sh_size; simp only [hq_1, if_neg c_1, if_neg c_2, if_pos c_4, if_pos c_5]; done) | (unfold sh_size; dsimp only; simp only [hq_1, if_neg c_1, if_neg c_2, if_pos c_4, if_pos c_5]; done) | (subst hq_1; unfold sh_size; simp only [if_neg c_1, if_neg c_2, if_pos c_4, if_pos c_5, hC_eq, hC_clamp]; try rfl; done)) (by first | exact absurd c_4 c_1 | exact absurd c_4 c_2 | exact absurd c_5 c_1 | exact absurd c_5 c_2 | (unfold sh_size; simp only [hq_1, if_neg c_1, if_neg c_2, if_pos c_4, if_pos c_5]; done) | (unfold sh_size; dsimp only; simp only [hq_1, if_neg c_1, if_neg c_2, if_pos c_4, if_pos c_5]; done) | (subst hq_1; unfold sh_size; simp only [if_neg c_1, if_neg c_2, if_pos c_4, if_pos c_5, hC_eq, hC_clamp]; try rfl; done)) d_X_size_75
        · refine lv_iconst (v := -1) S.1 S.2.1 d_X_size_67 (by decide) ?_
          refine lv_goto (tgt := 75) S.1 S.2.1 d_X_size_68 (by decide) ?_
          exact cx_retI S hr hlk hw hbud (by first | exact absurd c_4 c_1 | exact absurd c_4 c_2 | exact absurd c_4 c_5 | (unfold sh_size; simp only [hq_1, if_neg c_1, if_neg c_2, if_pos c_4, if_neg c_5]; done) | (unfold sh_size; dsimp only; simp only [hq_1, if_neg c_1, if_neg c_2, if_pos c_4, if_neg c_5]; done) | (subst hq_1; unfold sh_size; simp only [if_neg c_1, if_neg c_2, if_pos c_4, if_neg c_5, hC_eq, hC_clamp]; try rfl; done)) (by first | exact absurd c_4 c_1 | exact absurd c_4 c_2 | exact absurd c_4 c_5 | (unfold sh_size; simp only [hq_1, if_neg c_1, if_neg c_2, if_pos c_4, if_neg c_5]; done) | (unfold sh_size; dsimp only; simp only [hq_1, if_neg c_1, if_neg c_2, if_pos c_4, if_neg c_5]; done) | (subst hq_1; unfold sh_size; simp only [if_neg c_1, if_neg c_2, if_pos c_4, if_neg c_5, hC_eq, hC_clamp]; try rfl; done)) d_X_size_75
      · skip
        by_cases c_6 : w = 2
        · refine lv_tableIn (off := 57) (tgt := 76) S.1 S.2.1 d_X_size_19 (by rw [c_6]; decide) (by rw [c_6]; decide) (by rw [c_6]; decide) (by decide) ?_
          refine lv_iload S.1 S.2.1 d_X_size_76 (lv_at hl 0 rfl) ?_
          refine lv_if_eq (tgt := 88) S.1 S.2.1 d_X_size_78 (by decide) (fun c_7 => ?_) (fun c_7 => ?_)
          · refine lv_iconst (v := -1) S.1 S.2.1 d_X_size_88 (by decide) ?_
            exact cx_retI S hr hlk hw hbud (by first | exact absurd c_6 c_1 | exact absurd c_6 c_2 | exact absurd c_6 c_4 | exact absurd c_7 c_1 | exact absurd c_7 c_2 | exact absurd c_7 c_4 | (unfold sh_size; simp only [hq_1, if_neg c_1, if_neg c_2, if_neg c_4, if_pos c_6, if_pos c_7]; done) | (unfold sh_size; dsimp only; simp only [hq_1, if_neg c_1, if_neg c_2, if_neg c_4, if_pos c_6, if_pos c_7]; done) | (subst hq_1; unfold sh_size; simp only [if_neg c_1, if_neg c_2, if_neg c_4, if_pos c_6, if_pos c_7, hC_eq, hC_clamp]; try rfl; done)) (by first | exact absurd c_6 c_1 | exact absurd c_6 c_2 | exact absurd c_6 c_4 | exact absurd c_7 c_1 | exact absurd c_7 c_2 | exact absurd c_7 c_4 | (unfold sh_size; simp only [hq_1, if_neg c_1, if_neg c_2, if_neg c_4, if_pos c_6, if_pos c_7]; done) | (unfold sh_size; dsimp only; simp only [hq_1, if_neg c_1, if_neg c_2, if_neg c_4, if_pos c_6, if_pos c_7]; done) | (subst hq_1; unfold sh_size; simp only [if_neg c_1, if_neg c_2, if_neg c_4, if_pos c_6, if_pos c_7, hC_eq, hC_clamp]; try rfl; done)) d_X_size_89
          · refine lv_iload_n S.1 S.2.1 d_X_size_81 rfl (lv_at hl 1 rfl) ?_
            refine cx_fn S (As := [.int q_1.1]) (rest := []) (c_H_length l q_1.1) tb_280 tb_330 tb_279 tb_6 hdf_H_length rfl ⟨by omega, by omega⟩ hl.1 rfl (Nat.le_of_ble_eq_true rfl) d_X_size_82 (hw.fit hbud) ?_
            refine lv_goto (tgt := 89) S.1 S.2.1 d_X_size_85 (by decide) ?_
            exact cx_retI S hr hlk hw hbud (by first | exact absurd c_6 c_1 | exact absurd c_6 c_2 | exact absurd c_6 c_4 | exact absurd c_6 c_7 | (unfold sh_size; simp only [hq_1, if_neg c_1, if_neg c_2, if_neg c_4, if_pos c_6, if_neg c_7]; done) | (unfold sh_size; dsimp only; simp only [hq_1, if_neg c_1, if_neg c_2, if_neg c_4, if_pos c_6, if_neg c_7]; done) | (subst hq_1; unfold sh_size; simp only [if_neg c_1, if_neg c_2, if_neg c_4, if_pos c_6, if_neg c_7, hC_eq, hC_clamp]; try rfl; done)) (by first | exact absurd c_6 c_1 | exact absurd c_6 c_2 | exact absurd c_6 c_4 | exact absurd c_6 c_7 | (unfold sh_size; simp only [hq_1, if_neg c_1, if_neg c_2, if_neg c_4, if_pos c_6, if_neg c_7]; done) | (unfold sh_size; dsimp only; simp only [hq_1, if_neg c_1, if_neg c_2, if_neg c_4, if_pos c_6, if_neg c_7]; done) | (subst hq_1; unfold sh_size; simp only [if_neg c_1, if_neg c_2, if_neg c_4, if_pos c_6, if_neg c_7, hC_eq, hC_clamp]; try rfl; done)) d_X_size_89
        · skip
          by_cases c_8 : w = 3
          · refine lv_tableIn (off := 71) (tgt := 90) S.1 S.2.1 d_X_size_19 (by rw [c_8]; decide) (by rw [c_8]; decide) (by rw [c_8]; decide) (by decide) ?_
            refine lv_iload_n S.1 S.2.1 d_X_size_90 rfl (lv_at hl 1 rfl) ?_
            refine cx_fn S (As := [.int q_1.1]) (rest := []) (c_H_cells l q_1.1) tb_136 tb_134 tb_135 tb_6 hdf_H_cells rfl ⟨by omega, by omega⟩ hl.1 rfl (Nat.le_of_ble_eq_true rfl) d_X_size_91 (hw.fit hbud) ?_
            exact cx_retI S hr hlk hw hbud (by first | exact absurd c_8 c_1 | exact absurd c_8 c_2 | exact absurd c_8 c_4 | exact absurd c_8 c_6 | (unfold sh_size; simp only [hq_1, if_neg c_1, if_neg c_2, if_neg c_4, if_neg c_6, if_pos c_8]; done) | (unfold sh_size; dsimp only; simp only [hq_1, if_neg c_1, if_neg c_2, if_neg c_4, if_neg c_6, if_pos c_8]; done) | (subst hq_1; unfold sh_size; simp only [if_neg c_1, if_neg c_2, if_neg c_4, if_neg c_6, if_pos c_8, hC_eq, hC_clamp]; try rfl; done)) (by first | exact absurd c_8 c_1 | exact absurd c_8 c_2 | exact absurd c_8 c_4 | exact absurd c_8 c_6 | (unfold sh_size; simp only [hq_1, if_neg c_1, if_neg c_2, if_neg c_4, if_neg c_6, if_pos c_8]; done) | (unfold sh_size; dsimp only; simp only [hq_1, if_neg c_1, if_neg c_2, if_neg c_4, if_neg c_6, if_pos c_8]; done) | (subst hq_1; unfold sh_size; simp only [if_neg c_1, if_neg c_2, if_neg c_4, if_neg c_6, if_pos c_8, hC_eq, hC_clamp]; try rfl; done)) d_X_size_94
          · skip
            refine lv_tableOut (tgt := 95) S.1 S.2.1 d_X_size_19 (by have tc_2 := lv_neT c_2 (show (0 : Int32).toInt = 0 from rfl); have tc_4 := lv_neT c_4 (show (1 : Int32).toInt = 1 from rfl); have tc_6 := lv_neT c_6 (show (2 : Int32).toInt = 2 from rfl); have tc_8 := lv_neT c_8 (show (3 : Int32).toInt = 3 from rfl); omega) (by decide) ?_
            refine lv_iconst (v := -1) S.1 S.2.1 d_X_size_95 (by decide) ?_
            exact cx_retI S hr hlk hw hbud (by first | (unfold sh_size; simp only [hq_1, if_neg c_1, if_neg c_2, if_neg c_4, if_neg c_6, if_neg c_8]; done) | (unfold sh_size; dsimp only; simp only [hq_1, if_neg c_1, if_neg c_2, if_neg c_4, if_neg c_6, if_neg c_8]; done) | (subst hq_1; unfold sh_size; simp only [if_neg c_1, if_neg c_2, if_neg c_4, if_neg c_6, if_neg c_8, hC_eq, hC_clamp]; try rfl; done)) (by first | (unfold sh_size; simp only [hq_1, if_neg c_1, if_neg c_2, if_neg c_4, if_neg c_6, if_neg c_8]; done) | (unfold sh_size; dsimp only; simp only [hq_1, if_neg c_1, if_neg c_2, if_neg c_4, if_neg c_6, if_neg c_8]; done) | (subst hq_1; unfold sh_size; simp only [if_neg c_1, if_neg c_2, if_neg c_4, if_neg c_6, if_neg c_8, hC_eq, hC_clamp]; try rfl; done)) d_X_size_96
  · refine lv_iconst (v := -1) S.1 S.2.1 d_X_size_10 (by decide) ?_
    exact cx_retI S hr hlk hw hbud (by first | (unfold sh_size; simp only [hq_1, if_pos c_1]; done) | (unfold sh_size; dsimp only; simp only [hq_1, if_pos c_1]; done) | (subst hq_1; unfold sh_size; simp only [if_pos c_1, hC_eq, hC_clamp]; try rfl; done)) (by first | (unfold sh_size; simp only [hq_1, if_pos c_1]; done) | (unfold sh_size; dsimp only; simp only [hq_1, if_pos c_1]; done) | (subst hq_1; unfold sh_size; simp only [if_pos c_1, hC_eq, hC_clamp]; try rfl; done)) d_X_size_11
set_option maxHeartbeats 4000000 in
set_option maxRecDepth 100000 in
theorem c_X_told (l : Launch) (D : va_G) (cI cP : ClassId) (a : cx_a) (κ : sh_K) (np : Nat) (σ : sh_S) (w : Int32) : cx_Rd l D cI cP a κ np y_X_told b_X_told 2 (some .int) 2 40 [.ref (aXX a), .int w] σ (sh_told κ σ w) := by
  refine cx_startR (by decide) (Nat.le_of_ble_eq_true rfl) ?_
  intro p e R s m args below meth c A ls S hr hlk hfr hlc hw hl
  have hl : lv_has ls 2 [(0, .ref (aXX a)), (1, .int w)] := hl
  refine lv_iload_n S.1 S.2.1 d_X_told_0 rfl (lv_at hl 1 rfl) ?_
  by_cases c_1 : w = 0
  · refine lv_tableIn (off := 35) (tgt := 36) S.1 S.2.1 d_X_told_1 (by rw [c_1]; decide) (by rw [c_1]; decide) (by rw [c_1]; decide) (by decide) ?_
    refine lv_aload_n S.1 S.2.1 d_X_told_36 rfl (lv_at hl 0 rfl) ?_
    refine cx_get S hw (q0 := 0) (ci := 0) (k := 1) (v := .ref (aXM a)) (fun _ => rfl) rfl (by decide) inX tb_104 rfl rfl d_X_told_37 ?_
    refine cx_getN S hw (q0 := 2) (ci := 2) (k := 6) (v := .int (sBeg σ)) (fun _ => rfl) rfl (by decide) inM nxw_4 rfl rfl d_X_told_40 ?_
    exact cx_endI S hr hlk (by first | rfl | (unfold sh_told; rfl) | (unfold sh_told; simp only [if_pos c_1]; done) | (unfold sh_told; simp only [if_pos c_1]; rfl) | (unfold sh_told; dsimp only; simp only [if_pos c_1]; done) | (unfold sh_told; simp only [if_pos c_1]; done)) d_X_told_43
  · skip
    by_cases c_2 : w = 1
    · refine lv_tableIn (off := 43) (tgt := 44) S.1 S.2.1 d_X_told_1 (by rw [c_2]; decide) (by rw [c_2]; decide) (by rw [c_2]; decide) (by decide) ?_
      refine lv_aload_n S.1 S.2.1 d_X_told_44 rfl (lv_at hl 0 rfl) ?_
      refine cx_get S hw (q0 := 0) (ci := 0) (k := 1) (v := .ref (aXM a)) (fun _ => rfl) rfl (by decide) inX tb_104 rfl rfl d_X_told_45 ?_
      refine cx_rd S hw ⟨Nat.zero_le _, Nat.zero_le _⟩ (As := []) (rest := []) (c_M_isDone l D cI cP a κ np σ ) (q0 := 2) (fun _ => rfl) rfl tb_150 tb_335 tb_148 tb_149 tb_3 hd_M_isDone rfl ⟨by omega, by omega⟩ hl.1 rfl (Nat.le_of_ble_eq_true rfl) d_X_told_48 ?_
      refine lv_if_eq (tgt := 58) S.1 S.2.1 d_X_told_51 (by decide) (fun c_3 => ?_) (fun c_3 => ?_)
      · refine lv_iconst (v := 0) S.1 S.2.1 d_X_told_58 (by decide) ?_
        exact cx_endI S hr hlk (by first | exact absurd c_2 c_1 | exact absurd c_3 c_1 | rfl | (unfold sh_told; rfl) | (unfold sh_told; simp only [if_neg c_1, if_pos c_2, if_pos c_3]; done) | (unfold sh_told; simp only [if_neg c_1, if_pos c_2, if_pos c_3]; rfl) | (unfold sh_told; dsimp only; simp only [if_neg c_1, if_pos c_2, if_pos c_3]; done) | (unfold sh_told; simp only [if_neg c_1, if_pos c_2, if_pos c_3]; done)) d_X_told_59
      · refine lv_iconst (v := 1) S.1 S.2.1 d_X_told_54 (by decide) ?_
        refine lv_goto (tgt := 59) S.1 S.2.1 d_X_told_55 (by decide) ?_
        exact cx_endI S hr hlk (by first | exact absurd c_2 c_1 | exact absurd c_2 c_3 | rfl | (unfold sh_told; rfl) | (unfold sh_told; simp only [if_neg c_1, if_pos c_2, if_neg c_3]; done) | (unfold sh_told; simp only [if_neg c_1, if_pos c_2, if_neg c_3]; rfl) | (unfold sh_told; dsimp only; simp only [if_neg c_1, if_pos c_2, if_neg c_3]; done) | (unfold sh_told; simp only [if_neg c_1, if_pos c_2, if_neg c_3]; done)) d_X_told_59
    · skip
      by_cases c_4 : w = 2
      · refine lv_tableIn (off := 59) (tgt := 60) S.1 S.2.1 d_X_told_1 (by rw [c_4]; decide) (by rw [c_4]; decide) (by rw [c_4]; decide) (by decide) ?_
        refine lv_aload_n S.1 S.2.1 d_X_told_60 rfl (lv_at hl 0 rfl) ?_
        refine cx_get S hw (q0 := 0) (ci := 0) (k := 1) (v := .ref (aXM a)) (fun _ => rfl) rfl (by decide) inX tb_104 rfl rfl d_X_told_61 ?_
        refine cx_rd S hw ⟨Nat.zero_le _, Nat.zero_le _⟩ (As := []) (rest := []) (c_M_isDone l D cI cP a κ np σ ) (q0 := 2) (fun _ => rfl) rfl tb_150 tb_335 tb_148 tb_149 tb_3 hd_M_isDone rfl ⟨by omega, by omega⟩ hl.1 rfl (Nat.le_of_ble_eq_true rfl) d_X_told_64 ?_
        refine lv_if_eq (tgt := 80) S.1 S.2.1 d_X_told_67 (by decide) (fun c_5 => ?_) (fun c_5 => ?_)
        · refine lv_iconst (v := -1) S.1 S.2.1 d_X_told_80 (by decide) ?_
          exact cx_endI S hr hlk (by first | exact absurd c_4 c_1 | exact absurd c_4 c_2 | exact absurd c_5 c_1 | exact absurd c_5 c_2 | rfl | (unfold sh_told; rfl) | (unfold sh_told; simp only [if_neg c_1, if_neg c_2, if_pos c_4, if_pos c_5]; done) | (unfold sh_told; simp only [if_neg c_1, if_neg c_2, if_pos c_4, if_pos c_5]; rfl) | (unfold sh_told; dsimp only; simp only [if_neg c_1, if_neg c_2, if_pos c_4, if_pos c_5]; done) | (unfold sh_told; simp only [if_neg c_1, if_neg c_2, if_pos c_4, if_pos c_5]; done)) d_X_told_81
        · refine lv_aload_n S.1 S.2.1 d_X_told_70 rfl (lv_at hl 0 rfl) ?_
          refine cx_get S hw (q0 := 0) (ci := 0) (k := 1) (v := .ref (aXM a)) (fun _ => rfl) rfl (by decide) inX tb_104 rfl rfl d_X_told_71 ?_
          refine cx_rd S hw ⟨Nat.zero_le _, Nat.zero_le _⟩ (As := []) (rest := []) (c_M_moved l D cI cP a κ np σ ) (q0 := 2) (fun _ => rfl) rfl tb_154 tb_336 tb_152 tb_153 tb_3 hd_M_moved rfl ⟨by omega, by omega⟩ hl.1 rfl (Nat.le_of_ble_eq_true rfl) d_X_told_74 ?_
          refine lv_goto (tgt := 81) S.1 S.2.1 d_X_told_77 (by decide) ?_
          exact cx_endI S hr hlk (by first | exact absurd c_4 c_1 | exact absurd c_4 c_2 | exact absurd c_4 c_5 | rfl | (unfold sh_told; rfl) | (unfold sh_told; simp only [if_neg c_1, if_neg c_2, if_pos c_4, if_neg c_5]; done) | (unfold sh_told; simp only [if_neg c_1, if_neg c_2, if_pos c_4, if_neg c_5]; rfl) | (unfold sh_told; dsimp only; simp only [if_neg c_1, if_neg c_2, if_pos c_4, if_neg c_5]; done) | (unfold sh_told; simp only [if_neg c_1, if_neg c_2, if_pos c_4, if_neg c_5]; done)) d_X_told_81
      · skip
        by_cases c_6 : w = 3
        · refine lv_tableIn (off := 81) (tgt := 82) S.1 S.2.1 d_X_told_1 (by rw [c_6]; decide) (by rw [c_6]; decide) (by rw [c_6]; decide) (by decide) ?_
          refine lv_aload_n S.1 S.2.1 d_X_told_82 rfl (lv_at hl 0 rfl) ?_
          refine cx_get S hw (q0 := 0) (ci := 0) (k := 1) (v := .ref (aXM a)) (fun _ => rfl) rfl (by decide) inX tb_104 rfl rfl d_X_told_83 ?_
          refine cx_getN S hw (q0 := 2) (ci := 2) (k := 5) (v := .int (sMade σ)) (fun _ => rfl) rfl (by decide) inM nxw_3 rfl rfl d_X_told_86 ?_
          exact cx_endI S hr hlk (by first | exact absurd c_6 c_1 | exact absurd c_6 c_2 | exact absurd c_6 c_4 | rfl | (unfold sh_told; rfl) | (unfold sh_told; simp only [if_neg c_1, if_neg c_2, if_neg c_4, if_pos c_6]; done) | (unfold sh_told; simp only [if_neg c_1, if_neg c_2, if_neg c_4, if_pos c_6]; rfl) | (unfold sh_told; dsimp only; simp only [if_neg c_1, if_neg c_2, if_neg c_4, if_pos c_6]; done) | (unfold sh_told; simp only [if_neg c_1, if_neg c_2, if_neg c_4, if_pos c_6]; done)) d_X_told_89
        · skip
          by_cases c_7 : w = 4
          · refine lv_tableIn (off := 89) (tgt := 90) S.1 S.2.1 d_X_told_1 (by rw [c_7]; decide) (by rw [c_7]; decide) (by rw [c_7]; decide) (by decide) ?_
            refine lv_aload_n S.1 S.2.1 d_X_told_90 rfl (lv_at hl 0 rfl) ?_
            refine cx_get S hw (q0 := 0) (ci := 0) (k := 1) (v := .ref (aXM a)) (fun _ => rfl) rfl (by decide) inX tb_104 rfl rfl d_X_told_91 ?_
            refine cx_getN S hw (q0 := 2) (ci := 2) (k := 3) (v := .int (kLim κ)) (fun _ => rfl) rfl (by decide) inM nxw_2 rfl rfl d_X_told_94 ?_
            exact cx_endI S hr hlk (by first | exact absurd c_7 c_1 | exact absurd c_7 c_2 | exact absurd c_7 c_4 | exact absurd c_7 c_6 | rfl | (unfold sh_told; rfl) | (unfold sh_told; simp only [if_neg c_1, if_neg c_2, if_neg c_4, if_neg c_6, if_pos c_7]; done) | (unfold sh_told; simp only [if_neg c_1, if_neg c_2, if_neg c_4, if_neg c_6, if_pos c_7]; rfl) | (unfold sh_told; dsimp only; simp only [if_neg c_1, if_neg c_2, if_neg c_4, if_neg c_6, if_pos c_7]; done) | (unfold sh_told; simp only [if_neg c_1, if_neg c_2, if_neg c_4, if_neg c_6, if_pos c_7]; done)) d_X_told_97
          · skip
            refine lv_tableOut (tgt := 98) S.1 S.2.1 d_X_told_1 (by have tc_1 := lv_neT c_1 (show (0 : Int32).toInt = 0 from rfl); have tc_2 := lv_neT c_2 (show (1 : Int32).toInt = 1 from rfl); have tc_4 := lv_neT c_4 (show (2 : Int32).toInt = 2 from rfl); have tc_6 := lv_neT c_6 (show (3 : Int32).toInt = 3 from rfl); have tc_7 := lv_neT c_7 (show (4 : Int32).toInt = 4 from rfl); omega) (by decide) ?_
            refine lv_iconst (v := -1) S.1 S.2.1 d_X_told_98 (by decide) ?_
            exact cx_endI S hr hlk (by first | rfl | (unfold sh_told; rfl) | (unfold sh_told; simp only [if_neg c_1, if_neg c_2, if_neg c_4, if_neg c_6, if_neg c_7]; done) | (unfold sh_told; simp only [if_neg c_1, if_neg c_2, if_neg c_4, if_neg c_6, if_neg c_7]; rfl) | (unfold sh_told; dsimp only; simp only [if_neg c_1, if_neg c_2, if_neg c_4, if_neg c_6, if_neg c_7]; done) | (unfold sh_told; simp only [if_neg c_1, if_neg c_2, if_neg c_4, if_neg c_6, if_neg c_7]; done)) d_X_told_99
end
section
/-! ===== THE REFERENCE: its state (kind, refs, ints, length, ofRefs, row, back, register, mark, pile; objects, given, cycles, reached, pushed, gap, gapIsLast; made), its world, its rules ===== -/
abbrev rm_S : Type := (Nat → Int32) × (Nat → Int32) × (Nat → Int32) × (Nat → Int32) × (Nat → Int32) × (Nat → Int32) × (Nat → Int32) × (Nat → Int32) × (Nat → Int32) × (Nat → Int32) × (Int32) × (Int32) × (Int32) × (Int32) × (Int32) × (Int32) × (Int32) × (Int64)
abbrev rKind (ρ : rm_S) : Nat → Int32 := ρ.1
abbrev rRefs (ρ : rm_S) : Nat → Int32 := ρ.2.1
abbrev rInts (ρ : rm_S) : Nat → Int32 := ρ.2.2.1
abbrev rLen (ρ : rm_S) : Nat → Int32 := ρ.2.2.2.1
abbrev rOfr (ρ : rm_S) : Nat → Int32 := ρ.2.2.2.2.1
abbrev rRow (ρ : rm_S) : Nat → Int32 := ρ.2.2.2.2.2.1
abbrev rBack (ρ : rm_S) : Nat → Int32 := ρ.2.2.2.2.2.2.1
abbrev rReg (ρ : rm_S) : Nat → Int32 := ρ.2.2.2.2.2.2.2.1
abbrev rMark (ρ : rm_S) : Nat → Int32 := ρ.2.2.2.2.2.2.2.2.1
abbrev rPile (ρ : rm_S) : Nat → Int32 := ρ.2.2.2.2.2.2.2.2.2.1
abbrev rObj (ρ : rm_S) : Int32 := ρ.2.2.2.2.2.2.2.2.2.2.1
abbrev rGiv (ρ : rm_S) : Int32 := ρ.2.2.2.2.2.2.2.2.2.2.2.1
abbrev rCyc (ρ : rm_S) : Int32 := ρ.2.2.2.2.2.2.2.2.2.2.2.2.1
abbrev rRea (ρ : rm_S) : Int32 := ρ.2.2.2.2.2.2.2.2.2.2.2.2.2.1
abbrev rPus (ρ : rm_S) : Int32 := ρ.2.2.2.2.2.2.2.2.2.2.2.2.2.2.1
abbrev rGap (ρ : rm_S) : Int32 := ρ.2.2.2.2.2.2.2.2.2.2.2.2.2.2.2.1
abbrev rGil (ρ : rm_S) : Int32 := ρ.2.2.2.2.2.2.2.2.2.2.2.2.2.2.2.2.1
abbrev rMade (ρ : rm_S) : Int64 := ρ.2.2.2.2.2.2.2.2.2.2.2.2.2.2.2.2.2
abbrev vKind (ρ : rm_S) (v : Nat → Int32) : rm_S := (v, ρ.2)
abbrev vRefs (ρ : rm_S) (v : Nat → Int32) : rm_S := (ρ.1, v, ρ.2.2)
abbrev vInts (ρ : rm_S) (v : Nat → Int32) : rm_S := (ρ.1, ρ.2.1, v, ρ.2.2.2)
abbrev vLen (ρ : rm_S) (v : Nat → Int32) : rm_S := (ρ.1, ρ.2.1, ρ.2.2.1, v, ρ.2.2.2.2)
abbrev vOfr (ρ : rm_S) (v : Nat → Int32) : rm_S := (ρ.1, ρ.2.1, ρ.2.2.1, ρ.2.2.2.1, v, ρ.2.2.2.2.2)
abbrev vRow (ρ : rm_S) (v : Nat → Int32) : rm_S := (ρ.1, ρ.2.1, ρ.2.2.1, ρ.2.2.2.1, ρ.2.2.2.2.1, v, ρ.2.2.2.2.2.2)
abbrev vBack (ρ : rm_S) (v : Nat → Int32) : rm_S := (ρ.1, ρ.2.1, ρ.2.2.1, ρ.2.2.2.1, ρ.2.2.2.2.1, ρ.2.2.2.2.2.1, v, ρ.2.2.2.2.2.2.2)
abbrev vReg (ρ : rm_S) (v : Nat → Int32) : rm_S := (ρ.1, ρ.2.1, ρ.2.2.1, ρ.2.2.2.1, ρ.2.2.2.2.1, ρ.2.2.2.2.2.1, ρ.2.2.2.2.2.2.1, v, ρ.2.2.2.2.2.2.2.2)
abbrev vMark (ρ : rm_S) (v : Nat → Int32) : rm_S := (ρ.1, ρ.2.1, ρ.2.2.1, ρ.2.2.2.1, ρ.2.2.2.2.1, ρ.2.2.2.2.2.1, ρ.2.2.2.2.2.2.1, ρ.2.2.2.2.2.2.2.1, v, ρ.2.2.2.2.2.2.2.2.2)
abbrev vPile (ρ : rm_S) (v : Nat → Int32) : rm_S := (ρ.1, ρ.2.1, ρ.2.2.1, ρ.2.2.2.1, ρ.2.2.2.2.1, ρ.2.2.2.2.2.1, ρ.2.2.2.2.2.2.1, ρ.2.2.2.2.2.2.2.1, ρ.2.2.2.2.2.2.2.2.1, v, ρ.2.2.2.2.2.2.2.2.2.2)
abbrev vObj (ρ : rm_S) (v : Int32) : rm_S := (ρ.1, ρ.2.1, ρ.2.2.1, ρ.2.2.2.1, ρ.2.2.2.2.1, ρ.2.2.2.2.2.1, ρ.2.2.2.2.2.2.1, ρ.2.2.2.2.2.2.2.1, ρ.2.2.2.2.2.2.2.2.1, ρ.2.2.2.2.2.2.2.2.2.1, v, ρ.2.2.2.2.2.2.2.2.2.2.2)
abbrev vGiv (ρ : rm_S) (v : Int32) : rm_S := (ρ.1, ρ.2.1, ρ.2.2.1, ρ.2.2.2.1, ρ.2.2.2.2.1, ρ.2.2.2.2.2.1, ρ.2.2.2.2.2.2.1, ρ.2.2.2.2.2.2.2.1, ρ.2.2.2.2.2.2.2.2.1, ρ.2.2.2.2.2.2.2.2.2.1, ρ.2.2.2.2.2.2.2.2.2.2.1, v, ρ.2.2.2.2.2.2.2.2.2.2.2.2)
abbrev vCyc (ρ : rm_S) (v : Int32) : rm_S := (ρ.1, ρ.2.1, ρ.2.2.1, ρ.2.2.2.1, ρ.2.2.2.2.1, ρ.2.2.2.2.2.1, ρ.2.2.2.2.2.2.1, ρ.2.2.2.2.2.2.2.1, ρ.2.2.2.2.2.2.2.2.1, ρ.2.2.2.2.2.2.2.2.2.1, ρ.2.2.2.2.2.2.2.2.2.2.1, ρ.2.2.2.2.2.2.2.2.2.2.2.1, v, ρ.2.2.2.2.2.2.2.2.2.2.2.2.2)
abbrev vRea (ρ : rm_S) (v : Int32) : rm_S := (ρ.1, ρ.2.1, ρ.2.2.1, ρ.2.2.2.1, ρ.2.2.2.2.1, ρ.2.2.2.2.2.1, ρ.2.2.2.2.2.2.1, ρ.2.2.2.2.2.2.2.1, ρ.2.2.2.2.2.2.2.2.1, ρ.2.2.2.2.2.2.2.2.2.1, ρ.2.2.2.2.2.2.2.2.2.2.1, ρ.2.2.2.2.2.2.2.2.2.2.2.1, ρ.2.2.2.2.2.2.2.2.2.2.2.2.1, v, ρ.2.2.2.2.2.2.2.2.2.2.2.2.2.2)
abbrev vPus (ρ : rm_S) (v : Int32) : rm_S := (ρ.1, ρ.2.1, ρ.2.2.1, ρ.2.2.2.1, ρ.2.2.2.2.1, ρ.2.2.2.2.2.1, ρ.2.2.2.2.2.2.1, ρ.2.2.2.2.2.2.2.1, ρ.2.2.2.2.2.2.2.2.1, ρ.2.2.2.2.2.2.2.2.2.1, ρ.2.2.2.2.2.2.2.2.2.2.1, ρ.2.2.2.2.2.2.2.2.2.2.2.1, ρ.2.2.2.2.2.2.2.2.2.2.2.2.1, ρ.2.2.2.2.2.2.2.2.2.2.2.2.2.1, v, ρ.2.2.2.2.2.2.2.2.2.2.2.2.2.2.2)
abbrev vGap (ρ : rm_S) (v : Int32) : rm_S := (ρ.1, ρ.2.1, ρ.2.2.1, ρ.2.2.2.1, ρ.2.2.2.2.1, ρ.2.2.2.2.2.1, ρ.2.2.2.2.2.2.1, ρ.2.2.2.2.2.2.2.1, ρ.2.2.2.2.2.2.2.2.1, ρ.2.2.2.2.2.2.2.2.2.1, ρ.2.2.2.2.2.2.2.2.2.2.1, ρ.2.2.2.2.2.2.2.2.2.2.2.1, ρ.2.2.2.2.2.2.2.2.2.2.2.2.1, ρ.2.2.2.2.2.2.2.2.2.2.2.2.2.1, ρ.2.2.2.2.2.2.2.2.2.2.2.2.2.2.1, v, ρ.2.2.2.2.2.2.2.2.2.2.2.2.2.2.2.2)
abbrev vGil (ρ : rm_S) (v : Int32) : rm_S := (ρ.1, ρ.2.1, ρ.2.2.1, ρ.2.2.2.1, ρ.2.2.2.2.1, ρ.2.2.2.2.2.1, ρ.2.2.2.2.2.2.1, ρ.2.2.2.2.2.2.2.1, ρ.2.2.2.2.2.2.2.2.1, ρ.2.2.2.2.2.2.2.2.2.1, ρ.2.2.2.2.2.2.2.2.2.2.1, ρ.2.2.2.2.2.2.2.2.2.2.2.1, ρ.2.2.2.2.2.2.2.2.2.2.2.2.1, ρ.2.2.2.2.2.2.2.2.2.2.2.2.2.1, ρ.2.2.2.2.2.2.2.2.2.2.2.2.2.2.1, ρ.2.2.2.2.2.2.2.2.2.2.2.2.2.2.2.1, v, ρ.2.2.2.2.2.2.2.2.2.2.2.2.2.2.2.2.2)
abbrev vMade (ρ : rm_S) (v : Int64) : rm_S := (ρ.1, ρ.2.1, ρ.2.2.1, ρ.2.2.2.1, ρ.2.2.2.2.1, ρ.2.2.2.2.2.1, ρ.2.2.2.2.2.2.1, ρ.2.2.2.2.2.2.2.1, ρ.2.2.2.2.2.2.2.2.1, ρ.2.2.2.2.2.2.2.2.2.1, ρ.2.2.2.2.2.2.2.2.2.2.1, ρ.2.2.2.2.2.2.2.2.2.2.2.1, ρ.2.2.2.2.2.2.2.2.2.2.2.2.1, ρ.2.2.2.2.2.2.2.2.2.2.2.2.2.1, ρ.2.2.2.2.2.2.2.2.2.2.2.2.2.2.1, ρ.2.2.2.2.2.2.2.2.2.2.2.2.2.2.2.1, ρ.2.2.2.2.2.2.2.2.2.2.2.2.2.2.2.2.1, v)
abbrev rx_a : Type := Nat × Nat × Nat × Nat × Nat × Nat × Nat × Nat × Nat × Nat × Nat
abbrev bO (b : rx_a) : Nat := b.1
abbrev bKind (b : rx_a) : Nat := b.2.1
abbrev bRefs (b : rx_a) : Nat := b.2.2.1
abbrev bInts (b : rx_a) : Nat := b.2.2.2.1
abbrev bLen (b : rx_a) : Nat := b.2.2.2.2.1
abbrev bOfr (b : rx_a) : Nat := b.2.2.2.2.2.1
abbrev bRow (b : rx_a) : Nat := b.2.2.2.2.2.2.1
abbrev bBack (b : rx_a) : Nat := b.2.2.2.2.2.2.2.1
abbrev bReg (b : rx_a) : Nat := b.2.2.2.2.2.2.2.2.1
abbrev bMark (b : rx_a) : Nat := b.2.2.2.2.2.2.2.2.2.1
abbrev bPile (b : rx_a) : Nat := b.2.2.2.2.2.2.2.2.2.2
abbrev rx_c : Type := ClassId × ClassId × ClassId × ClassId
abbrev rx_w (cs : rx_c) (b : rx_a) (k lim : Int32) (ρ : rm_S) : va_W :=
  [(bO b, .inr (4, [.int k, .int lim, .ref (bKind b), .ref (bRefs b), .ref (bInts b), .ref (bLen b), .ref (bOfr b), .ref (bRow b), .int (rObj ρ), .ref (bBack b), .int (rGiv ρ), .ref (bReg b), .int (rCyc ρ), .int (rRea ρ), .long (rMade ρ), .ref (bMark b), .ref (bPile b), .int (rPus ρ), .int (rGap ρ), .int (rGil ρ)])),
   (bKind b, .inl (cs.1, 120064, .inl (rKind ρ))), (bRefs b, .inl (cs.1, 120064, .inl (rRefs ρ))), (bInts b, .inl (cs.1, 120064, .inl (rInts ρ))), (bLen b, .inl (cs.2.1, 120064, .inl (rLen ρ))), (bOfr b, .inl (cs.2.2.1, 120064, .inl (rOfr ρ))),
   (bRow b, .inl (cs.2.2.2, 1921024, .inl (rRow ρ))), (bBack b, .inl (cs.2.2.2, 120064, .inl (rBack ρ))), (bReg b, .inl (cs.2.2.2, 8, .inl (rReg ρ))), (bMark b, .inl (cs.2.2.1, 120064, .inl (rMark ρ))), (bPile b, .inl (cs.2.2.2, 120064, .inl (rPile ρ)))]
abbrev rx_tys (cs : rx_c) : List (ClassId × FieldType) := [(cs.1, .byte), (cs.2.1, .short), (cs.2.2.1, .boolean), (cs.2.2.2, .int)]
def rx_Pre (D : va_G) (cs : rx_c) (b : rx_a) (k lim : Int32) (ρ : rm_S) (sz : Nat) (U : State) : Prop := U.heap.size = sz ∧ va_P D vwC (rx_w cs b k lim ρ) U.heap ∧ va_D (fun _ => True) (rx_w cs b k lim ρ) ∧ va_K D vwC (rx_tys cs) U
theorem rx_Pre.blind {D : va_G} {cs : rx_c} {b : rx_a} {k lim : Int32} {ρ : rm_S} {sz : Nat} {av : List Value} : FrameBlind (va_Pc av (rx_Pre D cs b k lim ρ sz)) := by
  intro v U g mk h
  obtain ⟨h0, h1, h2, h3, h4⟩ := h
  exact ⟨h0, h1, h2, h3, va_K.moved (u := U) (U := U.calling g mk v) (Vm.Alike.refl U.vm) h4⟩
/-- a method of the reference: it makes nothing -/
def rx_Met (l : Launch) (D : va_G) (cs : rx_c) (b : rx_a) (k lim : Int32) (y : MethodName) (bc : ByteArray) (maxL : Nat) (ret : Option FieldType) (fr lc : Nat) (av : List Value) (ρ : rm_S) (r : Option Value) (ρ' : rm_S) : Prop :=
  ∀ (sz : Nat), Met l y (.code y bc maxL ret :: bt) ({ frames := fr, cells := 0, slots := 0, locals := lc }) (va_Pc av (rx_Pre D cs b k lim ρ sz)) (sx_Q r (fun t => va_P D vwC (rx_w cs b k lim ρ') t.heap ∧ va_D (va_A (rx_w cs b k lim ρ) sz) (rx_w cs b k lim ρ')) (va_A (rx_w cs b k lim ρ) sz) 0 0) 0 0 (va_A (rx_w cs b k lim ρ) sz)
def rx_Rd (l : Launch) (D : va_G) (cs : rx_c) (b : rx_a) (k lim : Int32) (y : MethodName) (bc : ByteArray) (maxL : Nat) (ret : Option FieldType) (fr lc : Nat) (av : List Value) (ρ : rm_S) (r : Int32) : Prop :=
  ∀ (sz : Nat), Met l y (.code y bc maxL ret :: bt) ({ frames := fr, cells := 0, slots := 0, locals := lc }) (va_Pc av (rx_Pre D cs b k lim ρ sz)) (QcRead r) 0 0 (fun _ => False)
def rx_Wd (D : va_G) (cs : rx_c) (b : rx_a) (k lim : Int32) (s : State) (A : Nat → Prop) (ρ : rm_S) (H : Heap) (locs : List Loc) : Prop :=
  va_P D vwC (rx_w cs b k lim ρ) H ∧ va_D A (rx_w cs b k lim ρ) ∧ va_S A s.heap H locs ∧ va_K D vwC (rx_tys cs) s ∧ (∀ q, s.heap.size ≤ q → A q)
section RXR
variable {p : Program} {l : Launch} {e : Env} {R : Room} {s : State} {m : MethodId} {args : Array Value} {below : List Frame} {meth : Method} {c : Code} {H : Heap} {locs : List Loc} {Q : State → Prop} {D : va_G} {cs : rx_c} {b : rx_a} {k lim : Int32} {nL : Nat} {A : Nat → Prop} {ρ ρ' : rm_S} {cc : ByteArray} {pc cells slots : Nat} {ls : Array Slot} {rest st0 : List Value} {c1 : Cond}
theorem rx_get (S : CallFix p m c cc nL s args (c1 :: bt) "StepHeapModel") (hw : rx_Wd D cs b k lim s A ρ H locs) {j index : Nat} {v : Value} (hj : j < 20) (hlink : Cond.fieldLink "StepHeapModel" index "StepHeapModel" (TR j).2.1 (TR j).2.2.1 ∈ bt) (hsame : (TR j).1 = "StepHeapModel")
    (hv : ([.int k, .int lim, .ref (bKind b), .ref (bRefs b), .ref (bInts b), .ref (bLen b), .ref (bOfr b), .ref (bRow b), .int (rObj ρ), .ref (bBack b), .int (rGiv ρ), .ref (bReg b), .int (rCyc ρ), .int (rRea ρ), .long (rMade ρ), .ref (bMark b), .ref (bPile b), .int (rPus ρ), .int (rGap ρ), .int (rGil ρ)] : List Value)[j]? = some v) (hdg : decode cc pc = .ok (.getfield index, 3))
    (kk : W p l e R s m args below meth c H locs cells slots Q (F0 m (pc + 3) ls (v :: rest))) : W p l e R s m args below meth c H locs cells slots Q (F0 m pc ls (.ref (bO b) :: rest)) := by
  obtain ⟨hx, hb, hml, hown, hts⟩ := S
  obtain ⟨hP, hD, hS, hK, -⟩ := hw
  exact va_get (D := D) (ci := 4) (v := v) (C := "StepHeapModel") (T := TR) (N := 20) hx hb hts (fun w h => List.mem_cons_of_mem _ (inR w h)) hown hK hP 0 rfl rfl j hj (hts _ (List.mem_cons_of_mem _ hlink)) (fun _ h9 => by rw [← hsame]; exact h9) hv hdg kk
theorem rx_put (S : CallFix p m c cc nL s args (c1 :: bt) "StepHeapModel") (hw : rx_Wd D cs b k lim s A ρ H locs) {j index : Nat} {v : Value} {ty : FieldType} (hj : j < 20) (hlink : Cond.fieldLink "StepHeapModel" index "StepHeapModel" (TR j).2.1 (TR j).2.2.1 ∈ bt) (hsame : (TR j).1 = "StepHeapModel") (hfin : (TR j).2.2.2 = false) (hd : tyR j = ty) (hn : narrow ty v = v) (hfit : fits ty v = true)
    (hset : (rx_w cs b k lim ρ).set 0 (bO b, .inr (4, ([.int k, .int lim, .ref (bKind b), .ref (bRefs b), .ref (bInts b), .ref (bLen b), .ref (bOfr b), .ref (bRow b), .int (rObj ρ), .ref (bBack b), .int (rGiv ρ), .ref (bReg b), .int (rCyc ρ), .int (rRea ρ), .long (rMade ρ), .ref (bMark b), .ref (bPile b), .int (rPus ρ), .int (rGap ρ), .int (rGil ρ)] : List Value).set j v)) = rx_w cs b k lim ρ') (hdg : decode cc pc = .ok (.putfield index, 3))
    (kk : ∀ (H1 : Heap) (locs1 : List Loc), rx_Wd D cs b k lim s A ρ' H1 locs1 → W p l e R s m args below meth c H1 locs1 cells slots Q (F0 m (pc + 3) ls rest)) : W p l e R s m args below meth c H locs cells slots Q (F0 m pc ls (v :: .ref (bO b) :: rest)) := by
  obtain ⟨hx, hb, hml, hown, hts⟩ := S
  obtain ⟨hP, hD, hS, hK, hA⟩ := hw
  refine va_put (D := D) (ci := 4) (v := v) (ty := ty) (C := "StepHeapModel") (T := TR) (N := 20) hx hb hts (fun w h => List.mem_cons_of_mem _ (inR w h)) tyR tyR_ok nmR hown hK hP hD hS 0 rfl rfl j hj (hts _ (List.mem_cons_of_mem _ hlink)) (fun _ h9 => by rw [← hsame]; exact h9) hfin (by rw [tyR_ok j hj, hd]) hn hfit (by simpa using hj) hdg (fun H1 locs1 hP hD hS => ?_)
  rw [hset] at hP hD
  exact kk H1 locs1 ⟨hP, hD, hS, hK, hA⟩
theorem rx_ldKind (S : CallFix p m c cc nL s args (c1 :: bt) "StepHeapModel") (hw : rx_Wd D cs b k lim s A ρ H locs) {i : Int32} (hin : vp_in i 120064) (hdg : decode cc pc = .ok (.baload, 1)) (kk : W p l e R s m args below meth c H locs cells slots Q (F0 m (pc + 1) ls (.int (rKind ρ i.toNatClampNeg) :: rest))) : W p l e R s m args below meth c H locs cells slots Q (F0 m pc ls (.int i :: .ref (bKind b) :: rest)) := by
  obtain ⟨hx, hb, hml, hown, hts⟩ := S
  obtain ⟨hP, hD, hS, hK, -⟩ := hw
  exact va_bald (D := D) hx hb hK hP 1 0 rfl rfl hin hdg kk
theorem rx_stKind (S : CallFix p m c cc nL s args (c1 :: bt) "StepHeapModel") (hw : rx_Wd D cs b k lim s A ρ H locs) {i x : Int32} (hin : vp_in i 120064) (hdg : decode cc pc = .ok (.bastore, 1)) (kk : ∀ (H1 : Heap) (locs1 : List Loc), rx_Wd D cs b k lim s A (vKind ρ (upd (rKind ρ) i.toNatClampNeg (vp_nar .byte x))) H1 locs1 → W p l e R s m args below meth c H1 locs1 cells slots Q (F0 m (pc + 1) ls rest)) : W p l e R s m args below meth c H locs cells slots Q (F0 m pc ls (.int x :: .int i :: .ref (bKind b) :: rest)) := by
  obtain ⟨hx, hb, hml, hown, hts⟩ := S
  obtain ⟨hP, hD, hS, hK, hA⟩ := hw
  refine va_bast (D := D) hx hb hK hP hD hS 1 0 rfl rfl hin hdg (fun H1 locs1 hP hD hS => ?_)
  exact kk H1 locs1 ⟨hP, hD, hS, hK, hA⟩
theorem rx_ldRefs (S : CallFix p m c cc nL s args (c1 :: bt) "StepHeapModel") (hw : rx_Wd D cs b k lim s A ρ H locs) {i : Int32} (hin : vp_in i 120064) (hdg : decode cc pc = .ok (.baload, 1)) (kk : W p l e R s m args below meth c H locs cells slots Q (F0 m (pc + 1) ls (.int (rRefs ρ i.toNatClampNeg) :: rest))) : W p l e R s m args below meth c H locs cells slots Q (F0 m pc ls (.int i :: .ref (bRefs b) :: rest)) := by
  obtain ⟨hx, hb, hml, hown, hts⟩ := S
  obtain ⟨hP, hD, hS, hK, -⟩ := hw
  exact va_bald (D := D) hx hb hK hP 2 0 rfl rfl hin hdg kk
theorem rx_stRefs (S : CallFix p m c cc nL s args (c1 :: bt) "StepHeapModel") (hw : rx_Wd D cs b k lim s A ρ H locs) {i x : Int32} (hin : vp_in i 120064) (hdg : decode cc pc = .ok (.bastore, 1)) (kk : ∀ (H1 : Heap) (locs1 : List Loc), rx_Wd D cs b k lim s A (vRefs ρ (upd (rRefs ρ) i.toNatClampNeg (vp_nar .byte x))) H1 locs1 → W p l e R s m args below meth c H1 locs1 cells slots Q (F0 m (pc + 1) ls rest)) : W p l e R s m args below meth c H locs cells slots Q (F0 m pc ls (.int x :: .int i :: .ref (bRefs b) :: rest)) := by
  obtain ⟨hx, hb, hml, hown, hts⟩ := S
  obtain ⟨hP, hD, hS, hK, hA⟩ := hw
  refine va_bast (D := D) hx hb hK hP hD hS 2 0 rfl rfl hin hdg (fun H1 locs1 hP hD hS => ?_)
  exact kk H1 locs1 ⟨hP, hD, hS, hK, hA⟩
theorem rx_ldInts (S : CallFix p m c cc nL s args (c1 :: bt) "StepHeapModel") (hw : rx_Wd D cs b k lim s A ρ H locs) {i : Int32} (hin : vp_in i 120064) (hdg : decode cc pc = .ok (.baload, 1)) (kk : W p l e R s m args below meth c H locs cells slots Q (F0 m (pc + 1) ls (.int (rInts ρ i.toNatClampNeg) :: rest))) : W p l e R s m args below meth c H locs cells slots Q (F0 m pc ls (.int i :: .ref (bInts b) :: rest)) := by
  obtain ⟨hx, hb, hml, hown, hts⟩ := S
  obtain ⟨hP, hD, hS, hK, -⟩ := hw
  exact va_bald (D := D) hx hb hK hP 3 0 rfl rfl hin hdg kk
theorem rx_stInts (S : CallFix p m c cc nL s args (c1 :: bt) "StepHeapModel") (hw : rx_Wd D cs b k lim s A ρ H locs) {i x : Int32} (hin : vp_in i 120064) (hdg : decode cc pc = .ok (.bastore, 1)) (kk : ∀ (H1 : Heap) (locs1 : List Loc), rx_Wd D cs b k lim s A (vInts ρ (upd (rInts ρ) i.toNatClampNeg (vp_nar .byte x))) H1 locs1 → W p l e R s m args below meth c H1 locs1 cells slots Q (F0 m (pc + 1) ls rest)) : W p l e R s m args below meth c H locs cells slots Q (F0 m pc ls (.int x :: .int i :: .ref (bInts b) :: rest)) := by
  obtain ⟨hx, hb, hml, hown, hts⟩ := S
  obtain ⟨hP, hD, hS, hK, hA⟩ := hw
  refine va_bast (D := D) hx hb hK hP hD hS 3 0 rfl rfl hin hdg (fun H1 locs1 hP hD hS => ?_)
  exact kk H1 locs1 ⟨hP, hD, hS, hK, hA⟩
theorem rx_ldLen (S : CallFix p m c cc nL s args (c1 :: bt) "StepHeapModel") (hw : rx_Wd D cs b k lim s A ρ H locs) {i : Int32} (hin : vp_in i 120064) (hdg : decode cc pc = .ok (.saload, 1)) (kk : W p l e R s m args below meth c H locs cells slots Q (F0 m (pc + 1) ls (.int (rLen ρ i.toNatClampNeg) :: rest))) : W p l e R s m args below meth c H locs cells slots Q (F0 m pc ls (.int i :: .ref (bLen b) :: rest)) := by
  obtain ⟨hx, hb, hml, hown, hts⟩ := S
  obtain ⟨hP, hD, hS, hK, -⟩ := hw
  exact va_sald (D := D) hx hb hK hP 4 1 rfl rfl hin hdg kk
theorem rx_stLen (S : CallFix p m c cc nL s args (c1 :: bt) "StepHeapModel") (hw : rx_Wd D cs b k lim s A ρ H locs) {i x : Int32} (hin : vp_in i 120064) (hdg : decode cc pc = .ok (.sastore, 1)) (kk : ∀ (H1 : Heap) (locs1 : List Loc), rx_Wd D cs b k lim s A (vLen ρ (upd (rLen ρ) i.toNatClampNeg (vp_nar .short x))) H1 locs1 → W p l e R s m args below meth c H1 locs1 cells slots Q (F0 m (pc + 1) ls rest)) : W p l e R s m args below meth c H locs cells slots Q (F0 m pc ls (.int x :: .int i :: .ref (bLen b) :: rest)) := by
  obtain ⟨hx, hb, hml, hown, hts⟩ := S
  obtain ⟨hP, hD, hS, hK, hA⟩ := hw
  refine va_sast (D := D) hx hb hK hP hD hS 4 1 rfl rfl hin hdg (fun H1 locs1 hP hD hS => ?_)
  exact kk H1 locs1 ⟨hP, hD, hS, hK, hA⟩
theorem rx_ldOfr (S : CallFix p m c cc nL s args (c1 :: bt) "StepHeapModel") (hw : rx_Wd D cs b k lim s A ρ H locs) {i : Int32} (hin : vp_in i 120064) (hdg : decode cc pc = .ok (.baload, 1)) (kk : W p l e R s m args below meth c H locs cells slots Q (F0 m (pc + 1) ls (.int (rOfr ρ i.toNatClampNeg) :: rest))) : W p l e R s m args below meth c H locs cells slots Q (F0 m pc ls (.int i :: .ref (bOfr b) :: rest)) := by
  obtain ⟨hx, hb, hml, hown, hts⟩ := S
  obtain ⟨hP, hD, hS, hK, -⟩ := hw
  exact va_zald (D := D) hx hb hK hP 5 2 rfl rfl hin hdg kk
theorem rx_stOfr (S : CallFix p m c cc nL s args (c1 :: bt) "StepHeapModel") (hw : rx_Wd D cs b k lim s A ρ H locs) {i x : Int32} (hin : vp_in i 120064) (hdg : decode cc pc = .ok (.bastore, 1)) (kk : ∀ (H1 : Heap) (locs1 : List Loc), rx_Wd D cs b k lim s A (vOfr ρ (upd (rOfr ρ) i.toNatClampNeg (vp_nar .boolean x))) H1 locs1 → W p l e R s m args below meth c H1 locs1 cells slots Q (F0 m (pc + 1) ls rest)) : W p l e R s m args below meth c H locs cells slots Q (F0 m pc ls (.int x :: .int i :: .ref (bOfr b) :: rest)) := by
  obtain ⟨hx, hb, hml, hown, hts⟩ := S
  obtain ⟨hP, hD, hS, hK, hA⟩ := hw
  refine va_zast (D := D) hx hb hK hP hD hS 5 2 rfl rfl hin hdg (fun H1 locs1 hP hD hS => ?_)
  exact kk H1 locs1 ⟨hP, hD, hS, hK, hA⟩
theorem rx_ldRow (S : CallFix p m c cc nL s args (c1 :: bt) "StepHeapModel") (hw : rx_Wd D cs b k lim s A ρ H locs) {i : Int32} (hin : vp_in i 1921024) (hdg : decode cc pc = .ok (.iaload, 1)) (kk : W p l e R s m args below meth c H locs cells slots Q (F0 m (pc + 1) ls (.int (rRow ρ i.toNatClampNeg) :: rest))) : W p l e R s m args below meth c H locs cells slots Q (F0 m pc ls (.int i :: .ref (bRow b) :: rest)) := by
  obtain ⟨hx, hb, hml, hown, hts⟩ := S
  obtain ⟨hP, hD, hS, hK, -⟩ := hw
  exact va_iald (D := D) hx hb hK hP 6 3 rfl rfl hin hdg kk
theorem rx_stRow (S : CallFix p m c cc nL s args (c1 :: bt) "StepHeapModel") (hw : rx_Wd D cs b k lim s A ρ H locs) {i x : Int32} (hin : vp_in i 1921024) (hdg : decode cc pc = .ok (.iastore, 1)) (kk : ∀ (H1 : Heap) (locs1 : List Loc), rx_Wd D cs b k lim s A (vRow ρ (upd (rRow ρ) i.toNatClampNeg (x))) H1 locs1 → W p l e R s m args below meth c H1 locs1 cells slots Q (F0 m (pc + 1) ls rest)) : W p l e R s m args below meth c H locs cells slots Q (F0 m pc ls (.int x :: .int i :: .ref (bRow b) :: rest)) := by
  obtain ⟨hx, hb, hml, hown, hts⟩ := S
  obtain ⟨hP, hD, hS, hK, hA⟩ := hw
  refine va_iast (D := D) hx hb hK hP hD hS 6 3 rfl rfl hin hdg (fun H1 locs1 hP hD hS => ?_)
  exact kk H1 locs1 ⟨hP, hD, hS, hK, hA⟩
theorem rx_ldBack (S : CallFix p m c cc nL s args (c1 :: bt) "StepHeapModel") (hw : rx_Wd D cs b k lim s A ρ H locs) {i : Int32} (hin : vp_in i 120064) (hdg : decode cc pc = .ok (.iaload, 1)) (kk : W p l e R s m args below meth c H locs cells slots Q (F0 m (pc + 1) ls (.int (rBack ρ i.toNatClampNeg) :: rest))) : W p l e R s m args below meth c H locs cells slots Q (F0 m pc ls (.int i :: .ref (bBack b) :: rest)) := by
  obtain ⟨hx, hb, hml, hown, hts⟩ := S
  obtain ⟨hP, hD, hS, hK, -⟩ := hw
  exact va_iald (D := D) hx hb hK hP 7 3 rfl rfl hin hdg kk
theorem rx_stBack (S : CallFix p m c cc nL s args (c1 :: bt) "StepHeapModel") (hw : rx_Wd D cs b k lim s A ρ H locs) {i x : Int32} (hin : vp_in i 120064) (hdg : decode cc pc = .ok (.iastore, 1)) (kk : ∀ (H1 : Heap) (locs1 : List Loc), rx_Wd D cs b k lim s A (vBack ρ (upd (rBack ρ) i.toNatClampNeg (x))) H1 locs1 → W p l e R s m args below meth c H1 locs1 cells slots Q (F0 m (pc + 1) ls rest)) : W p l e R s m args below meth c H locs cells slots Q (F0 m pc ls (.int x :: .int i :: .ref (bBack b) :: rest)) := by
  obtain ⟨hx, hb, hml, hown, hts⟩ := S
  obtain ⟨hP, hD, hS, hK, hA⟩ := hw
  refine va_iast (D := D) hx hb hK hP hD hS 7 3 rfl rfl hin hdg (fun H1 locs1 hP hD hS => ?_)
  exact kk H1 locs1 ⟨hP, hD, hS, hK, hA⟩
theorem rx_ldReg (S : CallFix p m c cc nL s args (c1 :: bt) "StepHeapModel") (hw : rx_Wd D cs b k lim s A ρ H locs) {i : Int32} (hin : vp_in i 8) (hdg : decode cc pc = .ok (.iaload, 1)) (kk : W p l e R s m args below meth c H locs cells slots Q (F0 m (pc + 1) ls (.int (rReg ρ i.toNatClampNeg) :: rest))) : W p l e R s m args below meth c H locs cells slots Q (F0 m pc ls (.int i :: .ref (bReg b) :: rest)) := by
  obtain ⟨hx, hb, hml, hown, hts⟩ := S
  obtain ⟨hP, hD, hS, hK, -⟩ := hw
  exact va_iald (D := D) hx hb hK hP 8 3 rfl rfl hin hdg kk
theorem rx_stReg (S : CallFix p m c cc nL s args (c1 :: bt) "StepHeapModel") (hw : rx_Wd D cs b k lim s A ρ H locs) {i x : Int32} (hin : vp_in i 8) (hdg : decode cc pc = .ok (.iastore, 1)) (kk : ∀ (H1 : Heap) (locs1 : List Loc), rx_Wd D cs b k lim s A (vReg ρ (upd (rReg ρ) i.toNatClampNeg (x))) H1 locs1 → W p l e R s m args below meth c H1 locs1 cells slots Q (F0 m (pc + 1) ls rest)) : W p l e R s m args below meth c H locs cells slots Q (F0 m pc ls (.int x :: .int i :: .ref (bReg b) :: rest)) := by
  obtain ⟨hx, hb, hml, hown, hts⟩ := S
  obtain ⟨hP, hD, hS, hK, hA⟩ := hw
  refine va_iast (D := D) hx hb hK hP hD hS 8 3 rfl rfl hin hdg (fun H1 locs1 hP hD hS => ?_)
  exact kk H1 locs1 ⟨hP, hD, hS, hK, hA⟩
theorem rx_ldMark (S : CallFix p m c cc nL s args (c1 :: bt) "StepHeapModel") (hw : rx_Wd D cs b k lim s A ρ H locs) {i : Int32} (hin : vp_in i 120064) (hdg : decode cc pc = .ok (.baload, 1)) (kk : W p l e R s m args below meth c H locs cells slots Q (F0 m (pc + 1) ls (.int (rMark ρ i.toNatClampNeg) :: rest))) : W p l e R s m args below meth c H locs cells slots Q (F0 m pc ls (.int i :: .ref (bMark b) :: rest)) := by
  obtain ⟨hx, hb, hml, hown, hts⟩ := S
  obtain ⟨hP, hD, hS, hK, -⟩ := hw
  exact va_zald (D := D) hx hb hK hP 9 2 rfl rfl hin hdg kk
theorem rx_stMark (S : CallFix p m c cc nL s args (c1 :: bt) "StepHeapModel") (hw : rx_Wd D cs b k lim s A ρ H locs) {i x : Int32} (hin : vp_in i 120064) (hdg : decode cc pc = .ok (.bastore, 1)) (kk : ∀ (H1 : Heap) (locs1 : List Loc), rx_Wd D cs b k lim s A (vMark ρ (upd (rMark ρ) i.toNatClampNeg (vp_nar .boolean x))) H1 locs1 → W p l e R s m args below meth c H1 locs1 cells slots Q (F0 m (pc + 1) ls rest)) : W p l e R s m args below meth c H locs cells slots Q (F0 m pc ls (.int x :: .int i :: .ref (bMark b) :: rest)) := by
  obtain ⟨hx, hb, hml, hown, hts⟩ := S
  obtain ⟨hP, hD, hS, hK, hA⟩ := hw
  refine va_zast (D := D) hx hb hK hP hD hS 9 2 rfl rfl hin hdg (fun H1 locs1 hP hD hS => ?_)
  exact kk H1 locs1 ⟨hP, hD, hS, hK, hA⟩
theorem rx_ldPile (S : CallFix p m c cc nL s args (c1 :: bt) "StepHeapModel") (hw : rx_Wd D cs b k lim s A ρ H locs) {i : Int32} (hin : vp_in i 120064) (hdg : decode cc pc = .ok (.iaload, 1)) (kk : W p l e R s m args below meth c H locs cells slots Q (F0 m (pc + 1) ls (.int (rPile ρ i.toNatClampNeg) :: rest))) : W p l e R s m args below meth c H locs cells slots Q (F0 m pc ls (.int i :: .ref (bPile b) :: rest)) := by
  obtain ⟨hx, hb, hml, hown, hts⟩ := S
  obtain ⟨hP, hD, hS, hK, -⟩ := hw
  exact va_iald (D := D) hx hb hK hP 10 3 rfl rfl hin hdg kk
theorem rx_stPile (S : CallFix p m c cc nL s args (c1 :: bt) "StepHeapModel") (hw : rx_Wd D cs b k lim s A ρ H locs) {i x : Int32} (hin : vp_in i 120064) (hdg : decode cc pc = .ok (.iastore, 1)) (kk : ∀ (H1 : Heap) (locs1 : List Loc), rx_Wd D cs b k lim s A (vPile ρ (upd (rPile ρ) i.toNatClampNeg (x))) H1 locs1 → W p l e R s m args below meth c H1 locs1 cells slots Q (F0 m (pc + 1) ls rest)) : W p l e R s m args below meth c H locs cells slots Q (F0 m pc ls (.int x :: .int i :: .ref (bPile b) :: rest)) := by
  obtain ⟨hx, hb, hml, hown, hts⟩ := S
  obtain ⟨hP, hD, hS, hK, hA⟩ := hw
  refine va_iast (D := D) hx hb hK hP hD hS 10 3 rfl rfl hin hdg (fun H1 locs1 hP hD hS => ?_)
  exact kk H1 locs1 ⟨hP, hD, hS, hK, hA⟩
theorem rx_call (S : CallFix p m c cc nL s args (c1 :: bt) "StepHeapModel") (hw : rx_Wd D cs b k lim s A ρ H locs) {y : MethodName} {bc : ByteArray} {maxL fr lc n index : Nat} {ret : Option FieldType} {As : List Value} {r : Option Value} (hM : rx_Met l D cs b k lim y bc maxL ret fr lc (.ref (bO b) :: As) ρ r ρ') (h1 : Cond.code y bc maxL ret ∈ bt) (h2 : Cond.methodLink "StepHeapModel" index y ∈ bt) (h3 : Cond.instanceMethod y ∈ bt) (h4 : Cond.selects "StepHeapModel" y y ∈ bt) (h5 : Cond.initialized "StepHeapModel" ∈ bt)
    (hd : y.cls = "StepHeapModel" ∧ y.cls ≠ "java/lang/invoke/MethodHandle" ∧ y.cls ≠ "java/lang/invoke/VarHandle" ∧ (parseMethodDescriptor y.desc).map (fun d => d.parameters.length) = some n) (hn : As.length = n) (hR : fr + 1 ≤ R.frames ∧ 8 + (maxL + 11) + lc ≤ R.locals) (hsize : ls.size = nL) (hst : st0 = As.reverse ++ .ref (bO b) :: rest) (hr : (rest.map fun v => v.category).sum ≤ 8) (hdg : decode cc pc = .ok (.invokevirtual index, 3))
    (kk : ∀ (H1 : Heap) (locs1 : List Loc), rx_Wd D cs b k lim s A ρ' H1 locs1 → W p l e R s m args below meth c H1 locs1 0 0 Q (F0 m (pc + 3) ls (r.toList ++ rest))) : W p l e R s m args below meth c H locs 0 0 Q (F0 m pc ls st0) := by
  obtain ⟨hP, hD, hS, hK, hA⟩ := hw
  have hts := S.2.2.2.2
  have hFc : ∀ q, va_A (rx_w cs b k lim ρ) H.size q → A q := by
    intro q h
    rcases h with ⟨j, e, h⟩ | h
    · exact hD.2 j (q, e) h
    · exact hA q (Nat.le_trans hS.1 h)
  refine sx_call (va_runV (As := As) (rest := rest) S (hM H.size) (cwV n hts (bt_V h1 h2 h3 h4 h5) rfl rfl rfl hd hR)
    ⟨rx_Pre.blind, va_recv hK hP (ci := 4) (q0 := 0) rfl rfl, fun U hU hW => ⟨rfl, by rw [hU], by rw [hU]; exact hP, hD.weaken (fun _ _ _ _ => trivial), va_K.moved hW.alike hK⟩⟩ rfl hn hsize hst (lv_room hr) hdg ⟨Nat.zero_le _, Nat.zero_le _⟩) hS (fun q _ h => hFc q h) hFc (fun t H1 locs1 ht hvm hB hz hk1 hS1 => ?_)
  obtain ⟨hP1, hD1⟩ := hB
  rw [ht] at hP1
  exact kk H1 locs1 ⟨hP1, hD1.weaken (fun j q _ h => hFc q.1 h), hS1, hK, hA⟩
theorem rx_rd (S : CallFix p m c cc nL s args (c1 :: bt) "StepHeapModel") (hw : rx_Wd D cs b k lim s A ρ H locs) {y : MethodName} {bc : ByteArray} {maxL fr lc n index : Nat} {ret : Option FieldType} {As : List Value} {r : Int32} (hM : rx_Rd l D cs b k lim y bc maxL ret fr lc (.ref (bO b) :: As) ρ r) (h1 : Cond.code y bc maxL ret ∈ bt) (h2 : Cond.methodLink "StepHeapModel" index y ∈ bt) (h3 : Cond.instanceMethod y ∈ bt) (h4 : Cond.selects "StepHeapModel" y y ∈ bt) (h5 : Cond.initialized "StepHeapModel" ∈ bt)
    (hd : y.cls = "StepHeapModel" ∧ y.cls ≠ "java/lang/invoke/MethodHandle" ∧ y.cls ≠ "java/lang/invoke/VarHandle" ∧ (parseMethodDescriptor y.desc).map (fun d => d.parameters.length) = some n) (hn : As.length = n) (hR : fr + 1 ≤ R.frames ∧ 8 + (maxL + 11) + lc ≤ R.locals) (hsize : ls.size = nL) (hst : st0 = As.reverse ++ .ref (bO b) :: rest) (hr : (rest.map fun v => v.category).sum ≤ 8) (hdg : decode cc pc = .ok (.invokevirtual index, 3))
    (kk : W p l e R s m args below meth c H locs 0 0 Q (F0 m (pc + 3) ls (.int r :: rest))) : W p l e R s m args below meth c H locs 0 0 Q (F0 m pc ls st0) := by
  obtain ⟨hP, hD, hS, hK, hA⟩ := hw
  have hts := S.2.2.2.2
  exact W.callR (W.runV (As := As) (rest := rest) S (hM H.size) (cwV n hts (bt_V h1 h2 h3 h4 h5) rfl rfl rfl hd hR)
    ⟨rx_Pre.blind, va_recv hK hP (ci := 4) (q0 := 0) rfl rfl, fun U hU hW => ⟨rfl, by rw [hU], by rw [hU]; exact hP, hD.weaken (fun _ _ _ _ => trivial), va_K.moved hW.alike hK⟩⟩ rfl hn hsize hst (lv_room hr) hdg ⟨Nat.zero_le _, Nat.zero_le _⟩) kk
end RXR
section RXS
variable {l : Launch} {D : va_G} {cs : rx_c} {b : rx_a} {k lim : Int32} {ρ ρ' : rm_S} {y : MethodName} {bc : ByteArray} {maxL fr lc : Nat} {ret : Option FieldType} {av : List Value}
theorem rx_start {r : Option Value} (hy : plainName y.cls = true) (hlen : (lg_sl av).length ≤ maxL)
    (body : ∀ (p : Program) (e : Env) (R : Room) (s : State) (m : MethodId) (args : Array Value) (below : List Frame) (meth : Method) (c : Code) (A : Nat → Prop) (ls : Array Slot), CallFix p m c bc maxL s args (.code y bc maxL ret :: bt) y.cls → meth.sig.returnType = ret → meth.locks = false → R.frames = fr → R.locals = lc → rx_Wd D cs b k lim s A ρ s.heap [] → lv_has ls maxL (lv_args 0 av) →
      W p l e R s m args below meth c s.heap [] 0 0 (MQ below (sx_Q r (fun t => va_P D vwC (rx_w cs b k lim ρ') t.heap ∧ va_D A (rx_w cs b k lim ρ')) A 0 0) args s 0 0 A) (F0 m 0 ls [])) :
    rx_Met l D cs b k lim y bc maxL ret fr lc av ρ r ρ' := by
  intro sz
  refine Met.ofW (cc := bc) (maxL := maxL) (ret := ret) hy rfl ?_
  intro p e s m args below meth c s₁ B hml hv
  obtain ⟨rfl, hsz, hP, hD0, hK⟩ := hv
  have hts := atoms_spec (ws := .code y bc maxL ret :: bt) B.pre
  subst hsz
  have hD := hD0.self (sz := s.heap.size)
  have hl := lv_entry av (n := maxL) hlen
  rw [lg_entry_eq]
  exact body p e _ s m _ below meth c _ _ ⟨B.exec, B.bytes, hml, findClass_of_methodNamed B.named, hts⟩ B.returns B.notSynchronized rfl rfl ⟨hP, hD, va_S.rf, hK, fun q h => Or.inr h⟩ hl
theorem rx_startR {r : Int32} (hy : plainName y.cls = true) (hlen : (lg_sl av).length ≤ maxL)
    (body : ∀ (p : Program) (e : Env) (R : Room) (s : State) (m : MethodId) (args : Array Value) (below : List Frame) (meth : Method) (c : Code) (A : Nat → Prop) (ls : Array Slot), CallFix p m c bc maxL s args (.code y bc maxL ret :: bt) y.cls → meth.sig.returnType = ret → meth.locks = false → R.frames = fr → R.locals = lc → rx_Wd D cs b k lim s A ρ s.heap [] → lv_has ls maxL (lv_args 0 av) →
      W p l e R s m args below meth c s.heap [] 0 0 (MQ below (QcRead r) args s 0 0 (fun _ => False)) (F0 m 0 ls [])) :
    rx_Rd l D cs b k lim y bc maxL ret fr lc av ρ r := by
  intro sz
  refine Met.ofW (cc := bc) (maxL := maxL) (ret := ret) hy rfl ?_
  intro p e s m args below meth c s₁ B hml hv
  obtain ⟨rfl, hsz, hP, hD0, hK⟩ := hv
  have hts := atoms_spec (ws := .code y bc maxL ret :: bt) B.pre
  subst hsz
  have hD := hD0.self (sz := s.heap.size)
  have hl := lv_entry av (n := maxL) hlen
  rw [lg_entry_eq]
  exact body p e _ s m _ below meth c _ _ ⟨B.exec, B.bytes, hml, findClass_of_methodNamed B.named, hts⟩ B.returns B.notSynchronized rfl rfl ⟨hP, hD, va_S.rf, hK, fun q h => Or.inr h⟩ hl
end RXS
section RXE
variable {p : Program} {l : Launch} {e : Env} {R : Room} {s : State} {m : MethodId} {args : Array Value} {below : List Frame} {meth : Method} {c : Code} {H : Heap} {locs : List Loc} {D : va_G} {cs : rx_c} {b : rx_a} {k lim : Int32} {nL : Nat} {A : Nat → Prop} {ρ ρ' : rm_S} {cc : ByteArray} {pc : Nat} {ls : Array Slot} {c1 : Cond} {own : String}
theorem rx_retI {v : Int32} {r : Option Value} (S : CallFix p m c cc nL s args (c1 :: bt) own) (hr : meth.sig.returnType = some .int) (hlk : meth.locks = false) (hw : rx_Wd D cs b k lim s A ρ H locs) (hv : r = some (.int v)) (hs : ρ' = ρ) (hdg : decode cc pc = .ok (.ireturn, 1)) :
    W p l e R s m args below meth c H locs 0 0 (MQ below (sx_Q r (fun t => va_P D vwC (rx_w cs b k lim ρ') t.heap ∧ va_D A (rx_w cs b k lim ρ')) A 0 0) args s 0 0 A) (F0 m pc ls [.int v]) := by
  subst hs; subst hv
  obtain ⟨hP, hD, hS, -⟩ := hw
  exact sx_end (Nat.le_refl _) (Nat.le_refl _) (W.iret S.1 S.2.1 hr (fun t ht hW => ⟨rfl, ⟨by rw [ht]; exact hP, hD⟩, hS.F ht⟩) hS.2.2 hdg hlk)
theorem rx_retZ {v : Int32} {r : Option Value} (S : CallFix p m c cc nL s args (c1 :: bt) own) (hr : meth.sig.returnType = some .boolean) (hlk : meth.locks = false) (hw : rx_Wd D cs b k lim s A ρ H locs) (hv : r = some (.int v)) (hz : v = 0 ∨ v = 1) (hs : ρ' = ρ) (hdg : decode cc pc = .ok (.ireturn, 1)) :
    W p l e R s m args below meth c H locs 0 0 (MQ below (sx_Q r (fun t => va_P D vwC (rx_w cs b k lim ρ') t.heap ∧ va_D A (rx_w cs b k lim ρ')) A 0 0) args s 0 0 A) (F0 m pc ls [.int v]) := by
  subst hs; subst hv
  obtain ⟨hP, hD, hS, -⟩ := hw
  exact sx_end (Nat.le_refl _) (Nat.le_refl _) (W.zret S.1 S.2.1 hr (by rcases hz with rfl | rfl <;> rfl) (fun t ht hW => ⟨rfl, ⟨by rw [ht]; exact hP, hD⟩, hS.F ht⟩) hS.2.2 hdg hlk)
theorem rx_retL {v : Int64} {r : Option Value} (S : CallFix p m c cc nL s args (c1 :: bt) own) (hr : meth.sig.returnType = some .long) (hlk : meth.locks = false) (hw : rx_Wd D cs b k lim s A ρ H locs) (hv : r = some (.long v)) (hs : ρ' = ρ) (hdg : decode cc pc = .ok (.lreturn, 1)) :
    W p l e R s m args below meth c H locs 0 0 (MQ below (sx_Q r (fun t => va_P D vwC (rx_w cs b k lim ρ') t.heap ∧ va_D A (rx_w cs b k lim ρ')) A 0 0) args s 0 0 A) (F0 m pc ls [.long v]) := by
  subst hs; subst hv
  obtain ⟨hP, hD, hS, -⟩ := hw
  exact sx_end (Nat.le_refl _) (Nat.le_refl _) (W.lret S.1 S.2.1 hr (fun t ht hW => ⟨rfl, ⟨by rw [ht]; exact hP, hD⟩, hS.F ht⟩) hS.2.2 hdg hlk)
theorem rx_retV {r : Option Value} (S : CallFix p m c cc nL s args (c1 :: bt) own) (hr : meth.sig.returnType = none) (hlk : meth.locks = false) (hw : rx_Wd D cs b k lim s A ρ H locs) (hv : r = none) (hs : ρ' = ρ) (hdg : decode cc pc = .ok (.return_, 1)) :
    W p l e R s m args below meth c H locs 0 0 (MQ below (sx_Q r (fun t => va_P D vwC (rx_w cs b k lim ρ') t.heap ∧ va_D A (rx_w cs b k lim ρ')) A 0 0) args s 0 0 A) (F0 m pc ls []) := by
  subst hs; subst hv
  obtain ⟨hP, hD, hS, -⟩ := hw
  exact sx_end (Nat.le_refl _) (Nat.le_refl _) (W.vret S.1 S.2.1 hr (fun t ht hW => ⟨rfl, ⟨by rw [ht]; exact hP, hD⟩, hS.F ht⟩) hS.2.2 hdg hlk)
end RXE
end
section
/-! ===== THE REFERENCE AS FUNCTIONS (its small methods), and what keeps its indices in range ===== -/
def rm_levels (n : Int32) : Int32 := if 15 < n then (if 225 < n then 3 else 2) else 1
abbrev rm_o (ρ : rm_S) (r : Int32) : Int32 := rReg ρ r.toNatClampNeg - 1
def rm_cells (ρ : rm_S) (o : Int32) : Int32 := if rKind ρ o.toNatClampNeg = 1 then 1 + rRefs ρ o.toNatClampNeg + rInts ρ o.toNatClampNeg else 16
def rm_field (ρ : rm_S) (r f b : Int32) : Int32 :=
  if sh_isReg r = 0 then -1 else if rReg ρ r.toNatClampNeg = 0 then -1 else if rKind ρ (rm_o ρ r).toNatClampNeg = 1 then
    (if f < 0 then -1 else if f < (if b = 0 then rInts ρ (rm_o ρ r).toNatClampNeg else rRefs ρ (rm_o ρ r).toNatClampNeg) then rm_o ρ r * 16 + (if b = 0 then rRefs ρ (rm_o ρ r).toNatClampNeg + f else f) else -1) else -1
def rm_hasItem (ρ : rm_S) (r i b : Int32) : Int32 :=
  if sh_isReg r = 0 then 0 else if rReg ρ r.toNatClampNeg = 0 then 0 else if rKind ρ (rm_o ρ r).toNatClampNeg = 2 then
    (if rOfr ρ (rm_o ρ r).toNatClampNeg = b then (if i < 0 then 0 else if rLen ρ (rm_o ρ r).toNatClampNeg ≤ i then 0 else 1) else 0) else 0
def rm_done (k : Int32) (ρ : rm_S) : Int32 := if lg_cmp (k.toInt64 * rMade ρ) (rRea ρ).toInt64 < 0 then 0 else 1
def rm_get (ρ : rm_S) (t o f : Int32) : Int32 × rm_S := if sh_isReg t = 0 then (0, ρ) else if rm_field ρ o f 1 = -1 then (0, ρ) else (1, vReg ρ (upd (rReg ρ) t.toNatClampNeg (rRow ρ (rm_field ρ o f 1).toNatClampNeg)))
def rm_put (ρ : rm_S) (o f r : Int32) : Int32 × rm_S := if sh_isReg r = 0 then (0, ρ) else if rm_field ρ o f 1 = -1 then (0, ρ) else (1, vRow ρ (upd (rRow ρ) (rm_field ρ o f 1).toNatClampNeg (rReg ρ r.toNatClampNeg)))
def rm_look (ρ : rm_S) (o f : Int32) : Int64 := if rm_field ρ o f 0 = -1 then -9223372036854775808 else (rRow ρ (rm_field ρ o f 0).toNatClampNeg).toInt64
def rm_set (ρ : rm_S) (o f v : Int32) : Int32 × rm_S := if rm_field ρ o f 0 = -1 then (0, ρ) else (1, vRow ρ (upd (rRow ρ) (rm_field ρ o f 0).toNatClampNeg v))
def rm_copy (ρ : rm_S) (t r : Int32) : Int32 × rm_S := if sh_isReg t = 0 then (0, ρ) else if sh_isReg r = 0 then (0, ρ) else (1, vReg ρ (upd (rReg ρ) t.toNatClampNeg (rReg ρ r.toNatClampNeg)))
def rm_drop (ρ : rm_S) (r : Int32) : Int32 × rm_S := if sh_isReg r = 0 then (0, ρ) else if rReg ρ r.toNatClampNeg = 0 then (0, ρ) else (1, vReg ρ (upd (rReg ρ) r.toNatClampNeg 0))
def rm_same (ρ : rm_S) (x y : Int32) : Int32 := if sh_isReg x = 0 then 0 else if sh_isReg y = 0 then 0 else if rReg ρ x.toNatClampNeg = rReg ρ y.toNatClampNeg then 1 else 0
def rm_size (ρ : rm_S) (r w : Int32) : Int32 :=
  if sh_isReg r = 0 then -1 else if rReg ρ r.toNatClampNeg = 0 then -1 else
  if w = 0 then (if rKind ρ (rm_o ρ r).toNatClampNeg = 1 then rRefs ρ (rm_o ρ r).toNatClampNeg else -1) else
  if w = 1 then (if rKind ρ (rm_o ρ r).toNatClampNeg = 1 then rInts ρ (rm_o ρ r).toNatClampNeg else -1) else
  if w = 2 then (if rKind ρ (rm_o ρ r).toNatClampNeg = 1 then -1 else rLen ρ (rm_o ρ r).toNatClampNeg) else
  if w = 3 then rm_cells ρ (rm_o ρ r) else -1
def rm_told (k lim : Int32) (ρ : rm_S) (w : Int32) : Int32 :=
  if w = 0 then rCyc ρ else if w = 1 then (if rm_done k ρ = 0 then 0 else 1) else if w = 2 then (if rm_done k ρ = 0 then -1 else rRea ρ) else
  if w = 3 then (if 0 ≤ lg_cmp (rMade ρ) 2147483647 then (2147483647 : Int64).toInt32 else (rMade ρ).toInt32) else if w = 4 then lim else -1
/-- ob things so far; registers, references and counts in range -/
def rm_ok (ρ : rm_S) (ob : Nat) : Prop := rObj ρ = nI ob ∧ ob < 100000 ∧ (∀ t, t < 8 → ∃ x, x ≤ ob ∧ rReg ρ t = nI x) ∧ (∀ o, o < ob → ∃ r i, r + i ≤ 15 ∧ rRefs ρ o = nI r ∧ rInts ρ o = nI i) ∧ (∀ o f r, o < ob → rRefs ρ o = nI r → f < r → r ≤ 15 → ∃ x, x ≤ ob ∧ rRow ρ (o * 16 + f) = nI x)
theorem ri_isReg {r : Int32} (h : ¬ sh_isReg r = 0) : ∃ t, t < 8 ∧ r = nI t := vp_in_of (in8 h) (by decide)
theorem ri_reg {ρ : rm_S} {ob : Nat} (h : rm_ok ρ ob) {r : Int32} (c1 : ¬ sh_isReg r = 0) (c2 : ¬ rReg ρ r.toNatClampNeg = 0) : ∃ o, o < ob ∧ rm_o ρ r = nI o := by
  obtain ⟨t, ht, rfl⟩ := ri_isReg c1
  rw [nI_clamp (by omega)] at c2
  obtain ⟨x, hx, e⟩ := h.2.2.1 t ht
  unfold rm_o
  rw [nI_clamp (by omega), e]
  rw [e] at c2
  have : x ≠ 0 := fun z => c2 (by rw [z]; rfl)
  exact ⟨x - 1, by omega, by rw [show (1 : Int32) = nI 1 from rfl, pk_sub (by omega)]⟩
theorem ri_in {ρ : rm_S} {ob : Nat} (h : rm_ok ρ ob) {r : Int32} (c1 : ¬ sh_isReg r = 0) (c2 : ¬ rReg ρ r.toNatClampNeg = 0) : vp_in (rm_o ρ r) 120064 := by
  obtain ⟨o, ho, e⟩ := ri_reg h c1 c2
  rw [e]
  exact vp_in_nI (by have := h.2.1; omega) (by decide)
theorem ri_lt {f : Int32} {r : Nat} (hr : r ≤ 15) (h0 : ¬ f < 0) (h : f < nI r) : ∃ j, j < r ∧ f = nI j := by
  obtain ⟨j, hj, rfl⟩ := nI_of h0
  exact ⟨j, (nI_ltI hj (by omega)).mp h, rfl⟩
theorem ri_field {ρ : rm_S} {ob : Nat} (h : rm_ok ρ ob) {r f b : Int32} (hq : ¬ rm_field ρ r f b = -1) : vp_in (rm_field ρ r f b) 1921024 := by
  by_cases c1 : sh_isReg r = 0
  · exact absurd (by unfold rm_field; simp only [if_pos c1]) hq
  by_cases c2 : rReg ρ r.toNatClampNeg = 0
  · exact absurd (by unfold rm_field; simp only [if_neg c1, if_pos c2]) hq
  by_cases c3 : rKind ρ (rm_o ρ r).toNatClampNeg = 1
  · by_cases c4 : f < 0
    · exact absurd (by unfold rm_field; simp only [if_neg c1, if_neg c2, if_pos c3, if_pos c4]) hq
    by_cases c5 : f < (if b = 0 then rInts ρ (rm_o ρ r).toNatClampNeg else rRefs ρ (rm_o ρ r).toNatClampNeg)
    · have e : rm_field ρ r f b = rm_o ρ r * 16 + (if b = 0 then rRefs ρ (rm_o ρ r).toNatClampNeg + f else f) := by unfold rm_field; simp only [if_neg c1, if_neg c2, if_pos c3, if_neg c4, if_pos c5]
      rw [e]
      obtain ⟨o, ho, eo⟩ := ri_reg h c1 c2
      have hob := h.2.1
      rw [eo, nI_clamp (by omega)] at c5 ⊢
      obtain ⟨x, y, hxy, ex, ey⟩ := h.2.2.2.1 o ho
      rw [ex, ey] at c5
      rw [ex]
      by_cases cb : b = 0
      · rw [if_pos cb] at c5 ⊢
        obtain ⟨j, hj, rfl⟩ := ri_lt (by omega) c4 c5
        rw [show (16 : Int32) = nI 16 from rfl, pk_mul, nI_add, nI_add]
        exact vp_in_nI (by omega) (by decide)
      · rw [if_neg cb] at c5 ⊢
        obtain ⟨j, hj, rfl⟩ := ri_lt (by omega) c4 c5
        rw [show (16 : Int32) = nI 16 from rfl, pk_mul, nI_add]
        exact vp_in_nI (by omega) (by decide)
    · exact absurd (by unfold rm_field; simp only [if_neg c1, if_neg c2, if_pos c3, if_neg c4, if_neg c5]) hq
  · exact absurd (by unfold rm_field; simp only [if_neg c1, if_neg c2, if_neg c3]) hq
end
