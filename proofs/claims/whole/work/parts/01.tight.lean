/-! ===== BUDGETS: a call's own account of what it made, whatever it was allowed ===== -/
def sx_ss (n : Nat) (H : Heap) : Nat := ((H.toList.drop n).map (·.slots.size)).sum
def sx_same (H H1 : Heap) : Prop := ∀ (a : Nat) (q : Cell), H[a]? = some q → ∃ q' : Cell, H1[a]? = some q' ∧ q'.slots.size = q.slots.size
theorem sx_same.rf (H : Heap) : sx_same H H := fun _ q h => ⟨q, h, rfl⟩
theorem sx_same.tr {H H1 H2 : Heap} (h : sx_same H H1) (h2 : sx_same H1 H2) : sx_same H H2 := fun a q hq => by
  obtain ⟨q1, a1, b1⟩ := h a q hq
  obtain ⟨q2, a2, b2⟩ := h2 a q1 a1
  exact ⟨q2, a2, b2.trans b1⟩
theorem sx_same.le {H H1 : Heap} (h : sx_same H H1) : H.size ≤ H1.size := by
  rcases Nat.eq_zero_or_pos H.size with h0 | h0
  · omega
  · have hlt : H.size - 1 < H.size := by omega
    obtain ⟨q', h1, -⟩ := h (H.size - 1) (H[H.size - 1]) (Array.getElem?_eq_getElem hlt)
    have := (Array.getElem?_eq_some_iff.mp h1).1
    omega
theorem sx_split {H H1 : Heap} (h : sx_same H H1) : H1.toList.map (·.slots.size) = H.toList.map (·.slots.size) ++ (H1.toList.map (·.slots.size)).drop H.size := by
  have hle := h.le
  apply List.ext_getElem?
  intro i
  by_cases hi : i < H.size
  · rw [List.getElem?_append_left (by simpa using hi)]
    obtain ⟨q', h1, h2⟩ := h i (H[i]) (Array.getElem?_eq_getElem hi)
    rw [List.getElem?_map, List.getElem?_map, Array.getElem?_toList, Array.getElem?_toList, h1, Array.getElem?_eq_getElem hi]
    simp [h2]
  · rw [List.getElem?_append_right (by simpa using hi), List.getElem?_drop]
    congr 1
    simp
    omega
theorem sx_ss_add {H H1 : Heap} {n : Nat} (hn : n ≤ H.size) (h : sx_same H H1) : sx_ss n H1 = sx_ss n H + sx_ss H.size H1 := by
  unfold sx_ss
  rw [List.map_drop, List.map_drop, List.map_drop, sx_split h, List.drop_append_of_le_length (by simpa using hn), List.sum_append]
  congr 2
  rw [List.drop_append_of_le_length (by simp)]
  simp
section SXT
variable {p : Program} {l : Launch} {e : Env} {R : Room} {s : State} {m : MethodId} {args : Array Value} {below : List Frame} {meth : Method} {c : Code}
theorem sx_of_same {s t : State} {L : List Loc} {k n : Nat} (h : s.sameButNew t L k n) : sx_same s.heap t.heap ∧ t.heap.size ≤ s.heap.size + k ∧ sx_ss s.heap.size t.heap ≤ n := by
  obtain ⟨-, -, h2, -, h4, h5⟩ := h
  refine ⟨fun a q hq => ?_, h2, h4⟩
  obtain ⟨c', a1, -, a3, -⟩ := h5 a q hq
  exact ⟨c', a1, a3⟩
theorem sx_tight {T : State} {locs : List Loc} {cells slots k n : Nat} (X : Stand p l e R s m args below meth c T locs cells slots) (h1 : T.heap.size ≤ s.heap.size + k) (h2 : sx_ss s.heap.size T.heap ≤ n) : Stand p l e R s m args below meth c T locs k n :=
  { X with same := ⟨X.same.1, X.same.2.1, h1, X.same.2.2.2.1, h2, X.same.2.2.2.2.2⟩ }
/-- how much a method made: k cells of n slots at the most -/
def sx_N (k n : Nat) (st t : State) : Prop := sx_same st.heap t.heap ∧ t.heap.size ≤ st.heap.size + k ∧ sx_ss st.heap.size t.heap ≤ n
/-- a method's end: its answer, its world, what it left alone, what it made -/
def sx_Q (r : Option Value) (B : State → Prop) (A : Nat → Prop) (k n : Nat) : Array Value → State → Outcome → State → Prop := fun _ st oc t => oc = .returned r ∧ B t ∧ va_F A st t ∧ sx_N k n st t
theorem sx_call {H : Heap} {locs : List Loc} {cells slots mc ms k n pc : Nat} {ls : Array Slot} {st0 rest : List Value} {Q : State → Prop} {A0 A1 : Nat → Prop} {H0 : Heap} {free : Addr → Prop} {r : Option Value} {B : State → Prop} {a : Array Value}
    (hr : va_Run p l e R s m args below meth c H locs cells slots mc ms (F0 m pc ls st0) rest (sx_Q r B A1 k n a) free) (hS : va_S A0 H0 H locs) (hA : ∀ q, q < H.size → A1 q → A0 q) (hf : ∀ q, free q → A0 q)
    (kk : ∀ (t : State) (H1 : Heap) (locs1 : List Loc), t.heap = H1 → s.vm.Alike t.vm → B t → H.size ≤ H1.size → (∀ q : Nat, q < H.size → ¬ A1 q → H1[q]? = H[q]?) → va_S A0 H0 H1 locs1 → W p l e R s m args below meth c H1 locs1 (cells + k) (slots + n) Q (F0 m (pc + 3) ls (r.toList ++ rest))) : W p l e R s m args below meth c H locs cells slots Q (F0 m pc ls st0) := by
  intro T hT X
  obtain ⟨v, st₀, t, T', L, h0, X', hL, e1, e2, ⟨hv, hb, ⟨hz, hk⟩, hN1, hN2, hN3⟩, st⟩ := hr T hT X
  cases hv
  rw [h0] at hz hk hN1 hN2 hN3
  obtain ⟨b1, b2, b3⟩ := sx_of_same X.same
  have hT' : (T.setVm s.vm).heap = H := hT
  rw [hT'] at b1 b2 b3
  have X2 : Stand p l e R s m args below meth c T' (locs ++ L) (cells + k) (slots + n) := by
    refine sx_tight X' ?_ ?_
    · rw [e1]; omega
    · rw [e1, sx_ss_add b1.le hN1]; omega
  obtain ⟨t2, a1, c1⟩ := kk t T'.heap (locs ++ L) e1.symm (by rw [← e2]; exact X'.warmed.alike) hb (by rw [e1]; exact hz) (fun q h1 h2 => by rw [e1]; exact hk q h1 h2)
    ⟨Nat.le_trans hS.1 (by rw [e1]; exact hz), fun q h1 h2 => by rw [e1, hk q (Nat.lt_of_lt_of_le h1 hS.1) (fun z => h2 (hA q (Nat.lt_of_lt_of_le h1 hS.1) z))]; exact hS.2.1 q h1 h2, fun q hq => by
      rcases List.mem_append.mp hq with h | h
      · exact hS.2.2 q h
      · exact hf _ (hL q h)⟩ T' rfl X2
  exact ⟨t2, st t2 a1, c1⟩
/-- a method's end within its budget -/
theorem sx_end {H : Heap} {locs : List Loc} {k n mc ms : Nat} {g : JFrame} {r : Option Value} {B : State → Prop} {A : Nat → Prop} {free : Addr → Prop} (hk : k ≤ mc) (hn : n ≤ ms)
    (h : W p l e R s m args below meth c H locs k n (MQ below (fun _ st oc t => oc = .returned r ∧ B t ∧ va_F A st t) args s k n free) g) : W p l e R s m args below meth c H locs k n (MQ below (sx_Q r B A k n) args s mc ms free) g := by
  intro T hT X
  obtain ⟨t, a1, o, b1, b2, ⟨b3, b4, b5⟩, L, ⟨f1, f2, f3⟩, f4⟩ := h T hT X
  have hs := sx_of_same f3
  exact ⟨t, a1, o, b1, b2, ⟨b3, b4, b5, hs⟩, L, ⟨f1, f2, f3.mono hk hn⟩, f4⟩
end SXT
