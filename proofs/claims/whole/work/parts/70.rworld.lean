/-! ===== THE REFERENCE: its state (kind, refs, ints, length, ofRefs, row, back, register, mark, pile; objects, given, cycles, reached, pushed, gap, gapIsLast; made), its world, its rules ===== -/
abbrev rm_S : Type := (Nat → Int32) × (Nat → Int32) × (Nat → Int32) × (Nat → Int32) × (Nat → Int32) × (Nat → Int32) × (Nat → Int32) × (Nat → Int32) × (Nat → Int32) × (Nat → Int32) × (Int32) × (Int32) × (Int32) × (Int32) × (Int32) × (Int32) × (Int32) × (Int64)
abbrev rKind (ρ : rm_S) : Nat → Int32 := ρ.1
abbrev rRefs (ρ : rm_S) : Nat → Int32 := ρ.2.1
abbrev rInts (ρ : rm_S) : Nat → Int32 := ρ.2.2.1
abbrev rLen (ρ : rm_S) : Nat → Int32 := ρ.2.2.2.1
abbrev rOfr (ρ : rm_S) : Nat → Int32 := ρ.2.2.2.2.1
abbrev rRow (ρ : rm_S) : Nat → Int32 := ρ.2.2.2.2.2.1
abbrev rBack (ρ : rm_S) : Nat → Int32 := ρ.2.2.2.2.2.2.1
abbrev rReg (ρ : rm_S) : Nat → Int32 := ρ.2.2.2.2.2.2.2.1
abbrev rMark (ρ : rm_S) : Nat → Int32 := ρ.2.2.2.2.2.2.2.2.1
abbrev rPile (ρ : rm_S) : Nat → Int32 := ρ.2.2.2.2.2.2.2.2.2.1
abbrev rObj (ρ : rm_S) : Int32 := ρ.2.2.2.2.2.2.2.2.2.2.1
abbrev rGiv (ρ : rm_S) : Int32 := ρ.2.2.2.2.2.2.2.2.2.2.2.1
abbrev rCyc (ρ : rm_S) : Int32 := ρ.2.2.2.2.2.2.2.2.2.2.2.2.1
abbrev rRea (ρ : rm_S) : Int32 := ρ.2.2.2.2.2.2.2.2.2.2.2.2.2.1
abbrev rPus (ρ : rm_S) : Int32 := ρ.2.2.2.2.2.2.2.2.2.2.2.2.2.2.1
abbrev rGap (ρ : rm_S) : Int32 := ρ.2.2.2.2.2.2.2.2.2.2.2.2.2.2.2.1
abbrev rGil (ρ : rm_S) : Int32 := ρ.2.2.2.2.2.2.2.2.2.2.2.2.2.2.2.2.1
abbrev rMade (ρ : rm_S) : Int64 := ρ.2.2.2.2.2.2.2.2.2.2.2.2.2.2.2.2.2
abbrev vKind (ρ : rm_S) (v : Nat → Int32) : rm_S := (v, ρ.2)
abbrev vRefs (ρ : rm_S) (v : Nat → Int32) : rm_S := (ρ.1, v, ρ.2.2)
abbrev vInts (ρ : rm_S) (v : Nat → Int32) : rm_S := (ρ.1, ρ.2.1, v, ρ.2.2.2)
abbrev vLen (ρ : rm_S) (v : Nat → Int32) : rm_S := (ρ.1, ρ.2.1, ρ.2.2.1, v, ρ.2.2.2.2)
abbrev vOfr (ρ : rm_S) (v : Nat → Int32) : rm_S := (ρ.1, ρ.2.1, ρ.2.2.1, ρ.2.2.2.1, v, ρ.2.2.2.2.2)
abbrev vRow (ρ : rm_S) (v : Nat → Int32) : rm_S := (ρ.1, ρ.2.1, ρ.2.2.1, ρ.2.2.2.1, ρ.2.2.2.2.1, v, ρ.2.2.2.2.2.2)
abbrev vBack (ρ : rm_S) (v : Nat → Int32) : rm_S := (ρ.1, ρ.2.1, ρ.2.2.1, ρ.2.2.2.1, ρ.2.2.2.2.1, ρ.2.2.2.2.2.1, v, ρ.2.2.2.2.2.2.2)
abbrev vReg (ρ : rm_S) (v : Nat → Int32) : rm_S := (ρ.1, ρ.2.1, ρ.2.2.1, ρ.2.2.2.1, ρ.2.2.2.2.1, ρ.2.2.2.2.2.1, ρ.2.2.2.2.2.2.1, v, ρ.2.2.2.2.2.2.2.2)
abbrev vMark (ρ : rm_S) (v : Nat → Int32) : rm_S := (ρ.1, ρ.2.1, ρ.2.2.1, ρ.2.2.2.1, ρ.2.2.2.2.1, ρ.2.2.2.2.2.1, ρ.2.2.2.2.2.2.1, ρ.2.2.2.2.2.2.2.1, v, ρ.2.2.2.2.2.2.2.2.2)
abbrev vPile (ρ : rm_S) (v : Nat → Int32) : rm_S := (ρ.1, ρ.2.1, ρ.2.2.1, ρ.2.2.2.1, ρ.2.2.2.2.1, ρ.2.2.2.2.2.1, ρ.2.2.2.2.2.2.1, ρ.2.2.2.2.2.2.2.1, ρ.2.2.2.2.2.2.2.2.1, v, ρ.2.2.2.2.2.2.2.2.2.2)
abbrev vObj (ρ : rm_S) (v : Int32) : rm_S := (ρ.1, ρ.2.1, ρ.2.2.1, ρ.2.2.2.1, ρ.2.2.2.2.1, ρ.2.2.2.2.2.1, ρ.2.2.2.2.2.2.1, ρ.2.2.2.2.2.2.2.1, ρ.2.2.2.2.2.2.2.2.1, ρ.2.2.2.2.2.2.2.2.2.1, v, ρ.2.2.2.2.2.2.2.2.2.2.2)
abbrev vGiv (ρ : rm_S) (v : Int32) : rm_S := (ρ.1, ρ.2.1, ρ.2.2.1, ρ.2.2.2.1, ρ.2.2.2.2.1, ρ.2.2.2.2.2.1, ρ.2.2.2.2.2.2.1, ρ.2.2.2.2.2.2.2.1, ρ.2.2.2.2.2.2.2.2.1, ρ.2.2.2.2.2.2.2.2.2.1, ρ.2.2.2.2.2.2.2.2.2.2.1, v, ρ.2.2.2.2.2.2.2.2.2.2.2.2)
abbrev vCyc (ρ : rm_S) (v : Int32) : rm_S := (ρ.1, ρ.2.1, ρ.2.2.1, ρ.2.2.2.1, ρ.2.2.2.2.1, ρ.2.2.2.2.2.1, ρ.2.2.2.2.2.2.1, ρ.2.2.2.2.2.2.2.1, ρ.2.2.2.2.2.2.2.2.1, ρ.2.2.2.2.2.2.2.2.2.1, ρ.2.2.2.2.2.2.2.2.2.2.1, ρ.2.2.2.2.2.2.2.2.2.2.2.1, v, ρ.2.2.2.2.2.2.2.2.2.2.2.2.2)
abbrev vRea (ρ : rm_S) (v : Int32) : rm_S := (ρ.1, ρ.2.1, ρ.2.2.1, ρ.2.2.2.1, ρ.2.2.2.2.1, ρ.2.2.2.2.2.1, ρ.2.2.2.2.2.2.1, ρ.2.2.2.2.2.2.2.1, ρ.2.2.2.2.2.2.2.2.1, ρ.2.2.2.2.2.2.2.2.2.1, ρ.2.2.2.2.2.2.2.2.2.2.1, ρ.2.2.2.2.2.2.2.2.2.2.2.1, ρ.2.2.2.2.2.2.2.2.2.2.2.2.1, v, ρ.2.2.2.2.2.2.2.2.2.2.2.2.2.2)
abbrev vPus (ρ : rm_S) (v : Int32) : rm_S := (ρ.1, ρ.2.1, ρ.2.2.1, ρ.2.2.2.1, ρ.2.2.2.2.1, ρ.2.2.2.2.2.1, ρ.2.2.2.2.2.2.1, ρ.2.2.2.2.2.2.2.1, ρ.2.2.2.2.2.2.2.2.1, ρ.2.2.2.2.2.2.2.2.2.1, ρ.2.2.2.2.2.2.2.2.2.2.1, ρ.2.2.2.2.2.2.2.2.2.2.2.1, ρ.2.2.2.2.2.2.2.2.2.2.2.2.1, ρ.2.2.2.2.2.2.2.2.2.2.2.2.2.1, v, ρ.2.2.2.2.2.2.2.2.2.2.2.2.2.2.2)
abbrev vGap (ρ : rm_S) (v : Int32) : rm_S := (ρ.1, ρ.2.1, ρ.2.2.1, ρ.2.2.2.1, ρ.2.2.2.2.1, ρ.2.2.2.2.2.1, ρ.2.2.2.2.2.2.1, ρ.2.2.2.2.2.2.2.1, ρ.2.2.2.2.2.2.2.2.1, ρ.2.2.2.2.2.2.2.2.2.1, ρ.2.2.2.2.2.2.2.2.2.2.1, ρ.2.2.2.2.2.2.2.2.2.2.2.1, ρ.2.2.2.2.2.2.2.2.2.2.2.2.1, ρ.2.2.2.2.2.2.2.2.2.2.2.2.2.1, ρ.2.2.2.2.2.2.2.2.2.2.2.2.2.2.1, v, ρ.2.2.2.2.2.2.2.2.2.2.2.2.2.2.2.2)
abbrev vGil (ρ : rm_S) (v : Int32) : rm_S := (ρ.1, ρ.2.1, ρ.2.2.1, ρ.2.2.2.1, ρ.2.2.2.2.1, ρ.2.2.2.2.2.1, ρ.2.2.2.2.2.2.1, ρ.2.2.2.2.2.2.2.1, ρ.2.2.2.2.2.2.2.2.1, ρ.2.2.2.2.2.2.2.2.2.1, ρ.2.2.2.2.2.2.2.2.2.2.1, ρ.2.2.2.2.2.2.2.2.2.2.2.1, ρ.2.2.2.2.2.2.2.2.2.2.2.2.1, ρ.2.2.2.2.2.2.2.2.2.2.2.2.2.1, ρ.2.2.2.2.2.2.2.2.2.2.2.2.2.2.1, ρ.2.2.2.2.2.2.2.2.2.2.2.2.2.2.2.1, v, ρ.2.2.2.2.2.2.2.2.2.2.2.2.2.2.2.2.2)
abbrev vMade (ρ : rm_S) (v : Int64) : rm_S := (ρ.1, ρ.2.1, ρ.2.2.1, ρ.2.2.2.1, ρ.2.2.2.2.1, ρ.2.2.2.2.2.1, ρ.2.2.2.2.2.2.1, ρ.2.2.2.2.2.2.2.1, ρ.2.2.2.2.2.2.2.2.1, ρ.2.2.2.2.2.2.2.2.2.1, ρ.2.2.2.2.2.2.2.2.2.2.1, ρ.2.2.2.2.2.2.2.2.2.2.2.1, ρ.2.2.2.2.2.2.2.2.2.2.2.2.1, ρ.2.2.2.2.2.2.2.2.2.2.2.2.2.1, ρ.2.2.2.2.2.2.2.2.2.2.2.2.2.2.1, ρ.2.2.2.2.2.2.2.2.2.2.2.2.2.2.2.1, ρ.2.2.2.2.2.2.2.2.2.2.2.2.2.2.2.2.1, v)
abbrev rx_a : Type := Nat × Nat × Nat × Nat × Nat × Nat × Nat × Nat × Nat × Nat × Nat
abbrev bO (b : rx_a) : Nat := b.1
abbrev bKind (b : rx_a) : Nat := b.2.1
abbrev bRefs (b : rx_a) : Nat := b.2.2.1
abbrev bInts (b : rx_a) : Nat := b.2.2.2.1
abbrev bLen (b : rx_a) : Nat := b.2.2.2.2.1
abbrev bOfr (b : rx_a) : Nat := b.2.2.2.2.2.1
abbrev bRow (b : rx_a) : Nat := b.2.2.2.2.2.2.1
abbrev bBack (b : rx_a) : Nat := b.2.2.2.2.2.2.2.1
abbrev bReg (b : rx_a) : Nat := b.2.2.2.2.2.2.2.2.1
abbrev bMark (b : rx_a) : Nat := b.2.2.2.2.2.2.2.2.2.1
abbrev bPile (b : rx_a) : Nat := b.2.2.2.2.2.2.2.2.2.2
abbrev rx_c : Type := ClassId × ClassId × ClassId × ClassId
abbrev rx_w (cs : rx_c) (b : rx_a) (k lim : Int32) (ρ : rm_S) : va_W :=
  [(bO b, .inr (4, [.int k, .int lim, .ref (bKind b), .ref (bRefs b), .ref (bInts b), .ref (bLen b), .ref (bOfr b), .ref (bRow b), .int (rObj ρ), .ref (bBack b), .int (rGiv ρ), .ref (bReg b), .int (rCyc ρ), .int (rRea ρ), .long (rMade ρ), .ref (bMark b), .ref (bPile b), .int (rPus ρ), .int (rGap ρ), .int (rGil ρ)])),
   (bKind b, .inl (cs.1, 120064, .inl (rKind ρ))), (bRefs b, .inl (cs.1, 120064, .inl (rRefs ρ))), (bInts b, .inl (cs.1, 120064, .inl (rInts ρ))), (bLen b, .inl (cs.2.1, 120064, .inl (rLen ρ))), (bOfr b, .inl (cs.2.2.1, 120064, .inl (rOfr ρ))),
   (bRow b, .inl (cs.2.2.2, 1921024, .inl (rRow ρ))), (bBack b, .inl (cs.2.2.2, 120064, .inl (rBack ρ))), (bReg b, .inl (cs.2.2.2, 8, .inl (rReg ρ))), (bMark b, .inl (cs.2.2.1, 120064, .inl (rMark ρ))), (bPile b, .inl (cs.2.2.2, 120064, .inl (rPile ρ)))]
abbrev rx_tys (cs : rx_c) : List (ClassId × FieldType) := [(cs.1, .byte), (cs.2.1, .short), (cs.2.2.1, .boolean), (cs.2.2.2, .int)]
def rx_Pre (D : va_G) (cs : rx_c) (b : rx_a) (k lim : Int32) (ρ : rm_S) (sz : Nat) (U : State) : Prop := U.heap.size = sz ∧ va_P D vwC (rx_w cs b k lim ρ) U.heap ∧ va_D (fun _ => True) (rx_w cs b k lim ρ) ∧ va_K D vwC (rx_tys cs) U
theorem rx_Pre.blind {D : va_G} {cs : rx_c} {b : rx_a} {k lim : Int32} {ρ : rm_S} {sz : Nat} {av : List Value} : FrameBlind (va_Pc av (rx_Pre D cs b k lim ρ sz)) := by
  intro v U g mk h
  obtain ⟨h0, h1, h2, h3, h4⟩ := h
  exact ⟨h0, h1, h2, h3, va_K.moved (u := U) (U := U.calling g mk v) (Vm.Alike.refl U.vm) h4⟩
/-- a method of the reference: it makes nothing -/
def rx_Met (l : Launch) (D : va_G) (cs : rx_c) (b : rx_a) (k lim : Int32) (y : MethodName) (bc : ByteArray) (maxL : Nat) (ret : Option FieldType) (fr lc : Nat) (av : List Value) (ρ : rm_S) (r : Option Value) (ρ' : rm_S) : Prop :=
  ∀ (sz : Nat), Met l y (.code y bc maxL ret :: bt) ({ frames := fr, cells := 0, slots := 0, locals := lc }) (va_Pc av (rx_Pre D cs b k lim ρ sz)) (sx_Q r (fun t => va_P D vwC (rx_w cs b k lim ρ') t.heap ∧ va_D (va_A (rx_w cs b k lim ρ) sz) (rx_w cs b k lim ρ')) (va_A (rx_w cs b k lim ρ) sz) 0 0) 0 0 (va_A (rx_w cs b k lim ρ) sz)
def rx_Rd (l : Launch) (D : va_G) (cs : rx_c) (b : rx_a) (k lim : Int32) (y : MethodName) (bc : ByteArray) (maxL : Nat) (ret : Option FieldType) (fr lc : Nat) (av : List Value) (ρ : rm_S) (r : Int32) : Prop :=
  ∀ (sz : Nat), Met l y (.code y bc maxL ret :: bt) ({ frames := fr, cells := 0, slots := 0, locals := lc }) (va_Pc av (rx_Pre D cs b k lim ρ sz)) (QcRead r) 0 0 (fun _ => False)
def rx_Wd (D : va_G) (cs : rx_c) (b : rx_a) (k lim : Int32) (s : State) (A : Nat → Prop) (ρ : rm_S) (H : Heap) (locs : List Loc) : Prop :=
  va_P D vwC (rx_w cs b k lim ρ) H ∧ va_D A (rx_w cs b k lim ρ) ∧ va_S A s.heap H locs ∧ va_K D vwC (rx_tys cs) s ∧ (∀ q, s.heap.size ≤ q → A q)
section RXR
variable {p : Program} {l : Launch} {e : Env} {R : Room} {s : State} {m : MethodId} {args : Array Value} {below : List Frame} {meth : Method} {c : Code} {H : Heap} {locs : List Loc} {Q : State → Prop} {D : va_G} {cs : rx_c} {b : rx_a} {k lim : Int32} {nL : Nat} {A : Nat → Prop} {ρ ρ' : rm_S} {cc : ByteArray} {pc cells slots : Nat} {ls : Array Slot} {rest st0 : List Value} {c1 : Cond}
theorem rx_get (S : CallFix p m c cc nL s args (c1 :: bt) "StepHeapModel") (hw : rx_Wd D cs b k lim s A ρ H locs) {j index : Nat} {v : Value} (hj : j < 20) (hlink : Cond.fieldLink "StepHeapModel" index "StepHeapModel" (TR j).2.1 (TR j).2.2.1 ∈ bt) (hsame : (TR j).1 = "StepHeapModel")
    (hv : ([.int k, .int lim, .ref (bKind b), .ref (bRefs b), .ref (bInts b), .ref (bLen b), .ref (bOfr b), .ref (bRow b), .int (rObj ρ), .ref (bBack b), .int (rGiv ρ), .ref (bReg b), .int (rCyc ρ), .int (rRea ρ), .long (rMade ρ), .ref (bMark b), .ref (bPile b), .int (rPus ρ), .int (rGap ρ), .int (rGil ρ)] : List Value)[j]? = some v) (hdg : decode cc pc = .ok (.getfield index, 3))
    (kk : W p l e R s m args below meth c H locs cells slots Q (F0 m (pc + 3) ls (v :: rest))) : W p l e R s m args below meth c H locs cells slots Q (F0 m pc ls (.ref (bO b) :: rest)) := by
  obtain ⟨hx, hb, hml, hown, hts⟩ := S
  obtain ⟨hP, hD, hS, hK, -⟩ := hw
  exact va_get (D := D) (ci := 4) (v := v) (C := "StepHeapModel") (T := TR) (N := 20) hx hb hts (fun w h => List.mem_cons_of_mem _ (inR w h)) hown hK hP 0 rfl rfl j hj (hts _ (List.mem_cons_of_mem _ hlink)) (fun _ h9 => by rw [← hsame]; exact h9) hv hdg kk
theorem rx_put (S : CallFix p m c cc nL s args (c1 :: bt) "StepHeapModel") (hw : rx_Wd D cs b k lim s A ρ H locs) {j index : Nat} {v : Value} {ty : FieldType} (hj : j < 20) (hlink : Cond.fieldLink "StepHeapModel" index "StepHeapModel" (TR j).2.1 (TR j).2.2.1 ∈ bt) (hsame : (TR j).1 = "StepHeapModel") (hfin : (TR j).2.2.2 = false) (hd : tyR j = ty) (hn : narrow ty v = v) (hfit : fits ty v = true)
    (hset : (rx_w cs b k lim ρ).set 0 (bO b, .inr (4, ([.int k, .int lim, .ref (bKind b), .ref (bRefs b), .ref (bInts b), .ref (bLen b), .ref (bOfr b), .ref (bRow b), .int (rObj ρ), .ref (bBack b), .int (rGiv ρ), .ref (bReg b), .int (rCyc ρ), .int (rRea ρ), .long (rMade ρ), .ref (bMark b), .ref (bPile b), .int (rPus ρ), .int (rGap ρ), .int (rGil ρ)] : List Value).set j v)) = rx_w cs b k lim ρ') (hdg : decode cc pc = .ok (.putfield index, 3))
    (kk : ∀ (H1 : Heap) (locs1 : List Loc), rx_Wd D cs b k lim s A ρ' H1 locs1 → W p l e R s m args below meth c H1 locs1 cells slots Q (F0 m (pc + 3) ls rest)) : W p l e R s m args below meth c H locs cells slots Q (F0 m pc ls (v :: .ref (bO b) :: rest)) := by
  obtain ⟨hx, hb, hml, hown, hts⟩ := S
  obtain ⟨hP, hD, hS, hK, hA⟩ := hw
  refine va_put (D := D) (ci := 4) (v := v) (ty := ty) (C := "StepHeapModel") (T := TR) (N := 20) hx hb hts (fun w h => List.mem_cons_of_mem _ (inR w h)) tyR tyR_ok nmR hown hK hP hD hS 0 rfl rfl j hj (hts _ (List.mem_cons_of_mem _ hlink)) (fun _ h9 => by rw [← hsame]; exact h9) hfin (by rw [tyR_ok j hj, hd]) hn hfit (by simpa using hj) hdg (fun H1 locs1 hP hD hS => ?_)
  rw [hset] at hP hD
  exact kk H1 locs1 ⟨hP, hD, hS, hK, hA⟩
theorem rx_ldKind (S : CallFix p m c cc nL s args (c1 :: bt) "StepHeapModel") (hw : rx_Wd D cs b k lim s A ρ H locs) {i : Int32} (hin : vp_in i 120064) (hdg : decode cc pc = .ok (.baload, 1)) (kk : W p l e R s m args below meth c H locs cells slots Q (F0 m (pc + 1) ls (.int (rKind ρ i.toNatClampNeg) :: rest))) : W p l e R s m args below meth c H locs cells slots Q (F0 m pc ls (.int i :: .ref (bKind b) :: rest)) := by
  obtain ⟨hx, hb, hml, hown, hts⟩ := S
  obtain ⟨hP, hD, hS, hK, -⟩ := hw
  exact va_bald (D := D) hx hb hK hP 1 0 rfl rfl hin hdg kk
theorem rx_stKind (S : CallFix p m c cc nL s args (c1 :: bt) "StepHeapModel") (hw : rx_Wd D cs b k lim s A ρ H locs) {i x : Int32} (hin : vp_in i 120064) (hdg : decode cc pc = .ok (.bastore, 1)) (kk : ∀ (H1 : Heap) (locs1 : List Loc), rx_Wd D cs b k lim s A (vKind ρ (upd (rKind ρ) i.toNatClampNeg (vp_nar .byte x))) H1 locs1 → W p l e R s m args below meth c H1 locs1 cells slots Q (F0 m (pc + 1) ls rest)) : W p l e R s m args below meth c H locs cells slots Q (F0 m pc ls (.int x :: .int i :: .ref (bKind b) :: rest)) := by
  obtain ⟨hx, hb, hml, hown, hts⟩ := S
  obtain ⟨hP, hD, hS, hK, hA⟩ := hw
  refine va_bast (D := D) hx hb hK hP hD hS 1 0 rfl rfl hin hdg (fun H1 locs1 hP hD hS => ?_)
  exact kk H1 locs1 ⟨hP, hD, hS, hK, hA⟩
theorem rx_ldRefs (S : CallFix p m c cc nL s args (c1 :: bt) "StepHeapModel") (hw : rx_Wd D cs b k lim s A ρ H locs) {i : Int32} (hin : vp_in i 120064) (hdg : decode cc pc = .ok (.baload, 1)) (kk : W p l e R s m args below meth c H locs cells slots Q (F0 m (pc + 1) ls (.int (rRefs ρ i.toNatClampNeg) :: rest))) : W p l e R s m args below meth c H locs cells slots Q (F0 m pc ls (.int i :: .ref (bRefs b) :: rest)) := by
  obtain ⟨hx, hb, hml, hown, hts⟩ := S
  obtain ⟨hP, hD, hS, hK, -⟩ := hw
  exact va_bald (D := D) hx hb hK hP 2 0 rfl rfl hin hdg kk
theorem rx_stRefs (S : CallFix p m c cc nL s args (c1 :: bt) "StepHeapModel") (hw : rx_Wd D cs b k lim s A ρ H locs) {i x : Int32} (hin : vp_in i 120064) (hdg : decode cc pc = .ok (.bastore, 1)) (kk : ∀ (H1 : Heap) (locs1 : List Loc), rx_Wd D cs b k lim s A (vRefs ρ (upd (rRefs ρ) i.toNatClampNeg (vp_nar .byte x))) H1 locs1 → W p l e R s m args below meth c H1 locs1 cells slots Q (F0 m (pc + 1) ls rest)) : W p l e R s m args below meth c H locs cells slots Q (F0 m pc ls (.int x :: .int i :: .ref (bRefs b) :: rest)) := by
  obtain ⟨hx, hb, hml, hown, hts⟩ := S
  obtain ⟨hP, hD, hS, hK, hA⟩ := hw
  refine va_bast (D := D) hx hb hK hP hD hS 2 0 rfl rfl hin hdg (fun H1 locs1 hP hD hS => ?_)
  exact kk H1 locs1 ⟨hP, hD, hS, hK, hA⟩
theorem rx_ldInts (S : CallFix p m c cc nL s args (c1 :: bt) "StepHeapModel") (hw : rx_Wd D cs b k lim s A ρ H locs) {i : Int32} (hin : vp_in i 120064) (hdg : decode cc pc = .ok (.baload, 1)) (kk : W p l e R s m args below meth c H locs cells slots Q (F0 m (pc + 1) ls (.int (rInts ρ i.toNatClampNeg) :: rest))) : W p l e R s m args below meth c H locs cells slots Q (F0 m pc ls (.int i :: .ref (bInts b) :: rest)) := by
  obtain ⟨hx, hb, hml, hown, hts⟩ := S
  obtain ⟨hP, hD, hS, hK, -⟩ := hw
  exact va_bald (D := D) hx hb hK hP 3 0 rfl rfl hin hdg kk
theorem rx_stInts (S : CallFix p m c cc nL s args (c1 :: bt) "StepHeapModel") (hw : rx_Wd D cs b k lim s A ρ H locs) {i x : Int32} (hin : vp_in i 120064) (hdg : decode cc pc = .ok (.bastore, 1)) (kk : ∀ (H1 : Heap) (locs1 : List Loc), rx_Wd D cs b k lim s A (vInts ρ (upd (rInts ρ) i.toNatClampNeg (vp_nar .byte x))) H1 locs1 → W p l e R s m args below meth c H1 locs1 cells slots Q (F0 m (pc + 1) ls rest)) : W p l e R s m args below meth c H locs cells slots Q (F0 m pc ls (.int x :: .int i :: .ref (bInts b) :: rest)) := by
  obtain ⟨hx, hb, hml, hown, hts⟩ := S
  obtain ⟨hP, hD, hS, hK, hA⟩ := hw
  refine va_bast (D := D) hx hb hK hP hD hS 3 0 rfl rfl hin hdg (fun H1 locs1 hP hD hS => ?_)
  exact kk H1 locs1 ⟨hP, hD, hS, hK, hA⟩
theorem rx_ldLen (S : CallFix p m c cc nL s args (c1 :: bt) "StepHeapModel") (hw : rx_Wd D cs b k lim s A ρ H locs) {i : Int32} (hin : vp_in i 120064) (hdg : decode cc pc = .ok (.saload, 1)) (kk : W p l e R s m args below meth c H locs cells slots Q (F0 m (pc + 1) ls (.int (rLen ρ i.toNatClampNeg) :: rest))) : W p l e R s m args below meth c H locs cells slots Q (F0 m pc ls (.int i :: .ref (bLen b) :: rest)) := by
  obtain ⟨hx, hb, hml, hown, hts⟩ := S
  obtain ⟨hP, hD, hS, hK, -⟩ := hw
  exact va_sald (D := D) hx hb hK hP 4 1 rfl rfl hin hdg kk
theorem rx_stLen (S : CallFix p m c cc nL s args (c1 :: bt) "StepHeapModel") (hw : rx_Wd D cs b k lim s A ρ H locs) {i x : Int32} (hin : vp_in i 120064) (hdg : decode cc pc = .ok (.sastore, 1)) (kk : ∀ (H1 : Heap) (locs1 : List Loc), rx_Wd D cs b k lim s A (vLen ρ (upd (rLen ρ) i.toNatClampNeg (vp_nar .short x))) H1 locs1 → W p l e R s m args below meth c H1 locs1 cells slots Q (F0 m (pc + 1) ls rest)) : W p l e R s m args below meth c H locs cells slots Q (F0 m pc ls (.int x :: .int i :: .ref (bLen b) :: rest)) := by
  obtain ⟨hx, hb, hml, hown, hts⟩ := S
  obtain ⟨hP, hD, hS, hK, hA⟩ := hw
  refine va_sast (D := D) hx hb hK hP hD hS 4 1 rfl rfl hin hdg (fun H1 locs1 hP hD hS => ?_)
  exact kk H1 locs1 ⟨hP, hD, hS, hK, hA⟩
theorem rx_ldOfr (S : CallFix p m c cc nL s args (c1 :: bt) "StepHeapModel") (hw : rx_Wd D cs b k lim s A ρ H locs) {i : Int32} (hin : vp_in i 120064) (hdg : decode cc pc = .ok (.baload, 1)) (kk : W p l e R s m args below meth c H locs cells slots Q (F0 m (pc + 1) ls (.int (rOfr ρ i.toNatClampNeg) :: rest))) : W p l e R s m args below meth c H locs cells slots Q (F0 m pc ls (.int i :: .ref (bOfr b) :: rest)) := by
  obtain ⟨hx, hb, hml, hown, hts⟩ := S
  obtain ⟨hP, hD, hS, hK, -⟩ := hw
  exact va_zald (D := D) hx hb hK hP 5 2 rfl rfl hin hdg kk
theorem rx_stOfr (S : CallFix p m c cc nL s args (c1 :: bt) "StepHeapModel") (hw : rx_Wd D cs b k lim s A ρ H locs) {i x : Int32} (hin : vp_in i 120064) (hdg : decode cc pc = .ok (.bastore, 1)) (kk : ∀ (H1 : Heap) (locs1 : List Loc), rx_Wd D cs b k lim s A (vOfr ρ (upd (rOfr ρ) i.toNatClampNeg (vp_nar .boolean x))) H1 locs1 → W p l e R s m args below meth c H1 locs1 cells slots Q (F0 m (pc + 1) ls rest)) : W p l e R s m args below meth c H locs cells slots Q (F0 m pc ls (.int x :: .int i :: .ref (bOfr b) :: rest)) := by
  obtain ⟨hx, hb, hml, hown, hts⟩ := S
  obtain ⟨hP, hD, hS, hK, hA⟩ := hw
  refine va_zast (D := D) hx hb hK hP hD hS 5 2 rfl rfl hin hdg (fun H1 locs1 hP hD hS => ?_)
  exact kk H1 locs1 ⟨hP, hD, hS, hK, hA⟩
theorem rx_ldRow (S : CallFix p m c cc nL s args (c1 :: bt) "StepHeapModel") (hw : rx_Wd D cs b k lim s A ρ H locs) {i : Int32} (hin : vp_in i 1921024) (hdg : decode cc pc = .ok (.iaload, 1)) (kk : W p l e R s m args below meth c H locs cells slots Q (F0 m (pc + 1) ls (.int (rRow ρ i.toNatClampNeg) :: rest))) : W p l e R s m args below meth c H locs cells slots Q (F0 m pc ls (.int i :: .ref (bRow b) :: rest)) := by
  obtain ⟨hx, hb, hml, hown, hts⟩ := S
  obtain ⟨hP, hD, hS, hK, -⟩ := hw
  exact va_iald (D := D) hx hb hK hP 6 3 rfl rfl hin hdg kk
theorem rx_stRow (S : CallFix p m c cc nL s args (c1 :: bt) "StepHeapModel") (hw : rx_Wd D cs b k lim s A ρ H locs) {i x : Int32} (hin : vp_in i 1921024) (hdg : decode cc pc = .ok (.iastore, 1)) (kk : ∀ (H1 : Heap) (locs1 : List Loc), rx_Wd D cs b k lim s A (vRow ρ (upd (rRow ρ) i.toNatClampNeg (x))) H1 locs1 → W p l e R s m args below meth c H1 locs1 cells slots Q (F0 m (pc + 1) ls rest)) : W p l e R s m args below meth c H locs cells slots Q (F0 m pc ls (.int x :: .int i :: .ref (bRow b) :: rest)) := by
  obtain ⟨hx, hb, hml, hown, hts⟩ := S
  obtain ⟨hP, hD, hS, hK, hA⟩ := hw
  refine va_iast (D := D) hx hb hK hP hD hS 6 3 rfl rfl hin hdg (fun H1 locs1 hP hD hS => ?_)
  exact kk H1 locs1 ⟨hP, hD, hS, hK, hA⟩
theorem rx_ldBack (S : CallFix p m c cc nL s args (c1 :: bt) "StepHeapModel") (hw : rx_Wd D cs b k lim s A ρ H locs) {i : Int32} (hin : vp_in i 120064) (hdg : decode cc pc = .ok (.iaload, 1)) (kk : W p l e R s m args below meth c H locs cells slots Q (F0 m (pc + 1) ls (.int (rBack ρ i.toNatClampNeg) :: rest))) : W p l e R s m args below meth c H locs cells slots Q (F0 m pc ls (.int i :: .ref (bBack b) :: rest)) := by
  obtain ⟨hx, hb, hml, hown, hts⟩ := S
  obtain ⟨hP, hD, hS, hK, -⟩ := hw
  exact va_iald (D := D) hx hb hK hP 7 3 rfl rfl hin hdg kk
theorem rx_stBack (S : CallFix p m c cc nL s args (c1 :: bt) "StepHeapModel") (hw : rx_Wd D cs b k lim s A ρ H locs) {i x : Int32} (hin : vp_in i 120064) (hdg : decode cc pc = .ok (.iastore, 1)) (kk : ∀ (H1 : Heap) (locs1 : List Loc), rx_Wd D cs b k lim s A (vBack ρ (upd (rBack ρ) i.toNatClampNeg (x))) H1 locs1 → W p l e R s m args below meth c H1 locs1 cells slots Q (F0 m (pc + 1) ls rest)) : W p l e R s m args below meth c H locs cells slots Q (F0 m pc ls (.int x :: .int i :: .ref (bBack b) :: rest)) := by
  obtain ⟨hx, hb, hml, hown, hts⟩ := S
  obtain ⟨hP, hD, hS, hK, hA⟩ := hw
  refine va_iast (D := D) hx hb hK hP hD hS 7 3 rfl rfl hin hdg (fun H1 locs1 hP hD hS => ?_)
  exact kk H1 locs1 ⟨hP, hD, hS, hK, hA⟩
theorem rx_ldReg (S : CallFix p m c cc nL s args (c1 :: bt) "StepHeapModel") (hw : rx_Wd D cs b k lim s A ρ H locs) {i : Int32} (hin : vp_in i 8) (hdg : decode cc pc = .ok (.iaload, 1)) (kk : W p l e R s m args below meth c H locs cells slots Q (F0 m (pc + 1) ls (.int (rReg ρ i.toNatClampNeg) :: rest))) : W p l e R s m args below meth c H locs cells slots Q (F0 m pc ls (.int i :: .ref (bReg b) :: rest)) := by
  obtain ⟨hx, hb, hml, hown, hts⟩ := S
  obtain ⟨hP, hD, hS, hK, -⟩ := hw
  exact va_iald (D := D) hx hb hK hP 8 3 rfl rfl hin hdg kk
theorem rx_stReg (S : CallFix p m c cc nL s args (c1 :: bt) "StepHeapModel") (hw : rx_Wd D cs b k lim s A ρ H locs) {i x : Int32} (hin : vp_in i 8) (hdg : decode cc pc = .ok (.iastore, 1)) (kk : ∀ (H1 : Heap) (locs1 : List Loc), rx_Wd D cs b k lim s A (vReg ρ (upd (rReg ρ) i.toNatClampNeg (x))) H1 locs1 → W p l e R s m args below meth c H1 locs1 cells slots Q (F0 m (pc + 1) ls rest)) : W p l e R s m args below meth c H locs cells slots Q (F0 m pc ls (.int x :: .int i :: .ref (bReg b) :: rest)) := by
  obtain ⟨hx, hb, hml, hown, hts⟩ := S
  obtain ⟨hP, hD, hS, hK, hA⟩ := hw
  refine va_iast (D := D) hx hb hK hP hD hS 8 3 rfl rfl hin hdg (fun H1 locs1 hP hD hS => ?_)
  exact kk H1 locs1 ⟨hP, hD, hS, hK, hA⟩
theorem rx_ldMark (S : CallFix p m c cc nL s args (c1 :: bt) "StepHeapModel") (hw : rx_Wd D cs b k lim s A ρ H locs) {i : Int32} (hin : vp_in i 120064) (hdg : decode cc pc = .ok (.baload, 1)) (kk : W p l e R s m args below meth c H locs cells slots Q (F0 m (pc + 1) ls (.int (rMark ρ i.toNatClampNeg) :: rest))) : W p l e R s m args below meth c H locs cells slots Q (F0 m pc ls (.int i :: .ref (bMark b) :: rest)) := by
  obtain ⟨hx, hb, hml, hown, hts⟩ := S
  obtain ⟨hP, hD, hS, hK, -⟩ := hw
  exact va_zald (D := D) hx hb hK hP 9 2 rfl rfl hin hdg kk
theorem rx_stMark (S : CallFix p m c cc nL s args (c1 :: bt) "StepHeapModel") (hw : rx_Wd D cs b k lim s A ρ H locs) {i x : Int32} (hin : vp_in i 120064) (hdg : decode cc pc = .ok (.bastore, 1)) (kk : ∀ (H1 : Heap) (locs1 : List Loc), rx_Wd D cs b k lim s A (vMark ρ (upd (rMark ρ) i.toNatClampNeg (vp_nar .boolean x))) H1 locs1 → W p l e R s m args below meth c H1 locs1 cells slots Q (F0 m (pc + 1) ls rest)) : W p l e R s m args below meth c H locs cells slots Q (F0 m pc ls (.int x :: .int i :: .ref (bMark b) :: rest)) := by
  obtain ⟨hx, hb, hml, hown, hts⟩ := S
  obtain ⟨hP, hD, hS, hK, hA⟩ := hw
  refine va_zast (D := D) hx hb hK hP hD hS 9 2 rfl rfl hin hdg (fun H1 locs1 hP hD hS => ?_)
  exact kk H1 locs1 ⟨hP, hD, hS, hK, hA⟩
theorem rx_ldPile (S : CallFix p m c cc nL s args (c1 :: bt) "StepHeapModel") (hw : rx_Wd D cs b k lim s A ρ H locs) {i : Int32} (hin : vp_in i 120064) (hdg : decode cc pc = .ok (.iaload, 1)) (kk : W p l e R s m args below meth c H locs cells slots Q (F0 m (pc + 1) ls (.int (rPile ρ i.toNatClampNeg) :: rest))) : W p l e R s m args below meth c H locs cells slots Q (F0 m pc ls (.int i :: .ref (bPile b) :: rest)) := by
  obtain ⟨hx, hb, hml, hown, hts⟩ := S
  obtain ⟨hP, hD, hS, hK, -⟩ := hw
  exact va_iald (D := D) hx hb hK hP 10 3 rfl rfl hin hdg kk
theorem rx_stPile (S : CallFix p m c cc nL s args (c1 :: bt) "StepHeapModel") (hw : rx_Wd D cs b k lim s A ρ H locs) {i x : Int32} (hin : vp_in i 120064) (hdg : decode cc pc = .ok (.iastore, 1)) (kk : ∀ (H1 : Heap) (locs1 : List Loc), rx_Wd D cs b k lim s A (vPile ρ (upd (rPile ρ) i.toNatClampNeg (x))) H1 locs1 → W p l e R s m args below meth c H1 locs1 cells slots Q (F0 m (pc + 1) ls rest)) : W p l e R s m args below meth c H locs cells slots Q (F0 m pc ls (.int x :: .int i :: .ref (bPile b) :: rest)) := by
  obtain ⟨hx, hb, hml, hown, hts⟩ := S
  obtain ⟨hP, hD, hS, hK, hA⟩ := hw
  refine va_iast (D := D) hx hb hK hP hD hS 10 3 rfl rfl hin hdg (fun H1 locs1 hP hD hS => ?_)
  exact kk H1 locs1 ⟨hP, hD, hS, hK, hA⟩
theorem rx_call (S : CallFix p m c cc nL s args (c1 :: bt) "StepHeapModel") (hw : rx_Wd D cs b k lim s A ρ H locs) {y : MethodName} {bc : ByteArray} {maxL fr lc n index : Nat} {ret : Option FieldType} {As : List Value} {r : Option Value} (hM : rx_Met l D cs b k lim y bc maxL ret fr lc (.ref (bO b) :: As) ρ r ρ') (h1 : Cond.code y bc maxL ret ∈ bt) (h2 : Cond.methodLink "StepHeapModel" index y ∈ bt) (h3 : Cond.instanceMethod y ∈ bt) (h4 : Cond.selects "StepHeapModel" y y ∈ bt) (h5 : Cond.initialized "StepHeapModel" ∈ bt)
    (hd : y.cls = "StepHeapModel" ∧ y.cls ≠ "java/lang/invoke/MethodHandle" ∧ y.cls ≠ "java/lang/invoke/VarHandle" ∧ (parseMethodDescriptor y.desc).map (fun d => d.parameters.length) = some n) (hn : As.length = n) (hR : fr + 1 ≤ R.frames ∧ 8 + (maxL + 11) + lc ≤ R.locals) (hsize : ls.size = nL) (hst : st0 = As.reverse ++ .ref (bO b) :: rest) (hr : (rest.map fun v => v.category).sum ≤ 8) (hdg : decode cc pc = .ok (.invokevirtual index, 3))
    (kk : ∀ (H1 : Heap) (locs1 : List Loc), rx_Wd D cs b k lim s A ρ' H1 locs1 → W p l e R s m args below meth c H1 locs1 0 0 Q (F0 m (pc + 3) ls (r.toList ++ rest))) : W p l e R s m args below meth c H locs 0 0 Q (F0 m pc ls st0) := by
  obtain ⟨hP, hD, hS, hK, hA⟩ := hw
  have hts := S.2.2.2.2
  have hFc : ∀ q, va_A (rx_w cs b k lim ρ) H.size q → A q := by
    intro q h
    rcases h with ⟨j, e, h⟩ | h
    · exact hD.2 j (q, e) h
    · exact hA q (Nat.le_trans hS.1 h)
  refine sx_call (va_runV (As := As) (rest := rest) S (hM H.size) (cwV n hts (bt_V h1 h2 h3 h4 h5) rfl rfl rfl hd hR)
    ⟨rx_Pre.blind, va_recv hK hP (ci := 4) (q0 := 0) rfl rfl, fun U hU hW => ⟨rfl, by rw [hU], by rw [hU]; exact hP, hD.weaken (fun _ _ _ _ => trivial), va_K.moved hW.alike hK⟩⟩ rfl hn hsize hst (lv_room hr) hdg ⟨Nat.zero_le _, Nat.zero_le _⟩) hS (fun q _ h => hFc q h) hFc (fun t H1 locs1 ht hvm hB hz hk1 hS1 => ?_)
  obtain ⟨hP1, hD1⟩ := hB
  rw [ht] at hP1
  exact kk H1 locs1 ⟨hP1, hD1.weaken (fun j q _ h => hFc q.1 h), hS1, hK, hA⟩
theorem rx_rd (S : CallFix p m c cc nL s args (c1 :: bt) "StepHeapModel") (hw : rx_Wd D cs b k lim s A ρ H locs) {y : MethodName} {bc : ByteArray} {maxL fr lc n index : Nat} {ret : Option FieldType} {As : List Value} {r : Int32} (hM : rx_Rd l D cs b k lim y bc maxL ret fr lc (.ref (bO b) :: As) ρ r) (h1 : Cond.code y bc maxL ret ∈ bt) (h2 : Cond.methodLink "StepHeapModel" index y ∈ bt) (h3 : Cond.instanceMethod y ∈ bt) (h4 : Cond.selects "StepHeapModel" y y ∈ bt) (h5 : Cond.initialized "StepHeapModel" ∈ bt)
    (hd : y.cls = "StepHeapModel" ∧ y.cls ≠ "java/lang/invoke/MethodHandle" ∧ y.cls ≠ "java/lang/invoke/VarHandle" ∧ (parseMethodDescriptor y.desc).map (fun d => d.parameters.length) = some n) (hn : As.length = n) (hR : fr + 1 ≤ R.frames ∧ 8 + (maxL + 11) + lc ≤ R.locals) (hsize : ls.size = nL) (hst : st0 = As.reverse ++ .ref (bO b) :: rest) (hr : (rest.map fun v => v.category).sum ≤ 8) (hdg : decode cc pc = .ok (.invokevirtual index, 3))
    (kk : W p l e R s m args below meth c H locs 0 0 Q (F0 m (pc + 3) ls (.int r :: rest))) : W p l e R s m args below meth c H locs 0 0 Q (F0 m pc ls st0) := by
  obtain ⟨hP, hD, hS, hK, hA⟩ := hw
  have hts := S.2.2.2.2
  exact W.callR (W.runV (As := As) (rest := rest) S (hM H.size) (cwV n hts (bt_V h1 h2 h3 h4 h5) rfl rfl rfl hd hR)
    ⟨rx_Pre.blind, va_recv hK hP (ci := 4) (q0 := 0) rfl rfl, fun U hU hW => ⟨rfl, by rw [hU], by rw [hU]; exact hP, hD.weaken (fun _ _ _ _ => trivial), va_K.moved hW.alike hK⟩⟩ rfl hn hsize hst (lv_room hr) hdg ⟨Nat.zero_le _, Nat.zero_le _⟩) kk
end RXR
section RXS
variable {l : Launch} {D : va_G} {cs : rx_c} {b : rx_a} {k lim : Int32} {ρ ρ' : rm_S} {y : MethodName} {bc : ByteArray} {maxL fr lc : Nat} {ret : Option FieldType} {av : List Value}
theorem rx_start {r : Option Value} (hy : plainName y.cls = true) (hlen : (lg_sl av).length ≤ maxL)
    (body : ∀ (p : Program) (e : Env) (R : Room) (s : State) (m : MethodId) (args : Array Value) (below : List Frame) (meth : Method) (c : Code) (A : Nat → Prop) (ls : Array Slot), CallFix p m c bc maxL s args (.code y bc maxL ret :: bt) y.cls → meth.sig.returnType = ret → meth.locks = false → R.frames = fr → R.locals = lc → rx_Wd D cs b k lim s A ρ s.heap [] → lv_has ls maxL (lv_args 0 av) →
      W p l e R s m args below meth c s.heap [] 0 0 (MQ below (sx_Q r (fun t => va_P D vwC (rx_w cs b k lim ρ') t.heap ∧ va_D A (rx_w cs b k lim ρ')) A 0 0) args s 0 0 A) (F0 m 0 ls [])) :
    rx_Met l D cs b k lim y bc maxL ret fr lc av ρ r ρ' := by
  intro sz
  refine Met.ofW (cc := bc) (maxL := maxL) (ret := ret) hy rfl ?_
  intro p e s m args below meth c s₁ B hml hv
  obtain ⟨rfl, hsz, hP, hD0, hK⟩ := hv
  have hts := atoms_spec (ws := .code y bc maxL ret :: bt) B.pre
  subst hsz
  have hD := hD0.self (sz := s.heap.size)
  have hl := lv_entry av (n := maxL) hlen
  rw [lg_entry_eq]
  exact body p e _ s m _ below meth c _ _ ⟨B.exec, B.bytes, hml, findClass_of_methodNamed B.named, hts⟩ B.returns B.notSynchronized rfl rfl ⟨hP, hD, va_S.rf, hK, fun q h => Or.inr h⟩ hl
theorem rx_startR {r : Int32} (hy : plainName y.cls = true) (hlen : (lg_sl av).length ≤ maxL)
    (body : ∀ (p : Program) (e : Env) (R : Room) (s : State) (m : MethodId) (args : Array Value) (below : List Frame) (meth : Method) (c : Code) (A : Nat → Prop) (ls : Array Slot), CallFix p m c bc maxL s args (.code y bc maxL ret :: bt) y.cls → meth.sig.returnType = ret → meth.locks = false → R.frames = fr → R.locals = lc → rx_Wd D cs b k lim s A ρ s.heap [] → lv_has ls maxL (lv_args 0 av) →
      W p l e R s m args below meth c s.heap [] 0 0 (MQ below (QcRead r) args s 0 0 (fun _ => False)) (F0 m 0 ls [])) :
    rx_Rd l D cs b k lim y bc maxL ret fr lc av ρ r := by
  intro sz
  refine Met.ofW (cc := bc) (maxL := maxL) (ret := ret) hy rfl ?_
  intro p e s m args below meth c s₁ B hml hv
  obtain ⟨rfl, hsz, hP, hD0, hK⟩ := hv
  have hts := atoms_spec (ws := .code y bc maxL ret :: bt) B.pre
  subst hsz
  have hD := hD0.self (sz := s.heap.size)
  have hl := lv_entry av (n := maxL) hlen
  rw [lg_entry_eq]
  exact body p e _ s m _ below meth c _ _ ⟨B.exec, B.bytes, hml, findClass_of_methodNamed B.named, hts⟩ B.returns B.notSynchronized rfl rfl ⟨hP, hD, va_S.rf, hK, fun q h => Or.inr h⟩ hl
end RXS
section RXE
variable {p : Program} {l : Launch} {e : Env} {R : Room} {s : State} {m : MethodId} {args : Array Value} {below : List Frame} {meth : Method} {c : Code} {H : Heap} {locs : List Loc} {D : va_G} {cs : rx_c} {b : rx_a} {k lim : Int32} {nL : Nat} {A : Nat → Prop} {ρ ρ' : rm_S} {cc : ByteArray} {pc : Nat} {ls : Array Slot} {c1 : Cond} {own : String}
theorem rx_retI {v : Int32} {r : Option Value} (S : CallFix p m c cc nL s args (c1 :: bt) own) (hr : meth.sig.returnType = some .int) (hlk : meth.locks = false) (hw : rx_Wd D cs b k lim s A ρ H locs) (hv : r = some (.int v)) (hs : ρ' = ρ) (hdg : decode cc pc = .ok (.ireturn, 1)) :
    W p l e R s m args below meth c H locs 0 0 (MQ below (sx_Q r (fun t => va_P D vwC (rx_w cs b k lim ρ') t.heap ∧ va_D A (rx_w cs b k lim ρ')) A 0 0) args s 0 0 A) (F0 m pc ls [.int v]) := by
  subst hs; subst hv
  obtain ⟨hP, hD, hS, -⟩ := hw
  exact sx_end (Nat.le_refl _) (Nat.le_refl _) (W.iret S.1 S.2.1 hr (fun t ht hW => ⟨rfl, ⟨by rw [ht]; exact hP, hD⟩, hS.F ht⟩) hS.2.2 hdg hlk)
theorem rx_retZ {v : Int32} {r : Option Value} (S : CallFix p m c cc nL s args (c1 :: bt) own) (hr : meth.sig.returnType = some .boolean) (hlk : meth.locks = false) (hw : rx_Wd D cs b k lim s A ρ H locs) (hv : r = some (.int v)) (hz : v = 0 ∨ v = 1) (hs : ρ' = ρ) (hdg : decode cc pc = .ok (.ireturn, 1)) :
    W p l e R s m args below meth c H locs 0 0 (MQ below (sx_Q r (fun t => va_P D vwC (rx_w cs b k lim ρ') t.heap ∧ va_D A (rx_w cs b k lim ρ')) A 0 0) args s 0 0 A) (F0 m pc ls [.int v]) := by
  subst hs; subst hv
  obtain ⟨hP, hD, hS, -⟩ := hw
  exact sx_end (Nat.le_refl _) (Nat.le_refl _) (W.zret S.1 S.2.1 hr (by rcases hz with rfl | rfl <;> rfl) (fun t ht hW => ⟨rfl, ⟨by rw [ht]; exact hP, hD⟩, hS.F ht⟩) hS.2.2 hdg hlk)
theorem rx_retL {v : Int64} {r : Option Value} (S : CallFix p m c cc nL s args (c1 :: bt) own) (hr : meth.sig.returnType = some .long) (hlk : meth.locks = false) (hw : rx_Wd D cs b k lim s A ρ H locs) (hv : r = some (.long v)) (hs : ρ' = ρ) (hdg : decode cc pc = .ok (.lreturn, 1)) :
    W p l e R s m args below meth c H locs 0 0 (MQ below (sx_Q r (fun t => va_P D vwC (rx_w cs b k lim ρ') t.heap ∧ va_D A (rx_w cs b k lim ρ')) A 0 0) args s 0 0 A) (F0 m pc ls [.long v]) := by
  subst hs; subst hv
  obtain ⟨hP, hD, hS, -⟩ := hw
  exact sx_end (Nat.le_refl _) (Nat.le_refl _) (W.lret S.1 S.2.1 hr (fun t ht hW => ⟨rfl, ⟨by rw [ht]; exact hP, hD⟩, hS.F ht⟩) hS.2.2 hdg hlk)
theorem rx_retV {r : Option Value} (S : CallFix p m c cc nL s args (c1 :: bt) own) (hr : meth.sig.returnType = none) (hlk : meth.locks = false) (hw : rx_Wd D cs b k lim s A ρ H locs) (hv : r = none) (hs : ρ' = ρ) (hdg : decode cc pc = .ok (.return_, 1)) :
    W p l e R s m args below meth c H locs 0 0 (MQ below (sx_Q r (fun t => va_P D vwC (rx_w cs b k lim ρ') t.heap ∧ va_D A (rx_w cs b k lim ρ')) A 0 0) args s 0 0 A) (F0 m pc ls []) := by
  subst hs; subst hv
  obtain ⟨hP, hD, hS, -⟩ := hw
  exact sx_end (Nat.le_refl _) (Nat.le_refl _) (W.vret S.1 S.2.1 hr (fun t ht hW => ⟨rfl, ⟨by rw [ht]; exact hP, hD⟩, hS.F ht⟩) hS.2.2 hdg hlk)
end RXE
