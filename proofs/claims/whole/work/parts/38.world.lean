/-! ===== THE CLASS'S WORLD: the cells that hold a state. cx_a: where StepHeap, Cells, Mover, the registers and the pages' row stand ===== -/
abbrev nal (σ : sh_S) : Nat := (sPgs σ).length
abbrev cx_a : Type := Nat × Nat × Nat × Nat × Nat
abbrev aXX (a : cx_a) : Nat := a.1
abbrev aXC (a : cx_a) : Nat := a.2.1
abbrev aXM (a : cx_a) : Nat := a.2.2.1
abbrev aXR (a : cx_a) : Nat := a.2.2.2.1
abbrev aXP (a : cx_a) : Nat := a.2.2.2.2
/-- the words that a call does not keep by itself: private members of nest mates -/
def nx_w : List Cond := [.fieldLinkNest "StepHeap" 137 "StepHeap$Cells" "steady" "Z" "StepHeap", .fieldLinkNest "StepHeap" 30 "StepHeap$Mover" "cells" "LStepHeap$Cells;" "StepHeap", .fieldLinkNest "StepHeap" 134 "StepHeap$Mover" "limit" "I" "StepHeap", .fieldLinkNest "StepHeap" 131 "StepHeap$Mover" "made" "I" "StepHeap", .fieldLinkNest "StepHeap" 119 "StepHeap$Mover" "begun" "I" "StepHeap", .fieldLinkNest "StepHeap$Cells" 32 "StepHeap$Page" "row" "[I" "StepHeap", .methodLinkNest "StepHeap$Cells" 36 ⟨"StepHeap$Page", "<init>", "()V"⟩ "StepHeap", .methodLinkNest "StepHeap$Mover" 44 ⟨"StepHeap", "isRegister", "(I)Z"⟩ "StepHeap"]
def nx (U : State) : Prop := ∀ w ∈ nx_w, va_Nw w U
theorem nx.same {u U : State} (h : u.vm = U.vm) (hn : nx u) : nx U := by
  intro w hw
  refine va_Nw.same ?_ h (hn w hw)
  simp only [nx_w, List.mem_cons, List.not_mem_nil, or_false] at hw
  rcases hw with rfl | rfl | rfl | rfl | rfl | rfl | rfl | rfl <;> rfl
theorem nx.warm {s U : State} (hW : s.WarmedH U.vm) (hn : nx s) : nx U := by
  intro w hw
  have h := hn w hw
  simp only [nx_w, List.mem_cons, List.not_mem_nil, or_false] at hw
  rcases hw with rfl | rfl | rfl | rfl | rfl | rfl | rfl | rfl
  · exact va_Nw.warmF hW h
  · exact va_Nw.warmF hW h
  · exact va_Nw.warmF hW h
  · exact va_Nw.warmF hW h
  · exact va_Nw.warmF hW h
  · exact va_Nw.warmF hW h
  · exact va_Nw.warmM hW h
  · exact va_Nw.warmM hW h
def cx_pf (Lp : List (Nat × Nat × Nat)) (i : Nat) : Option Nat := (Lp.find? (fun t => t.1 == i)).map (fun t => t.2.1)
def cx_row (mem : Nat → Int32) (i : Nat) : Nat → Int32 := fun j => if j < 1024 then mem (i * 1024 + j) else 0
def cx_pl (cI : ClassId) (Lp : List (Nat × Nat × Nat)) (mem : Nat → Int32) : va_W := Lp.flatMap (fun t => [(t.2.1, .inr (3, [.ref t.2.2])), (t.2.2, .inl (cI, 1024, .inl (cx_row mem t.1)))])
abbrev cx_w (cI cP : ClassId) (a : cx_a) (κ : sh_K) (np : Nat) (σ : sh_S) (Lp : List (Nat × Nat × Nat)) : va_W :=
  (aXX a, .inr (0, [.ref (aXC a), .ref (aXM a)])) ::
  (aXC a, .inr (1, [.ref (aXP a), .int (kLast κ), .int (kAl κ), .int (sTou σ), .int (sSte σ)])) ::
  (aXM a, .inr (2, [.ref (aXC a), .int (kHalf κ), .int (kK κ), .int (kLim κ), .ref (aXR a), .int (sMade σ), .int (sBeg σ), .int (sBase σ), .int (sFree σ), .int (sLow σ), .int (sScan σ), .int (sTend σ), .int (sNh σ)])) ::
  (aXR a, .inl (cI, 8, .inl (sReg σ))) :: (aXP a, .inl (cP, np, .inr (.inr (.inr (.inr (cx_pf Lp)))))) :: cx_pl cI Lp (sMem σ)
def cx_ok (κ : sh_K) (np : Nat) (σ : sh_S) (Lp : List (Nat × Nat × Nat)) : Prop := Lp.map (fun t => t.1) = sPgs σ ∧ (sPgs σ).Nodup ∧ (∀ i, i ∈ sPgs σ → i < np) ∧ (∀ j, j / 1024 ∉ sPgs σ → sMem σ j = 0) ∧ (∃ la, kLast κ = nI la ∧ la < 2 ^ 30 ∧ np = la / 1024 + 1) ∧ (Lp.map (fun t => t.2.2)).Nodup
abbrev cx_tys (cI cP : ClassId) : List (ClassId × FieldType) := [(cI, .int), (cP, .object "StepHeap$Page")]
def cx_St (D : va_G) (cI cP : ClassId) (a : cx_a) (κ : sh_K) (np : Nat) (σ : sh_S) (Lp : List (Nat × Nat × Nat)) (A : Nat → Prop) (H : Heap) : Prop := cx_ok κ np σ Lp ∧ va_P D vwC (cx_w cI cP a κ np σ Lp) H ∧ va_D A (cx_w cI cP a κ np σ Lp)
def cx_Pre (D : va_G) (cI cP : ClassId) (a : cx_a) (κ : sh_K) (np : Nat) (σ : sh_S) (Lp : List (Nat × Nat × Nat)) (sz : Nat) (U : State) : Prop := U.heap.size = sz ∧ cx_St D cI cP a κ np σ Lp (fun _ => True) U.heap ∧ va_K D vwC (cx_tys cI cP) U ∧ nx U
theorem cx_Pre.blind {D : va_G} {cI cP : ClassId} {a : cx_a} {κ : sh_K} {np : Nat} {σ : sh_S} {Lp : List (Nat × Nat × Nat)} {sz : Nat} {av : List Value} : FrameBlind (va_Pc av (cx_Pre D cI cP a κ np σ Lp sz)) := by
  intro v U g mk h
  obtain ⟨h0, h1, h2, h3, h4⟩ := h
  exact ⟨h0, h1, h2, va_K.moved (u := U) (U := U.calling g mk v) (Vm.Alike.refl U.vm) h3, nx.same (u := U) rfl h4⟩
theorem cx_len {κ : sh_K} {np : Nat} {σ : sh_S} {Lp : List (Nat × Nat × Nat)} (h : cx_ok κ np σ Lp) : nal σ ≤ np := by
  obtain ⟨-, h1, h2, -⟩ := h
  have : ∀ (n : Nat) (l : List Nat), l.Nodup → (∀ i, i ∈ l → i < n) → l.length ≤ n := by
    intro n
    induction n with
    | zero =>
      intro l _ hl
      cases l with
      | nil => exact Nat.le_refl _
      | cons x l => exact absurd (hl x List.mem_cons_self) (Nat.not_lt_zero _)
    | succ n ih =>
      intro l hn hl
      by_cases hx : n ∈ l
      · obtain ⟨s, t, rfl⟩ := List.append_of_mem hx
        have hn' : (s ++ t).Nodup := by
          rw [List.nodup_append] at hn ⊢
          obtain ⟨p1, p2, p3⟩ := hn
          exact ⟨p1, (List.nodup_cons.mp p2).2, fun x hx y hy => p3 x hx y (List.mem_cons_of_mem _ hy)⟩
        have hnn : n ∉ s ++ t := by
          rw [List.nodup_append] at hn
          obtain ⟨p1, p2, p3⟩ := hn
          intro z
          rcases List.mem_append.mp z with z | z
          · exact p3 n z n List.mem_cons_self rfl
          · exact (List.nodup_cons.mp p2).1 z
        have := ih (s ++ t) hn' (fun i hi => by
          have h5 : i < n + 1 := hl i (by
            rcases List.mem_append.mp hi with z | z
            · exact List.mem_append_left _ z
            · exact List.mem_append_right _ (List.mem_cons_of_mem _ z))
          have h6 : i ≠ n := fun z => hnn (z ▸ hi)
          omega)
        simp only [List.length_append, List.length_cons] at this ⊢
        omega
      · have := ih l hn (fun i hi => by
          have h5 := hl i hi
          have h6 : i ≠ n := fun z => hx (z ▸ hi)
          omega)
        omega
  exact this np _ h1 h2
/-- a method of the class: from state σ it answers r and leaves σ', whatever the budget (its pages' worth at least) -/
def cx_Met (l : Launch) (D : va_G) (cI cP : ClassId) (a : cx_a) (κ : sh_K) (np : Nat) (y : MethodName) (b : ByteArray) (maxL : Nat) (ret : Option FieldType) (fr lc : Nat) (av : List Value) (σ : sh_S) (r : Option Value) (σ' : sh_S) : Prop :=
  nal σ ≤ nal σ' ∧ ∀ (Lp : List (Nat × Nat × Nat)) (sz bc bs : Nat), 2 * (np - nal σ) ≤ bc → 1025 * (np - nal σ) ≤ bs →
    Met l y (.code y b maxL ret :: bt) ({ frames := fr, cells := bc, slots := bs, locals := lc }) (va_Pc av (cx_Pre D cI cP a κ np σ Lp sz)) (sx_Q r (fun t => ∃ Lp', cx_St D cI cP a κ np σ' Lp' (va_A (cx_w cI cP a κ np σ Lp) sz) t.heap) (va_A (cx_w cI cP a κ np σ Lp) sz) (2 * (nal σ' - nal σ)) (1025 * (nal σ' - nal σ))) bc bs (va_A (cx_w cI cP a κ np σ Lp) sz)
/-- one that only looks -/
def cx_Rd (l : Launch) (D : va_G) (cI cP : ClassId) (a : cx_a) (κ : sh_K) (np : Nat) (y : MethodName) (b : ByteArray) (maxL : Nat) (ret : Option FieldType) (fr lc : Nat) (av : List Value) (σ : sh_S) (r : Int32) : Prop :=
  ∀ (Lp : List (Nat × Nat × Nat)) (sz : Nat), Met l y (.code y b maxL ret :: bt) ({ frames := fr, cells := 0, slots := 0, locals := lc }) (va_Pc av (cx_Pre D cI cP a κ np σ Lp sz)) (QcRead r) 0 0 (fun _ => False)
/-- a static function of ints -/
def cx_Fn (l : Launch) (y : MethodName) (b : ByteArray) (maxL : Nat) (ret : Option FieldType) (fr lc : Nat) (av : List Value) (r : Int32) : Prop :=
  Met l y (.code y b maxL ret :: bt) ({ frames := fr, cells := 0, slots := 0, locals := lc }) (va_Pc av (fun _ => True)) (QcRead r) 0 0 (fun _ => False)
/-- what a walk inside the class knows -/
def cx_Wd (D : va_G) (cI cP : ClassId) (a : cx_a) (κ : sh_K) (np : Nat) (s : State) (A : Nat → Prop) (n0 : Nat) (σ : sh_S) (H : Heap) (locs : List Loc) : Prop :=
  (∃ Lp, cx_St D cI cP a κ np σ Lp A H) ∧ va_S A s.heap H locs ∧ va_K D vwC (cx_tys cI cP) s ∧ nx s ∧ n0 ≤ nal σ ∧ (∀ q, s.heap.size ≤ q → A q)
section CXR
variable {p : Program} {l : Launch} {e : Env} {R : Room} {s : State} {m : MethodId} {args : Array Value} {below : List Frame} {meth : Method} {c : Code} {H : Heap} {locs : List Loc} {Q : State → Prop} {D : va_G} {cI cP : ClassId} {a : cx_a} {κ : sh_K} {np n0 nL : Nat} {A : Nat → Prop} {σ : sh_S} {cc : ByteArray} {pc cells slots : Nat} {ls : Array Slot} {rest st0 : List Value} {c1 : Cond} {own : String}
theorem cx_Wd.le (h : cx_Wd D cI cP a κ np s A n0 σ H locs) : nal σ ≤ np := by
  obtain ⟨⟨Lp, h1, -⟩, -⟩ := h
  exact cx_len h1
theorem cx_get (S : CallFix p m c cc nL s args (c1 :: bt) own) (hw : cx_Wd D cI cP a κ np s A n0 σ H locs) {q0 ci k index N ao : Nat} {C : String} {T : u_T} {fs : List Value} {v : Value} (he : ∀ Lp, (cx_w cI cP a κ np σ Lp)[q0]? = some (ao, .inr (ci, fs))) (hc : vwC[ci]? = some (C, T, N)) (hk : k < N) (hin : ∀ w ∈ u_ws C T N, w ∈ bt)
    (hlink : Cond.fieldLink own index C (T k).2.1 (T k).2.2.1 ∈ bt) (hsame : (T k).1 = C) (hv : fs[k]? = some v) (hdg : decode cc pc = .ok (.getfield index, 3)) (kk : W p l e R s m args below meth c H locs cells slots Q (F0 m (pc + 3) ls (v :: rest))) : W p l e R s m args below meth c H locs cells slots Q (F0 m pc ls (.ref ao :: rest)) := by
  obtain ⟨hx, hb, hml, hown, hts⟩ := S
  obtain ⟨⟨Lp, -, hP, hD⟩, hS, hK, -⟩ := hw
  exact va_get (D := D) (ci := ci) (v := v) (C := C) (T := T) (N := N) hx hb hts (fun w h => List.mem_cons_of_mem _ (hin w h)) hown hK hP q0 (he Lp) hc k hk (hts _ (List.mem_cons_of_mem _ hlink)) (fun _ h9 => by rw [← hsame]; exact h9) hv hdg kk
theorem cx_getN (S : CallFix p m c cc nL s args (c1 :: bt) own) (hw : cx_Wd D cI cP a κ np s A n0 σ H locs) {q0 ci k index N ao : Nat} {C : String} {T : u_T} {fs : List Value} {v : Value} (he : ∀ Lp, (cx_w cI cP a κ np σ Lp)[q0]? = some (ao, .inr (ci, fs))) (hc : vwC[ci]? = some (C, T, N)) (hk : k < N) (hin : ∀ w ∈ u_ws C T N, w ∈ bt)
    (hlink : Cond.fieldLinkNest own index C (T k).2.1 (T k).2.2.1 "StepHeap" ∈ nx_w) (hsame : (T k).1 = C) (hv : fs[k]? = some v) (hdg : decode cc pc = .ok (.getfield index, 3)) (kk : W p l e R s m args below meth c H locs cells slots Q (F0 m (pc + 3) ls (v :: rest))) : W p l e R s m args below meth c H locs cells slots Q (F0 m pc ls (.ref ao :: rest)) := by
  obtain ⟨hx, hb, hml, hown, hts⟩ := S
  obtain ⟨⟨Lp, -, hP, hD⟩, hS, hK, hn, -⟩ := hw
  exact va_getN (D := D) (ci := ci) (v := v) (C := C) (T := T) (N := N) hx hb hts (fun w h => List.mem_cons_of_mem _ (hin w h)) hown hK hP q0 (he Lp) hc k hk (va_Nw.use rfl (hn _ hlink)) (fun _ h9 => by rw [← hsame]; exact h9) hv hdg kk
theorem cx_put (S : CallFix p m c cc nL s args (c1 :: bt) own) (hw : cx_Wd D cI cP a κ np s A n0 σ H locs) {q0 ci k index N ao : Nat} {C : String} {T : u_T} {fs : List Value} {v : Value} {σ' : sh_S} {ty : FieldType} (he : ∀ Lp, (cx_w cI cP a κ np σ Lp)[q0]? = some (ao, .inr (ci, fs))) (hc : vwC[ci]? = some (C, T, N)) (hk : k < N) (hin : ∀ w ∈ u_ws C T N, w ∈ bt)
    (ty0 : Nat → FieldType) (hty : ∀ k, k < N → parseFieldDescriptor (T k).2.2.1 = some (ty0 k)) (hnm : ∀ a, a < N → ∀ b, b < N → a ≠ b → (T a).2.1 ≠ (T b).2.1) (hlink : Cond.fieldLink own index C (T k).2.1 (T k).2.2.1 ∈ bt) (hsame : (T k).1 = C) (hfin : (T k).2.2.2 = false) (hd : ty0 k = ty) (hn : narrow ty v = v) (hfit : fits ty v = true) (hl : k < fs.length)
    (hset : ∀ Lp, (cx_w cI cP a κ np σ Lp).set q0 (ao, .inr (ci, fs.set k v)) = cx_w cI cP a κ np σ' Lp) (e1 : sPgs σ' = sPgs σ) (e2 : sMem σ' = sMem σ) (hdg : decode cc pc = .ok (.putfield index, 3))
    (kk : ∀ (H1 : Heap) (locs1 : List Loc), cx_Wd D cI cP a κ np s A n0 σ' H1 locs1 → W p l e R s m args below meth c H1 locs1 cells slots Q (F0 m (pc + 3) ls rest)) : W p l e R s m args below meth c H locs cells slots Q (F0 m pc ls (v :: .ref ao :: rest)) := by
  obtain ⟨hx, hb, hml, hown, hts⟩ := S
  obtain ⟨⟨Lp, hok, hP, hD⟩, hS, hK, hrest⟩ := hw
  refine va_put (D := D) (ci := ci) (v := v) (ty := ty) (C := C) (T := T) (N := N) hx hb hts (fun w h => List.mem_cons_of_mem _ (hin w h)) ty0 hty hnm hown hK hP hD hS q0 (he Lp) hc k hk (hts _ (List.mem_cons_of_mem _ hlink)) (fun _ h9 => by rw [← hsame]; exact h9) hfin (by rw [hty k hk, hd]) hn hfit hl hdg (fun H1 locs1 hP hD hS => ?_)
  rw [hset Lp] at hP hD
  exact kk H1 locs1 ⟨⟨Lp, by unfold cx_ok at hok ⊢; rw [e1, e2]; exact hok, hP, hD⟩, hS, hK, by rw [show nal σ' = nal σ from congrArg List.length e1]; exact hrest⟩
theorem cx_rld (S : CallFix p m c cc nL s args (c1 :: bt) own) (hw : cx_Wd D cI cP a κ np s A n0 σ H locs) {i : Int32} (hin : vp_in i 8) (hdg : decode cc pc = .ok (.iaload, 1)) (kk : W p l e R s m args below meth c H locs cells slots Q (F0 m (pc + 1) ls (.int (sReg σ i.toNatClampNeg) :: rest))) : W p l e R s m args below meth c H locs cells slots Q (F0 m pc ls (.int i :: .ref (aXR a) :: rest)) := by
  obtain ⟨hx, hb, hml, hown, hts⟩ := S
  obtain ⟨⟨Lp, -, hP, hD⟩, hS, hK, -⟩ := hw
  exact va_iald (D := D) hx hb hK hP 3 0 rfl rfl hin hdg kk
theorem cx_rst (S : CallFix p m c cc nL s args (c1 :: bt) own) (hw : cx_Wd D cI cP a κ np s A n0 σ H locs) {i v : Int32} (hin : vp_in i 8) (hdg : decode cc pc = .ok (.iastore, 1)) (kk : ∀ (H1 : Heap) (locs1 : List Loc), cx_Wd D cI cP a κ np s A n0 (uReg σ (upd (sReg σ) i.toNatClampNeg v)) H1 locs1 → W p l e R s m args below meth c H1 locs1 cells slots Q (F0 m (pc + 1) ls rest)) : W p l e R s m args below meth c H locs cells slots Q (F0 m pc ls (.int v :: .int i :: .ref (aXR a) :: rest)) := by
  obtain ⟨hx, hb, hml, hown, hts⟩ := S
  obtain ⟨⟨Lp, hok, hP, hD⟩, hS, hK, hrest⟩ := hw
  refine va_iast (D := D) hx hb hK hP hD hS 3 0 rfl rfl hin hdg (fun H1 locs1 hP hD hS => ?_)
  exact kk H1 locs1 ⟨⟨Lp, hok, hP, hD⟩, hS, hK, hrest⟩
/-- a static function is called -/
theorem cx_fn (S : CallFix p m c cc nL s args (c1 :: bt) own) {y : MethodName} {b : ByteArray} {maxL fr lc n index : Nat} {ret : Option FieldType} {As : List Value} {r : Int32} (hM : cx_Fn l y b maxL ret fr lc As r) (h1 : Cond.code y b maxL ret ∈ bt) (h2 : Cond.methodLink own index y ∈ bt) (h3 : Cond.static y ∈ bt) (h4 : Cond.initialized y.cls ∈ bt)
    (hd : y.cls ≠ "java/lang/invoke/MethodHandle" ∧ y.cls ≠ "java/lang/invoke/VarHandle" ∧ (parseMethodDescriptor y.desc).map (fun d => d.parameters.length) = some n) (hn : As.length = n) (hR : fr + 1 ≤ R.frames ∧ 8 + (maxL + 11) + lc ≤ R.locals) (hsize : ls.size = nL) (hst : st0 = As.reverse ++ rest) (hr : (rest.map fun v => v.category).sum ≤ 8) (hdg : decode cc pc = .ok (.invokestatic index, 3)) (hf : cells ≤ R.cells ∧ slots ≤ R.slots)
    (kk : W p l e R s m args below meth c H locs cells slots Q (F0 m (pc + 3) ls (.int r :: rest))) : W p l e R s m args below meth c H locs cells slots Q (F0 m pc ls st0) := by
  have hts := S.2.2.2.2
  have up := fun {w : Cond} (h : w ∈ bt) => hts w (List.mem_cons_of_mem _ h)
  refine W.callR (W.runS (As := As) (rest := rest) S hM ⟨callB_of (ws' := bt) n hts (bt_gi h1) rfl rfl rfl (up h4) (up h2) hd hR, up h3⟩ ⟨fun v U g mk q => q, fun U hU hW => ⟨rfl, trivial⟩⟩ rfl hn hsize hst (lv_room hr) hdg ⟨hf.1, hf.2⟩) kk
end CXR
