/-! ===== CALLS OF THE CLASS'S OWN METHODS; a method's start and end ===== -/
section CXC
variable {p : Program} {l : Launch} {e : Env} {R : Room} {s : State} {m : MethodId} {args : Array Value} {below : List Frame} {meth : Method} {c : Code} {H : Heap} {locs : List Loc} {Q : State → Prop} {D : va_G} {cI cP : ClassId} {a : cx_a} {κ : sh_K} {np n0 nL : Nat} {A : Nat → Prop} {σ : sh_S} {cc : ByteArray} {pc cells slots : Nat} {ls : Array Slot} {rest st0 : List Value} {c1 : Cond} {own : String}
theorem cx_Wd.free {Lp : List (Nat × Nat × Nat)} {H0 : Heap} (hD : va_D A (cx_w cI cP a κ np σ Lp)) (hS : va_S A H0 H locs) (hA : ∀ q, H0.size ≤ q → A q) : ∀ q, va_A (cx_w cI cP a κ np σ Lp) H.size q → A q := by
  intro q h
  rcases h with ⟨k, e, h⟩ | h
  · exact hD.2 k (q, e) h
  · exact hA q (Nat.le_trans hS.1 h)
theorem cx_Wd.fit (h : cx_Wd D cI cP a κ np s A n0 σ H locs) (hb : 2 * (np - n0) ≤ R.cells ∧ 1025 * (np - n0) ≤ R.slots) : 2 * (nal σ - n0) ≤ R.cells ∧ 1025 * (nal σ - n0) ≤ R.slots := by
  have := h.le
  omega
theorem cx_call (S : CallFix p m c cc nL s args (c1 :: bt) own) (hw : cx_Wd D cI cP a κ np s A n0 σ H locs) (hbud : 2 * (np - n0) ≤ R.cells ∧ 1025 * (np - n0) ≤ R.slots)
    {y : MethodName} {b : ByteArray} {maxL fr lc n index q0 ci ao : Nat} {ret : Option FieldType} {As fs : List Value} {r : Option Value} {σ' : sh_S} {q : vw_C} (hM : cx_Met l D cI cP a κ np y b maxL ret fr lc (.ref ao :: As) σ r σ')
    (he : ∀ Lp, (cx_w cI cP a κ np σ Lp)[q0]? = some (ao, .inr (ci, fs))) (hc : vwC[ci]? = some q) (h1 : Cond.code y b maxL ret ∈ bt) (h2 : Cond.methodLink own index y ∈ bt) (h3 : Cond.instanceMethod y ∈ bt) (h4 : Cond.selects q.1 y y ∈ bt) (h5 : Cond.initialized q.1 ∈ bt)
    (hd : y.cls = q.1 ∧ y.cls ≠ "java/lang/invoke/MethodHandle" ∧ y.cls ≠ "java/lang/invoke/VarHandle" ∧ (parseMethodDescriptor y.desc).map (fun d => d.parameters.length) = some n) (hn : As.length = n) (hR : fr + 1 ≤ R.frames ∧ 8 + (maxL + 11) + lc ≤ R.locals) (hsize : ls.size = nL) (hst : st0 = As.reverse ++ .ref ao :: rest) (hr : (rest.map fun v => v.category).sum ≤ 8) (hdg : decode cc pc = .ok (.invokevirtual index, 3))
    (kk : ∀ (H1 : Heap) (locs1 : List Loc), cx_Wd D cI cP a κ np s A n0 σ' H1 locs1 → W p l e R s m args below meth c H1 locs1 (2 * (nal σ' - n0)) (1025 * (nal σ' - n0)) Q (F0 m (pc + 3) ls (r.toList ++ rest))) : W p l e R s m args below meth c H locs (2 * (nal σ - n0)) (1025 * (nal σ - n0)) Q (F0 m pc ls st0) := by
  have hle := hw.le
  obtain ⟨⟨Lp, hok, hP, hD⟩, hS, hK, hnx, h0, hA⟩ := hw
  have hts := S.2.2.2.2
  have hFc := cx_Wd.free hD hS hA
  have hm := hM.1
  refine sx_call (va_runV (As := As) (rest := rest) S (hM.2 Lp H.size (R.cells - 2 * (nal σ - n0)) (R.slots - 1025 * (nal σ - n0)) (by omega) (by omega)) (cwV n hts (bt_V h1 h2 h3 h4 h5) rfl rfl rfl hd hR)
    ⟨cx_Pre.blind, va_recv hK hP hc (he Lp), fun U hU hW => ⟨rfl, by rw [hU], ⟨hok, by rw [hU]; exact hP, hD.weaken (fun _ _ _ _ => trivial)⟩, va_K.moved hW.alike hK, nx.warm hW hnx⟩⟩ rfl hn hsize hst (lv_room hr) hdg ⟨by omega, by omega⟩) hS (fun q _ h => hFc q h) hFc (fun t H1 locs1 ht hvm hB hz hk1 hS1 => ?_)
  obtain ⟨Lp', hB1, hP1, hD1⟩ := hB
  rw [ht] at hP1
  exact W.cs (by omega) (by omega) (kk H1 locs1 ⟨⟨Lp', hB1, hP1, hD1.weaken (fun k q _ h => hFc q.1 h)⟩, hS1, hK, hnx, by omega, hA⟩)
theorem cx_rd (S : CallFix p m c cc nL s args (c1 :: bt) own) (hw : cx_Wd D cI cP a κ np s A n0 σ H locs) (hf : cells ≤ R.cells ∧ slots ≤ R.slots)
    {y : MethodName} {b : ByteArray} {maxL fr lc n index q0 ci ao : Nat} {ret : Option FieldType} {As fs : List Value} {r : Int32} {q : vw_C} (hM : cx_Rd l D cI cP a κ np y b maxL ret fr lc (.ref ao :: As) σ r)
    (he : ∀ Lp, (cx_w cI cP a κ np σ Lp)[q0]? = some (ao, .inr (ci, fs))) (hc : vwC[ci]? = some q) (h1 : Cond.code y b maxL ret ∈ bt) (h2 : Cond.methodLink own index y ∈ bt) (h3 : Cond.instanceMethod y ∈ bt) (h4 : Cond.selects q.1 y y ∈ bt) (h5 : Cond.initialized q.1 ∈ bt)
    (hd : y.cls = q.1 ∧ y.cls ≠ "java/lang/invoke/MethodHandle" ∧ y.cls ≠ "java/lang/invoke/VarHandle" ∧ (parseMethodDescriptor y.desc).map (fun d => d.parameters.length) = some n) (hn : As.length = n) (hR : fr + 1 ≤ R.frames ∧ 8 + (maxL + 11) + lc ≤ R.locals) (hsize : ls.size = nL) (hst : st0 = As.reverse ++ .ref ao :: rest) (hr : (rest.map fun v => v.category).sum ≤ 8) (hdg : decode cc pc = .ok (.invokevirtual index, 3))
    (kk : W p l e R s m args below meth c H locs cells slots Q (F0 m (pc + 3) ls (.int r :: rest))) : W p l e R s m args below meth c H locs cells slots Q (F0 m pc ls st0) := by
  obtain ⟨⟨Lp, hok, hP, hD⟩, hS, hK, hnx, h0, hA⟩ := hw
  have hts := S.2.2.2.2
  exact W.callR (W.runV (As := As) (rest := rest) S (hM Lp H.size) (cwV n hts (bt_V h1 h2 h3 h4 h5) rfl rfl rfl hd hR)
    ⟨cx_Pre.blind, va_recv hK hP hc (he Lp), fun U hU hW => ⟨rfl, by rw [hU], ⟨hok, by rw [hU]; exact hP, hD.weaken (fun _ _ _ _ => trivial)⟩, va_K.moved hW.alike hK, nx.warm hW hnx⟩⟩ rfl hn hsize hst (lv_room hr) hdg ⟨hf.1, hf.2⟩) kk
/-- a private static function of a nest mate -/
theorem cx_fnN (S : CallFix p m c cc nL s args (c1 :: bt) own) (hnx : nx s) {y : MethodName} {b : ByteArray} {maxL fr lc n index : Nat} {ret : Option FieldType} {As : List Value} {r : Int32} (hM : cx_Fn l y b maxL ret fr lc As r) (h1 : Cond.code y b maxL ret ∈ bt) (h2 : Cond.methodLinkNest own index y "StepHeap" ∈ nx_w) (h3 : Cond.static y ∈ bt) (h4 : Cond.initialized y.cls ∈ bt)
    (hd : y.cls ≠ "java/lang/invoke/MethodHandle" ∧ y.cls ≠ "java/lang/invoke/VarHandle" ∧ (parseMethodDescriptor y.desc).map (fun d => d.parameters.length) = some n) (hn : As.length = n) (hR : fr + 1 ≤ R.frames ∧ 8 + (maxL + 11) + lc ≤ R.locals) (hsize : ls.size = nL) (hst : st0 = As.reverse ++ rest) (hr : (rest.map fun v => v.category).sum ≤ 8) (hdg : decode cc pc = .ok (.invokestatic index, 3)) (hf : cells ≤ R.cells ∧ slots ≤ R.slots)
    (kk : W p l e R s m args below meth c H locs cells slots Q (F0 m (pc + 3) ls (.int r :: rest))) : W p l e R s m args below meth c H locs cells slots Q (F0 m pc ls st0) := by
  have hts := S.2.2.2.2
  have up := fun {w : Cond} (h : w ∈ bt) => hts w (List.mem_cons_of_mem _ h)
  refine W.callR (va_Run.run (va_runSN (As := As) (rest := rest) S hM ⟨va_cnB (ws' := bt) n hts (bt_gi h1) rfl rfl rfl (hnx _ h2) (up h4) hd hR, up h3, trivial⟩ ⟨fun v U g mk q => q, fun U hU hW => ⟨rfl, trivial⟩⟩ rfl hn hsize hst (lv_room hr) hdg ⟨hf.1, hf.2⟩)) kk
end CXC
section CXS
variable {l : Launch} {D : va_G} {cI cP : ClassId} {a : cx_a} {κ : sh_K} {np : Nat} {σ σ' : sh_S} {y : MethodName} {b : ByteArray} {maxL fr lc : Nat} {ret : Option FieldType} {av : List Value}
/-- a method's start -/
theorem cx_start {r : Option Value} (hy : plainName y.cls = true) (hlen : (lg_sl av).length ≤ maxL) (hle : nal σ ≤ nal σ')
    (body : ∀ (p : Program) (e : Env) (R : Room) (s : State) (m : MethodId) (args : Array Value) (below : List Frame) (meth : Method) (c : Code) (A : Nat → Prop) (ls : Array Slot), CallFix p m c b maxL s args (.code y b maxL ret :: bt) y.cls → meth.sig.returnType = ret → meth.locks = false → R.frames = fr → R.locals = lc → cx_Wd D cI cP a κ np s A (nal σ) σ s.heap [] → (2 * (np - nal σ) ≤ R.cells ∧ 1025 * (np - nal σ) ≤ R.slots) → lv_has ls maxL (lv_args 0 av) →
      W p l e R s m args below meth c s.heap [] (2 * (nal σ - nal σ)) (1025 * (nal σ - nal σ)) (MQ below (sx_Q r (fun t => ∃ Lp', cx_St D cI cP a κ np σ' Lp' A t.heap) A (2 * (nal σ' - nal σ)) (1025 * (nal σ' - nal σ))) args s R.cells R.slots A) (F0 m 0 ls [])) :
    cx_Met l D cI cP a κ np y b maxL ret fr lc av σ r σ' := by
  refine ⟨hle, fun Lp sz bc bs h1 h2 => ?_⟩
  refine Met.ofW (cc := b) (maxL := maxL) (ret := ret) hy rfl ?_
  intro p e s m args below meth c s₁ B hml hv
  obtain ⟨rfl, hsz, ⟨hok, hP, hD0⟩, hK, hnx⟩ := hv
  have hts := atoms_spec (ws := .code y b maxL ret :: bt) B.pre
  subst hsz
  have hD := hD0.self (sz := s.heap.size)
  have hl := lv_entry av (n := maxL) hlen
  rw [lg_entry_eq]
  refine W.cs (by omega) (by omega) (body p e _ s m _ below meth c _ _ ⟨B.exec, B.bytes, hml, findClass_of_methodNamed B.named, hts⟩ B.returns B.notSynchronized rfl rfl ⟨⟨Lp, hok, hP, hD⟩, va_S.rf, hK, hnx, Nat.le_refl _, fun q h => Or.inr h⟩ ⟨h1, h2⟩ hl)
theorem cx_startR {r : Int32} (hy : plainName y.cls = true) (hlen : (lg_sl av).length ≤ maxL)
    (body : ∀ (p : Program) (e : Env) (R : Room) (s : State) (m : MethodId) (args : Array Value) (below : List Frame) (meth : Method) (c : Code) (A : Nat → Prop) (ls : Array Slot), CallFix p m c b maxL s args (.code y b maxL ret :: bt) y.cls → meth.sig.returnType = ret → meth.locks = false → R.frames = fr → R.locals = lc → cx_Wd D cI cP a κ np s A (nal σ) σ s.heap [] → lv_has ls maxL (lv_args 0 av) →
      W p l e R s m args below meth c s.heap [] 0 0 (MQ below (QcRead r) args s 0 0 (fun _ => False)) (F0 m 0 ls [])) :
    cx_Rd l D cI cP a κ np y b maxL ret fr lc av σ r := by
  intro Lp sz
  refine Met.ofW (cc := b) (maxL := maxL) (ret := ret) hy rfl ?_
  intro p e s m args below meth c s₁ B hml hv
  obtain ⟨rfl, hsz, ⟨hok, hP, hD0⟩, hK, hnx⟩ := hv
  have hts := atoms_spec (ws := .code y b maxL ret :: bt) B.pre
  subst hsz
  have hD := hD0.self (sz := s.heap.size)
  have hl := lv_entry av (n := maxL) hlen
  rw [lg_entry_eq]
  exact body p e _ s m _ below meth c _ _ ⟨B.exec, B.bytes, hml, findClass_of_methodNamed B.named, hts⟩ B.returns B.notSynchronized rfl rfl ⟨⟨Lp, hok, hP, hD⟩, va_S.rf, hK, hnx, Nat.le_refl _, fun q h => Or.inr h⟩ hl
theorem cx_startF {r : Int32} (hy : plainName y.cls = true) (hlen : (lg_sl av).length ≤ maxL)
    (body : ∀ (p : Program) (e : Env) (R : Room) (s : State) (m : MethodId) (args : Array Value) (below : List Frame) (meth : Method) (c : Code) (ls : Array Slot), CallFix p m c b maxL s args (.code y b maxL ret :: bt) y.cls → meth.sig.returnType = ret → meth.locks = false → R.frames = fr → R.locals = lc → lv_has ls maxL (lv_args 0 av) →
      W p l e R s m args below meth c s.heap [] 0 0 (MQ below (QcRead r) args s 0 0 (fun _ => False)) (F0 m 0 ls [])) :
    cx_Fn l y b maxL ret fr lc av r := by
  refine Met.ofW (cc := b) (maxL := maxL) (ret := ret) hy rfl ?_
  intro p e s m args below meth c s₁ B hml hv
  obtain ⟨rfl, -⟩ := hv
  have hts := atoms_spec (ws := .code y b maxL ret :: bt) B.pre
  have hl := lv_entry av (n := maxL) hlen
  rw [lg_entry_eq]
  exact body p e _ s m _ below meth c _ ⟨B.exec, B.bytes, hml, findClass_of_methodNamed B.named, hts⟩ B.returns B.notSynchronized rfl rfl hl
end CXS
section CXE
variable {p : Program} {l : Launch} {e : Env} {R : Room} {s : State} {m : MethodId} {args : Array Value} {below : List Frame} {meth : Method} {c : Code} {H : Heap} {locs : List Loc} {D : va_G} {cI cP : ClassId} {a : cx_a} {κ : sh_K} {np n0 nL : Nat} {A : Nat → Prop} {σ σ' : sh_S} {cc : ByteArray} {pc : Nat} {ls : Array Slot} {c1 : Cond} {own : String}
theorem cx_retI {v : Int32} {r : Option Value} (S : CallFix p m c cc nL s args (c1 :: bt) own) (hr : meth.sig.returnType = some .int) (hlk : meth.locks = false) (hw : cx_Wd D cI cP a κ np s A n0 σ H locs) (hbud : 2 * (np - n0) ≤ R.cells ∧ 1025 * (np - n0) ≤ R.slots) (hv : r = some (.int v)) (hs : σ' = σ) (hdg : decode cc pc = .ok (.ireturn, 1)) :
    W p l e R s m args below meth c H locs (2 * (nal σ - n0)) (1025 * (nal σ - n0)) (MQ below (sx_Q r (fun t => ∃ Lp', cx_St D cI cP a κ np σ' Lp' A t.heap) A (2 * (nal σ' - n0)) (1025 * (nal σ' - n0))) args s R.cells R.slots A) (F0 m pc ls [.int v]) := by
  subst hs; subst hv
  have hf := hw.fit hbud
  obtain ⟨⟨Lp, h1⟩, hS, -⟩ := hw
  exact sx_end hf.1 hf.2 (W.iret S.1 S.2.1 hr (fun t ht hW => ⟨rfl, ⟨Lp, by rw [ht]; exact h1⟩, hS.F ht⟩) hS.2.2 hdg hlk)
theorem cx_retZ {v : Int32} {r : Option Value} (S : CallFix p m c cc nL s args (c1 :: bt) own) (hr : meth.sig.returnType = some .boolean) (hlk : meth.locks = false) (hw : cx_Wd D cI cP a κ np s A n0 σ H locs) (hbud : 2 * (np - n0) ≤ R.cells ∧ 1025 * (np - n0) ≤ R.slots) (hv : r = some (.int v)) (hz : v = 0 ∨ v = 1) (hs : σ' = σ) (hdg : decode cc pc = .ok (.ireturn, 1)) :
    W p l e R s m args below meth c H locs (2 * (nal σ - n0)) (1025 * (nal σ - n0)) (MQ below (sx_Q r (fun t => ∃ Lp', cx_St D cI cP a κ np σ' Lp' A t.heap) A (2 * (nal σ' - n0)) (1025 * (nal σ' - n0))) args s R.cells R.slots A) (F0 m pc ls [.int v]) := by
  subst hs; subst hv
  have hf := hw.fit hbud
  obtain ⟨⟨Lp, h1⟩, hS, -⟩ := hw
  exact sx_end hf.1 hf.2 (W.zret S.1 S.2.1 hr (by rcases hz with rfl | rfl <;> rfl) (fun t ht hW => ⟨rfl, ⟨Lp, by rw [ht]; exact h1⟩, hS.F ht⟩) hS.2.2 hdg hlk)
theorem cx_retL {v : Int64} {r : Option Value} (S : CallFix p m c cc nL s args (c1 :: bt) own) (hr : meth.sig.returnType = some .long) (hlk : meth.locks = false) (hw : cx_Wd D cI cP a κ np s A n0 σ H locs) (hbud : 2 * (np - n0) ≤ R.cells ∧ 1025 * (np - n0) ≤ R.slots) (hv : r = some (.long v)) (hs : σ' = σ) (hdg : decode cc pc = .ok (.lreturn, 1)) :
    W p l e R s m args below meth c H locs (2 * (nal σ - n0)) (1025 * (nal σ - n0)) (MQ below (sx_Q r (fun t => ∃ Lp', cx_St D cI cP a κ np σ' Lp' A t.heap) A (2 * (nal σ' - n0)) (1025 * (nal σ' - n0))) args s R.cells R.slots A) (F0 m pc ls [.long v]) := by
  subst hs; subst hv
  have hf := hw.fit hbud
  obtain ⟨⟨Lp, h1⟩, hS, -⟩ := hw
  exact sx_end hf.1 hf.2 (W.lret S.1 S.2.1 hr (fun t ht hW => ⟨rfl, ⟨Lp, by rw [ht]; exact h1⟩, hS.F ht⟩) hS.2.2 hdg hlk)
theorem cx_retV {r : Option Value} (S : CallFix p m c cc nL s args (c1 :: bt) own) (hr : meth.sig.returnType = none) (hlk : meth.locks = false) (hw : cx_Wd D cI cP a κ np s A n0 σ H locs) (hbud : 2 * (np - n0) ≤ R.cells ∧ 1025 * (np - n0) ≤ R.slots) (hv : r = none) (hs : σ' = σ) (hdg : decode cc pc = .ok (.return_, 1)) :
    W p l e R s m args below meth c H locs (2 * (nal σ - n0)) (1025 * (nal σ - n0)) (MQ below (sx_Q r (fun t => ∃ Lp', cx_St D cI cP a κ np σ' Lp' A t.heap) A (2 * (nal σ' - n0)) (1025 * (nal σ' - n0))) args s R.cells R.slots A) (F0 m pc ls []) := by
  subst hs; subst hv
  have hf := hw.fit hbud
  obtain ⟨⟨Lp, h1⟩, hS, -⟩ := hw
  exact sx_end hf.1 hf.2 (W.vret S.1 S.2.1 hr (fun t ht hW => ⟨rfl, ⟨Lp, by rw [ht]; exact h1⟩, hS.F ht⟩) hS.2.2 hdg hlk)
theorem cx_endI {v r : Int32} (S : CallFix p m c cc nL s args (c1 :: bt) own) (hr : meth.sig.returnType = some .int) (hlk : meth.locks = false) (hv : r = v) (hdg : decode cc pc = .ok (.ireturn, 1)) :
    W p l e R s m args below meth c s.heap [] 0 0 (MQ below (QcRead r) args s 0 0 (fun _ => False)) (F0 m pc ls [.int v]) := by
  subst hv
  exact W.iret S.1 S.2.1 hr (fun t ht hW => ⟨rfl, ht⟩) (fun _ h => absurd h List.not_mem_nil) hdg hlk
theorem cx_endZ {v r : Int32} (S : CallFix p m c cc nL s args (c1 :: bt) own) (hr : meth.sig.returnType = some .boolean) (hlk : meth.locks = false) (hv : r = v) (hz : v = 0 ∨ v = 1) (hdg : decode cc pc = .ok (.ireturn, 1)) :
    W p l e R s m args below meth c s.heap [] 0 0 (MQ below (QcRead r) args s 0 0 (fun _ => False)) (F0 m pc ls [.int v]) := by
  subst hv
  exact W.zret S.1 S.2.1 hr (by rcases hz with rfl | rfl <;> rfl) (fun t ht hW => ⟨rfl, ht⟩) (fun _ h => absurd h List.not_mem_nil) hdg hlk
end CXE
