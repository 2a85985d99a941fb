/-! ===== the law: calls that only look ===== -/
section LWR
variable {p : Program} {l : Launch} {e : Env} {R : Room} {s : State} {m : MethodId} {args : Array Value} {below : List Frame} {meth : Method} {c : Code} {H : Heap} {locs : List Loc} {Q : State → Prop} {D : va_G} {cI cP : ClassId} {a : cx_a} {κ : sh_K} {np n0 m0 nL : Nat} {cs : rx_c} {b : rx_a} {k lim : Int32} {A : Nat → Prop} {σ : sh_S} {ρ : rm_S} {cc : ByteArray} {pc : Nat} {ls : Array Slot} {rest st0 : List Value} {c1 : Cond} {own : String}
theorem lw_rdX (S : CallFix p m c cc nL s args (c1 :: bt) own) (hw : lw_Wd D cI cP a κ np cs b k lim s A σ ρ H locs) (hbud : n0 + 2 * np ≤ R.cells ∧ m0 + 1025 * np ≤ R.slots)
    {y : MethodName} {bc : ByteArray} {maxL fr lc n index : Nat} {ret : Option FieldType} {As : List Value} {r : Int32} (hM : cx_Rd l D cI cP a κ np y bc maxL ret fr lc (.ref (aXX a) :: As) σ r)
    (h1 : Cond.code y bc maxL ret ∈ bt) (h2 : Cond.methodLink own index y ∈ bt) (h3 : Cond.instanceMethod y ∈ bt) (h4 : Cond.selects "StepHeap" y y ∈ bt) (h5 : Cond.initialized "StepHeap" ∈ bt)
    (hd : y.cls = "StepHeap" ∧ y.cls ≠ "java/lang/invoke/MethodHandle" ∧ y.cls ≠ "java/lang/invoke/VarHandle" ∧ (parseMethodDescriptor y.desc).map (fun d => d.parameters.length) = some n) (hn : As.length = n) (hR : fr + 1 ≤ R.frames ∧ 8 + (maxL + 11) + lc ≤ R.locals) (hsize : ls.size = nL) (hst : st0 = As.reverse ++ .ref (aXX a) :: rest) (hr : (rest.map fun v => v.category).sum ≤ 8) (hdg : decode cc pc = .ok (.invokevirtual index, 3))
    (kk : W p l e R s m args below meth c H locs (n0 + 2 * nal σ) (m0 + 1025 * nal σ) Q (F0 m (pc + 3) ls (.int r :: rest))) : W p l e R s m args below meth c H locs (n0 + 2 * nal σ) (m0 + 1025 * nal σ) Q (F0 m pc ls st0) := by
  obtain ⟨⟨Lp, hok, hP, hD⟩, hS, hK, hK2, hnx, hA⟩ := hw
  have hle := cx_len hok
  have hts := S.2.2.2.2
  have hPl := lj_left hP
  have hDl := ld_left hD
  exact W.callR (W.runV (As := As) (rest := rest) S (hM Lp H.size) (cwV n hts (bt_V h1 h2 h3 h4 h5) rfl rfl rfl hd hR)
    ⟨cx_Pre.blind, va_recv hK hPl (ci := 0) (q0 := 0) rfl rfl, fun U hU hW => ⟨rfl, by rw [hU], ⟨hok, by rw [hU]; exact hPl, hDl.weaken (fun _ _ _ _ => trivial)⟩, va_K.moved hW.alike hK, nx.warm hW hnx⟩⟩ rfl hn hsize hst (lv_room hr) hdg ⟨by omega, by omega⟩) kk
theorem lw_rdR (S : CallFix p m c cc nL s args (c1 :: bt) own) (hw : lw_Wd D cI cP a κ np cs b k lim s A σ ρ H locs) (hbud : n0 + 2 * np ≤ R.cells ∧ m0 + 1025 * np ≤ R.slots)
    {y : MethodName} {bc : ByteArray} {maxL fr lc n index : Nat} {ret : Option FieldType} {As : List Value} {r : Int32} (hM : rx_Rd l D cs b k lim y bc maxL ret fr lc (.ref (bO b) :: As) ρ r)
    (h1 : Cond.code y bc maxL ret ∈ bt) (h2 : Cond.methodLink own index y ∈ bt) (h3 : Cond.instanceMethod y ∈ bt) (h4 : Cond.selects "StepHeapModel" y y ∈ bt) (h5 : Cond.initialized "StepHeapModel" ∈ bt)
    (hd : y.cls = "StepHeapModel" ∧ y.cls ≠ "java/lang/invoke/MethodHandle" ∧ y.cls ≠ "java/lang/invoke/VarHandle" ∧ (parseMethodDescriptor y.desc).map (fun d => d.parameters.length) = some n) (hn : As.length = n) (hR : fr + 1 ≤ R.frames ∧ 8 + (maxL + 11) + lc ≤ R.locals) (hsize : ls.size = nL) (hst : st0 = As.reverse ++ .ref (bO b) :: rest) (hr : (rest.map fun v => v.category).sum ≤ 8) (hdg : decode cc pc = .ok (.invokevirtual index, 3))
    (kk : W p l e R s m args below meth c H locs (n0 + 2 * nal σ) (m0 + 1025 * nal σ) Q (F0 m (pc + 3) ls (.int r :: rest))) : W p l e R s m args below meth c H locs (n0 + 2 * nal σ) (m0 + 1025 * nal σ) Q (F0 m pc ls st0) := by
  obtain ⟨⟨Lp, hok, hP, hD⟩, hS, hK, hK2, hnx, hA⟩ := hw
  have hle := cx_len hok
  have hts := S.2.2.2.2
  have hPr := lj_right hP
  have hDr := ld_right hD
  exact W.callR (W.runV (As := As) (rest := rest) S (hM H.size) (cwV n hts (bt_V h1 h2 h3 h4 h5) rfl rfl rfl hd hR)
    ⟨rx_Pre.blind, va_recv hK2 hPr (ci := 4) (q0 := 0) rfl rfl, fun U hU hW => ⟨rfl, by rw [hU], by rw [hU]; exact hPr, hDr.weaken (fun _ _ _ _ => trivial), va_K.moved hW.alike hK2⟩⟩ rfl hn hsize hst (lv_room hr) hdg ⟨by omega, by omega⟩) kk
end LWR
