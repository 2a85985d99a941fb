/-! ===== THE LAW'S WORLD: the class's cells and the reference's, side by side; its calls ===== -/
theorem lj_left {D : va_G} {cl : List vw_C} {w1 w2 : va_W} {H : Heap} (h : va_P D cl (w1 ++ w2) H) : va_P D cl w1 H := fun k q hk => h k q (by rw [List.getElem?_append_left (List.getElem?_eq_some_iff.mp hk).1]; exact hk)
theorem lj_right {D : va_G} {cl : List vw_C} {w1 w2 : va_W} {H : Heap} (h : va_P D cl (w1 ++ w2) H) : va_P D cl w2 H := fun k q hk => h (w1.length + k) q (by rw [List.getElem?_append_right (by omega), Nat.add_sub_cancel_left]; exact hk)
theorem ld_left {A : Nat → Prop} {w1 w2 : va_W} (h : va_D A (w1 ++ w2)) : va_D A w1 :=
  ⟨fun i j x y hi hj => h.1 i j x y (by rw [List.getElem?_append_left (List.getElem?_eq_some_iff.mp hi).1]; exact hi) (by rw [List.getElem?_append_left (List.getElem?_eq_some_iff.mp hj).1]; exact hj), fun k q hk => h.2 k q (by rw [List.getElem?_append_left (List.getElem?_eq_some_iff.mp hk).1]; exact hk)⟩
theorem ld_right {A : Nat → Prop} {w1 w2 : va_W} (h : va_D A (w1 ++ w2)) : va_D A w2 :=
  ⟨fun i j x y hi hj hxy => by
    have := h.1 (w1.length + i) (w1.length + j) x y (by rw [List.getElem?_append_right (by omega), Nat.add_sub_cancel_left]; exact hi) (by rw [List.getElem?_append_right (by omega), Nat.add_sub_cancel_left]; exact hj) hxy
    omega, fun k q hk => h.2 (w1.length + k) q (by rw [List.getElem?_append_right (by omega), Nat.add_sub_cancel_left]; exact hk)⟩
theorem ld_apart {A : Nat → Prop} {w1 w2 : va_W} (h : va_D A (w1 ++ w2)) {i j : Nat} {x y : Nat × va_E} (hi : w1[i]? = some x) (hj : w2[j]? = some y) : x.1 ≠ y.1 := by
  intro z
  have hl := (List.getElem?_eq_some_iff.mp hi).1
  have := h.1 i (w1.length + j) x y (by rw [List.getElem?_append_left hl]; exact hi) (by rw [List.getElem?_append_right (by omega), Nat.add_sub_cancel_left]; exact hj) z
  omega
/-- the left part is a callee's -/
theorem lj_callL {D : va_G} {cl : List vw_C} {A : Nat → Prop} {w1 w2 w1' : va_W} {H H1 : Heap} (hP : va_P D cl (w1 ++ w2) H) (hD : va_D A (w1 ++ w2)) (hk : ∀ q : Nat, q < H.size → ¬ va_A w1 H.size q → H1[q]? = H[q]?) (hF : ∀ q, va_A w1 H.size q → A q) (hP1 : va_P D cl w1' H1) (hD1 : va_D (va_A w1 H.size) w1') : va_P D cl (w1' ++ w2) H1 ∧ va_D A (w1' ++ w2) := by
  have ap : ∀ (k : Nat) (q : Nat × va_E), w2[k]? = some q → q.1 < H.size ∧ ¬ va_A w1 H.size q.1 := by
    intro k q hq
    have hl := (lj_right hP k q hq).lt
    refine ⟨hl, fun h => ?_⟩
    rcases h with ⟨k2, e, h⟩ | h
    · exact ld_apart hD h hq rfl
    · omega
  exact ⟨va_P.app hP1 (fun k q hq => (lj_right hP k q hq).kept (hk q.1 (ap k q hq).1 (ap k q hq).2)), va_D.app (hD1.weaken (fun k q _ h => hF q.1 h)) (ld_right hD) (fun i j x y hx hy z => (ap j y hy).2 (by rw [← z]; exact hD1.2 i x hx))⟩
/-- the right part is a callee's -/
theorem lj_callR {D : va_G} {cl : List vw_C} {A : Nat → Prop} {w1 w2 w2' : va_W} {H H1 : Heap} (hP : va_P D cl (w1 ++ w2) H) (hD : va_D A (w1 ++ w2)) (hk : ∀ q : Nat, q < H.size → ¬ va_A w2 H.size q → H1[q]? = H[q]?) (hF : ∀ q, va_A w2 H.size q → A q) (hP1 : va_P D cl w2' H1) (hD1 : va_D (va_A w2 H.size) w2') : va_P D cl (w1 ++ w2') H1 ∧ va_D A (w1 ++ w2') := by
  have ap : ∀ (k : Nat) (q : Nat × va_E), w1[k]? = some q → q.1 < H.size ∧ ¬ va_A w2 H.size q.1 := by
    intro k q hq
    have hl := (lj_left hP k q hq).lt
    refine ⟨hl, fun h => ?_⟩
    rcases h with ⟨k2, e, h⟩ | h
    · exact ld_apart hD hq h rfl
    · omega
  exact ⟨va_P.app (fun k q hq => (lj_left hP k q hq).kept (hk q.1 (ap k q hq).1 (ap k q hq).2)) hP1, va_D.app (ld_left hD) (hD1.weaken (fun k q _ h => hF q.1 h)) (fun i j x y hx hy z => (ap i x hx).2 (by rw [z]; exact hD1.2 j y hy))⟩
/-- what the law's loop knows: np pages at most, n0 cells and m0 slots made ahead of the first page -/
def lw_Wd (D : va_G) (cI cP : ClassId) (a : cx_a) (κ : sh_K) (np : Nat) (cs : rx_c) (b : rx_a) (k lim : Int32) (s : State) (A : Nat → Prop) (σ : sh_S) (ρ : rm_S) (H : Heap) (locs : List Loc) : Prop :=
  (∃ Lp, cx_ok κ np σ Lp ∧ va_P D vwC (cx_w cI cP a κ np σ Lp ++ rx_w cs b k lim ρ) H ∧ va_D A (cx_w cI cP a κ np σ Lp ++ rx_w cs b k lim ρ)) ∧ va_S A s.heap H locs ∧ va_K D vwC (cx_tys cI cP) s ∧ va_K D vwC (rx_tys cs) s ∧ nx s ∧ (∀ q, s.heap.size ≤ q → A q)
section LWC
variable {p : Program} {l : Launch} {e : Env} {R : Room} {s : State} {m : MethodId} {args : Array Value} {below : List Frame} {meth : Method} {c : Code} {H : Heap} {locs : List Loc} {Q : State → Prop} {D : va_G} {cI cP : ClassId} {a : cx_a} {κ : sh_K} {np n0 m0 nL : Nat} {cs : rx_c} {b : rx_a} {k lim : Int32} {A : Nat → Prop} {σ σ' : sh_S} {ρ ρ' : rm_S} {cc : ByteArray} {pc : Nat} {ls : Array Slot} {rest st0 : List Value} {c1 : Cond} {own : String}
theorem lw_callX (S : CallFix p m c cc nL s args (c1 :: bt) own) (hw : lw_Wd D cI cP a κ np cs b k lim s A σ ρ H locs) (hbud : n0 + 2 * np ≤ R.cells ∧ m0 + 1025 * np ≤ R.slots)
    {y : MethodName} {bc : ByteArray} {maxL fr lc n index : Nat} {ret : Option FieldType} {As : List Value} {r : Option Value} (hM : cx_Met l D cI cP a κ np y bc maxL ret fr lc (.ref (aXX a) :: As) σ r σ')
    (h1 : Cond.code y bc maxL ret ∈ bt) (h2 : Cond.methodLink own index y ∈ bt) (h3 : Cond.instanceMethod y ∈ bt) (h4 : Cond.selects "StepHeap" y y ∈ bt) (h5 : Cond.initialized "StepHeap" ∈ bt)
    (hd : y.cls = "StepHeap" ∧ y.cls ≠ "java/lang/invoke/MethodHandle" ∧ y.cls ≠ "java/lang/invoke/VarHandle" ∧ (parseMethodDescriptor y.desc).map (fun d => d.parameters.length) = some n) (hn : As.length = n) (hR : fr + 1 ≤ R.frames ∧ 8 + (maxL + 11) + lc ≤ R.locals) (hsize : ls.size = nL) (hst : st0 = As.reverse ++ .ref (aXX a) :: rest) (hr : (rest.map fun v => v.category).sum ≤ 8) (hdg : decode cc pc = .ok (.invokevirtual index, 3))
    (kk : ∀ (H1 : Heap) (locs1 : List Loc), lw_Wd D cI cP a κ np cs b k lim s A σ' ρ H1 locs1 → W p l e R s m args below meth c H1 locs1 (n0 + 2 * nal σ') (m0 + 1025 * nal σ') Q (F0 m (pc + 3) ls (r.toList ++ rest))) : W p l e R s m args below meth c H locs (n0 + 2 * nal σ) (m0 + 1025 * nal σ) Q (F0 m pc ls st0) := by
  obtain ⟨⟨Lp, hok, hP, hD⟩, hS, hK, hK2, hnx, hA⟩ := hw
  have hle := cx_len hok
  have hts := S.2.2.2.2
  have hm := hM.1
  have hPl := lj_left hP
  have hDl := ld_left hD
  have hFc : ∀ q, va_A (cx_w cI cP a κ np σ Lp) H.size q → A q := cx_Wd.free hDl hS hA
  refine sx_call (va_runV (As := As) (rest := rest) S (hM.2 Lp H.size (R.cells - (n0 + 2 * nal σ)) (R.slots - (m0 + 1025 * nal σ)) (by omega) (by omega)) (cwV n hts (bt_V h1 h2 h3 h4 h5) rfl rfl rfl hd hR)
    ⟨cx_Pre.blind, va_recv hK hPl (ci := 0) (q0 := 0) rfl rfl, fun U hU hW => ⟨rfl, by rw [hU], ⟨hok, by rw [hU]; exact hPl, hDl.weaken (fun _ _ _ _ => trivial)⟩, va_K.moved hW.alike hK, nx.warm hW hnx⟩⟩ rfl hn hsize hst (lv_room hr) hdg ⟨by omega, by omega⟩) hS (fun q _ h => hFc q h) hFc (fun t H1 locs1 ht hvm hB hz hk1 hS1 => ?_)
  obtain ⟨Lp', hB1, hP1, hD1⟩ := hB
  rw [ht] at hP1
  obtain ⟨hP2, hD2⟩ := lj_callL hP hD hk1 hFc hP1 hD1
  exact W.cs (by omega) (by omega) (kk H1 locs1 ⟨⟨Lp', hB1, hP2, hD2⟩, hS1, hK, hK2, hnx, hA⟩)
theorem lw_callR (S : CallFix p m c cc nL s args (c1 :: bt) own) (hw : lw_Wd D cI cP a κ np cs b k lim s A σ ρ H locs) (hbud : n0 + 2 * np ≤ R.cells ∧ m0 + 1025 * np ≤ R.slots)
    {y : MethodName} {bc : ByteArray} {maxL fr lc n index : Nat} {ret : Option FieldType} {As : List Value} {r : Option Value} (hM : rx_Met l D cs b k lim y bc maxL ret fr lc (.ref (bO b) :: As) ρ r ρ')
    (h1 : Cond.code y bc maxL ret ∈ bt) (h2 : Cond.methodLink own index y ∈ bt) (h3 : Cond.instanceMethod y ∈ bt) (h4 : Cond.selects "StepHeapModel" y y ∈ bt) (h5 : Cond.initialized "StepHeapModel" ∈ bt)
    (hd : y.cls = "StepHeapModel" ∧ y.cls ≠ "java/lang/invoke/MethodHandle" ∧ y.cls ≠ "java/lang/invoke/VarHandle" ∧ (parseMethodDescriptor y.desc).map (fun d => d.parameters.length) = some n) (hn : As.length = n) (hR : fr + 1 ≤ R.frames ∧ 8 + (maxL + 11) + lc ≤ R.locals) (hsize : ls.size = nL) (hst : st0 = As.reverse ++ .ref (bO b) :: rest) (hr : (rest.map fun v => v.category).sum ≤ 8) (hdg : decode cc pc = .ok (.invokevirtual index, 3))
    (kk : ∀ (H1 : Heap) (locs1 : List Loc), lw_Wd D cI cP a κ np cs b k lim s A σ ρ' H1 locs1 → W p l e R s m args below meth c H1 locs1 (n0 + 2 * nal σ) (m0 + 1025 * nal σ) Q (F0 m (pc + 3) ls (r.toList ++ rest))) : W p l e R s m args below meth c H locs (n0 + 2 * nal σ) (m0 + 1025 * nal σ) Q (F0 m pc ls st0) := by
  obtain ⟨⟨Lp, hok, hP, hD⟩, hS, hK, hK2, hnx, hA⟩ := hw
  have hle := cx_len hok
  have hts := S.2.2.2.2
  have hPr := lj_right hP
  have hDr := ld_right hD
  have hFc : ∀ q, va_A (rx_w cs b k lim ρ) H.size q → A q := by
    intro q h
    rcases h with ⟨j, e, h⟩ | h
    · exact hDr.2 j (q, e) h
    · exact hA q (Nat.le_trans hS.1 h)
  refine sx_call (va_runV (As := As) (rest := rest) S (hM H.size) (cwV n hts (bt_V h1 h2 h3 h4 h5) rfl rfl rfl hd hR)
    ⟨rx_Pre.blind, va_recv hK2 hPr (ci := 4) (q0 := 0) rfl rfl, fun U hU hW => ⟨rfl, by rw [hU], by rw [hU]; exact hPr, hDr.weaken (fun _ _ _ _ => trivial), va_K.moved hW.alike hK2⟩⟩ rfl hn hsize hst (lv_room hr) hdg ⟨by omega, by omega⟩) hS (fun q _ h => hFc q h) hFc (fun t H1 locs1 ht hvm hB hz hk1 hS1 => ?_)
  obtain ⟨hP1, hD1⟩ := hB
  rw [ht] at hP1
  obtain ⟨hP2, hD2⟩ := lj_callR hP hD hk1 hFc hP1 hD1
  exact W.cs (by omega) (by omega) (kk H1 locs1 ⟨⟨Lp, hok, hP2, hD2⟩, hS1, hK, hK2, hnx, hA⟩)
end LWC
