/-! ===== the class: its constructors, steady ===== -/
theorem c_X_steady (l : Launch) (D : va_G) (cI cP : ClassId) (a : cx_a) (κ : sh_K) (np : Nat) (σ : sh_S) (hz : sSte σ = 0 ∨ sSte σ = 1) : cx_Rd l D cI cP a κ np y_X_steady b_X_steady 1 (some .boolean) 0 0 [.ref (aXX a)] σ (sSte σ) := by
  refine cx_startR (by decide) (Nat.le_of_ble_eq_true rfl) ?_
  intro p e R s m args below meth c A ls S hr hlk hfr hlc hw hl
  have hl : lv_has ls 1 [(0, .ref (aXX a))] := hl
  refine lv_aload_n S.1 S.2.1 d_X_steady_0 rfl (lv_at hl 0 rfl) ?_
  refine cx_get S hw (q0 := 0) (ci := 0) (k := 0) (v := .ref (aXC a)) (fun _ => rfl) rfl (by decide) inX tb_103 rfl rfl d_X_steady_1 ?_
  refine cx_getN S hw (q0 := 1) (ci := 1) (k := 4) (v := .int (sSte σ)) (fun _ => rfl) rfl (by decide) inC nxw_0 rfl rfl d_X_steady_4 ?_
  exact cx_endZ S hr hlk rfl hz d_X_steady_7
set_option maxHeartbeats 4000000 in
set_option maxRecDepth 100000 in
theorem c_C_init (l : Launch) (D : va_G) (h0 sz la np : Nat) (x : Int32) (hla : la < 2 ^ 30) (hnp : np = la / 1024 + 1) : Met l y_C_init (.code y_C_init b_C_init 3 none :: bt) ({ frames := 1, cells := 1, slots := np, locals := 12 })
    (va_Pc [.ref h0, .int (nI la), .int x] (fun U => U.heap.size = sz ∧ va_P D vwC [(h0, .inr (1, [.null, .int 0, .int 0, .int 0, .int 0]))] U.heap ∧ va_K D vwC [] U ∧ va_D (fun _ => True) [(h0, .inr (1, [.null, .int 0, .int 0, .int 0, .int 0]))] ∧ va_AO "StepHeap$Page" U))
    (va_Qv (fun _ : ClassId × Nat => True) (fun u t => va_P D vwC [(h0, .inr (1, [.ref u.2, .int (nI la), .int x, .int 0, .int 1])), (u.2, .inl (u.1, np, .inr (.inr (.inr (.inr (fun _ => none))))))] t.heap ∧ va_K D vwC [(u.1, .object "StepHeap$Page")] t ∧ va_D (va_A [(h0, .inr (1, [.null, .int 0, .int 0, .int 0, .int 0]))] sz) [(h0, .inr (1, [.ref u.2, .int (nI la), .int x, .int 0, .int 1])), (u.2, .inl (u.1, np, .inr (.inr (.inr (.inr (fun _ => none))))))]) (va_A [(h0, .inr (1, [.null, .int 0, .int 0, .int 0, .int 0]))] sz)) 1 np (va_A [(h0, .inr (1, [.null, .int 0, .int 0, .int 0, .int 0]))] sz) := by
  refine Met.ofW (cc := b_C_init) (maxL := 3) (ret := none) (by decide) rfl ?_
  intro p e s m args below meth c s₁ B hml hv
  obtain ⟨rfl, hsz, hP, hK, hD0, hAO⟩ := hv
  have hr := B.returns
  have hts := atoms_spec (ws := .code y_C_init b_C_init 3 none :: bt) B.pre
  have up := fun {w : Cond} (h : w ∈ bt) => hts w (List.mem_cons_of_mem _ h)
  have S : CallFix p m c b_C_init 3 s _ (.code y_C_init b_C_init 3 none :: bt) "StepHeap$Cells" := ⟨B.exec, B.bytes, hml, findClass_of_methodNamed B.named, hts⟩
  have hlocks := B.notSynchronized
  have hin := (name_of_methodNamed B.named B.method).1
  subst hsz
  have hD := hD0.self (sz := s.heap.size)
  generalize hAe : va_A [(h0, .inr (1, [.null, .int 0, .int 0, .int 0, .int 0]))] s.heap.size = A at hD ⊢
  have hA : ∀ q : Nat, s.heap.size ≤ q → A q := fun q h => by rw [← hAe]; exact Or.inr h
  have hS : va_S A s.heap s.heap [] := va_S.rf
  have hl := lv_entry ([.ref h0, .int (nI la), .int x]) (n := 3) (Nat.le_of_ble_eq_true rfl)
  rw [lg_entry_eq]
  generalize (lg_sl ([.ref h0, .int (nI la), .int x]) ++ List.replicate (3 - (lg_sl ([.ref h0, .int (nI la), .int x])).length) Slot.unset).toArray = ls at hl ⊢
  have hl : lv_has ls 3 [(0, .ref h0), (1, .int (nI la)), (2, .int x)] := hl
  refine lv_aload_n S.1 S.2.1 d_C_init_0 rfl (lv_at hl 0 rfl) ?_
  refine W.objInit S.1 S.2.1 S.2.2.2.1 (up tb_34) (up tb_14) (up tb_15) rfl (by rw [S.2.2.1]; exact hl.1) rfl d_C_init_1 (Nat.le_of_ble_eq_true rfl) (Nat.le_of_ble_eq_true rfl) ?_
  refine W.eq (g2 := F0 m 4 ls []) rfl ?_
  refine lv_aload_n S.1 S.2.1 d_C_init_4 rfl (lv_at hl 0 rfl) ?_
  refine lv_iconst (v := 0) S.1 S.2.1 d_C_init_5 (by decide) ?_
  refine va_put (D := D) (ci := 1) (v := .int 0) (ty := .int) (C := "StepHeap$Cells") (T := TC) (N := 5) S.1 S.2.1 S.2.2.2.2 (fun w h => List.mem_cons_of_mem _ (inC w h)) tyC tyC_ok nmC S.2.2.2.1 hK hP hD hS 0 rfl rfl 3 (by decide) (up tb_40) (fun _ h9 => h9) rfl (by decide +kernel) rfl rfl (Nat.le_of_ble_eq_true rfl) d_C_init_6 (fun H locs hP hD hS => ?_)
  have hP : va_P D vwC [(h0, .inr (1, [.null, .int 0, .int 0, .int 0, .int 0]))] H := hP
  have hD : va_D A [(h0, .inr (1, [.null, .int 0, .int 0, .int 0, .int 0]))] := hD
  refine lv_aload_n S.1 S.2.1 d_C_init_9 rfl (lv_at hl 0 rfl) ?_
  refine lv_iconst (v := 1) S.1 S.2.1 d_C_init_10 (by decide) ?_
  refine va_put (D := D) (ci := 1) (v := .int 1) (ty := .boolean) (C := "StepHeap$Cells") (T := TC) (N := 5) S.1 S.2.1 S.2.2.2.2 (fun w h => List.mem_cons_of_mem _ (inC w h)) tyC tyC_ok nmC S.2.2.2.1 hK hP hD hS 0 rfl rfl 4 (by decide) (up tb_41) (fun _ h9 => h9) rfl (by decide +kernel) rfl rfl (Nat.le_of_ble_eq_true rfl) d_C_init_11 (fun H locs hP hD hS => ?_)
  have hP : va_P D vwC [(h0, .inr (1, [.null, .int 0, .int 0, .int 0, .int 1]))] H := hP
  have hD : va_D A [(h0, .inr (1, [.null, .int 0, .int 0, .int 0, .int 1]))] := hD
  refine lv_aload_n S.1 S.2.1 d_C_init_14 rfl (lv_at hl 0 rfl) ?_
  refine lv_iload_n S.1 S.2.1 d_C_init_15 rfl (lv_at hl 1 rfl) ?_
  refine va_putF (D := D) (ci := 1) (v := .int (nI la)) (ty := .int) (C := "StepHeap$Cells") (T := TC) (N := 5) S.1 S.2.1 S.2.2.2.2 (fun w h => List.mem_cons_of_mem _ (inC w h)) tyC tyC_ok nmC S.2.2.2.1 hK hP hD hS 0 rfl rfl 1 (by decide) (up tb_38) (fun _ h9 => h9) rfl hin rfl (by decide +kernel) rfl rfl (Nat.le_of_ble_eq_true rfl) d_C_init_16 (fun H locs hP hD hS => ?_)
  have hP : va_P D vwC [(h0, .inr (1, [.null, .int (nI la), .int 0, .int 0, .int 1]))] H := hP
  have hD : va_D A [(h0, .inr (1, [.null, .int (nI la), .int 0, .int 0, .int 1]))] := hD
  refine lv_aload_n S.1 S.2.1 d_C_init_19 rfl (lv_at hl 0 rfl) ?_
  refine lv_iload_n S.1 S.2.1 d_C_init_20 rfl (lv_at hl 2 rfl) ?_
  refine va_putF (D := D) (ci := 1) (v := .int x) (ty := .int) (C := "StepHeap$Cells") (T := TC) (N := 5) S.1 S.2.1 S.2.2.2.2 (fun w h => List.mem_cons_of_mem _ (inC w h)) tyC tyC_ok nmC S.2.2.2.1 hK hP hD hS 0 rfl rfl 2 (by decide) (up tb_39) (fun _ h9 => h9) rfl hin rfl (by decide +kernel) rfl rfl (Nat.le_of_ble_eq_true rfl) d_C_init_21 (fun H locs hP hD hS => ?_)
  have hP : va_P D vwC [(h0, .inr (1, [.null, .int (nI la), .int x, .int 0, .int 1]))] H := hP
  have hD : va_D A [(h0, .inr (1, [.null, .int (nI la), .int x, .int 0, .int 1]))] := hD
  refine lv_aload_n S.1 S.2.1 d_C_init_24 rfl (lv_at hl 0 rfl) ?_
  refine lv_iload_n S.1 S.2.1 d_C_init_25 rfl (lv_at hl 1 rfl) ?_
  refine lv_bipush (v := 10) S.1 S.2.1 d_C_init_26 (by decide) ?_
  refine lv_ishr S.1 S.2.1 d_C_init_28 ?_
  refine lv_iconst (v := 1) S.1 S.2.1 d_C_init_29 (by decide) ?_
  refine lv_iadd S.1 S.2.1 d_C_init_30 ?_
  have hz9 : nI la >>> ((10 : Int32) &&& 31) + 1 = nI np := by rw [pk_shrN (by omega) _ 10 (by decide), nI_1, hnp]
  rw [hz9]
  refine va_newq (N' := np) S.1 S.2.1 S.2.2.2.1 (up tb_35) hAO hK hP hD hS hA (nI_pos (by omega)) (nI_clamp (by omega)) (by omega) (Nat.le_of_ble_eq_true rfl) (by show 0 + np ≤ np; omega) d_C_init_31 (fun aP cP H hK2 hP hD hS => ?_)
  refine W.cs (cells' := 1) (slots' := np) rfl (Nat.zero_add _) ?_
  have hP : va_P D vwC [(h0, .inr (1, [.null, .int (nI la), .int x, .int 0, .int 1])), (aP, .inl (cP, np, .inr (.inr (.inr (.inr (fun _ => none))))))] H := hP
  have hD : va_D A [(h0, .inr (1, [.null, .int (nI la), .int x, .int 0, .int 1])), (aP, .inl (cP, np, .inr (.inr (.inr (.inr (fun _ => none))))))] := hD
  refine va_putF (D := D) (ci := 1) (v := .ref aP) (ty := .array (.object "StepHeap$Page")) (C := "StepHeap$Cells") (T := TC) (N := 5) S.1 S.2.1 S.2.2.2.2 (fun w h => List.mem_cons_of_mem _ (inC w h)) tyC tyC_ok nmC S.2.2.2.1 hK hP hD hS 0 rfl rfl 0 (by decide) (up tb_37) (fun _ h9 => h9) rfl hin rfl (by decide +kernel) rfl rfl (Nat.le_of_ble_eq_true rfl) d_C_init_34 (fun H locs hP hD hS => ?_)
  have hP : va_P D vwC [(h0, .inr (1, [.ref aP, .int (nI la), .int x, .int 0, .int 1])), (aP, .inl (cP, np, .inr (.inr (.inr (.inr (fun _ => none))))))] H := hP
  have hD : va_D A [(h0, .inr (1, [.ref aP, .int (nI la), .int x, .int 0, .int 1])), (aP, .inl (cP, np, .inr (.inr (.inr (.inr (fun _ => none))))))] := hD
  exact W.vret S.1 S.2.1 hr (fun t ht hW => ⟨⟨(cP, aP), rfl, trivial, by rw [ht]; exact hP, va_K.moved hW.alike hK2, hD⟩, hS.F ht⟩) hS.2.2 d_C_init_37 hlocks
