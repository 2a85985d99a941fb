/-! ===== Mover: useHalf on its own, the constructor ===== -/
set_option maxHeartbeats 4000000 in
set_option maxRecDepth 100000 in
theorem c_M_useHalf0 (l : Launch) (D : va_G) (h0 sz aC aR : Nat) (hf k lm m0 b0 x0 x1 x2 x3 x4 x5 f : Int32) : Met l y_M_useHalf (.code y_M_useHalf b_M_useHalf 2 none :: bt) ({ frames := 0, cells := 0, slots := 0, locals := 0 })
    (va_Pc [.ref h0, .int f] (fun U => U.heap.size = sz ∧ va_P D vwC [(h0, .inr (2, [.ref aC, .int hf, .int k, .int lm, .ref aR, .int m0, .int b0, .int x0, .int x1, .int x2, .int x3, .int x4, .int x5]))] U.heap ∧ va_K D vwC [] U ∧ va_D (fun _ => True) [(h0, .inr (2, [.ref aC, .int hf, .int k, .int lm, .ref aR, .int m0, .int b0, .int x0, .int x1, .int x2, .int x3, .int x4, .int x5]))]))
    (va_Qv (fun _ : Unit => True) (fun _ t => va_P D vwC [(h0, .inr (2, [.ref aC, .int hf, .int k, .int lm, .ref aR, .int m0, .int b0, .int f, .int f, .int (f + hf), .int f, .int f, .int f]))] t.heap ∧ va_D (va_A [(h0, .inr (2, [.ref aC, .int hf, .int k, .int lm, .ref aR, .int m0, .int b0, .int x0, .int x1, .int x2, .int x3, .int x4, .int x5]))] sz) [(h0, .inr (2, [.ref aC, .int hf, .int k, .int lm, .ref aR, .int m0, .int b0, .int f, .int f, .int (f + hf), .int f, .int f, .int f]))]) (va_A [(h0, .inr (2, [.ref aC, .int hf, .int k, .int lm, .ref aR, .int m0, .int b0, .int x0, .int x1, .int x2, .int x3, .int x4, .int x5]))] sz)) 0 0 (va_A [(h0, .inr (2, [.ref aC, .int hf, .int k, .int lm, .ref aR, .int m0, .int b0, .int x0, .int x1, .int x2, .int x3, .int x4, .int x5]))] sz) := by
  refine Met.ofW (cc := b_M_useHalf) (maxL := 2) (ret := none) (by decide) rfl ?_
  intro p e s m args below meth c s₁ B hml hv
  obtain ⟨rfl, hsz, hP, hK, hD0⟩ := hv
  have hr := B.returns
  have hts := atoms_spec (ws := .code y_M_useHalf b_M_useHalf 2 none :: bt) B.pre
  have up := fun {w : Cond} (h : w ∈ bt) => hts w (List.mem_cons_of_mem _ h)
  have S : CallFix p m c b_M_useHalf 2 s _ (.code y_M_useHalf b_M_useHalf 2 none :: bt) "StepHeap$Mover" := ⟨B.exec, B.bytes, hml, findClass_of_methodNamed B.named, hts⟩
  have hlocks := B.notSynchronized
  have hin := (name_of_methodNamed B.named B.method).1
  subst hsz
  have hD := hD0.self (sz := s.heap.size)
  generalize hAe : va_A [(h0, .inr (2, [.ref aC, .int hf, .int k, .int lm, .ref aR, .int m0, .int b0, .int x0, .int x1, .int x2, .int x3, .int x4, .int x5]))] s.heap.size = A at hD ⊢
  have hA : ∀ q : Nat, s.heap.size ≤ q → A q := fun q h => by rw [← hAe]; exact Or.inr h
  have hS : va_S A s.heap s.heap [] := va_S.rf
  have hl := lv_entry ([.ref h0, .int f]) (n := 2) (Nat.le_of_ble_eq_true rfl)
  rw [lg_entry_eq]
  generalize (lg_sl ([.ref h0, .int f]) ++ List.replicate (2 - (lg_sl ([.ref h0, .int f])).length) Slot.unset).toArray = ls at hl ⊢
  have hl : lv_has ls 2 [(0, .ref h0), (1, .int f)] := hl
  refine lv_aload_n S.1 S.2.1 d_M_useHalf_0 rfl (lv_at hl 0 rfl) ?_
  refine lv_iload_n S.1 S.2.1 d_M_useHalf_1 rfl (lv_at hl 1 rfl) ?_
  refine va_put (D := D) (ci := 2) (v := .int f) (ty := .int) (C := "StepHeap$Mover") (T := TM) (N := 13) S.1 S.2.1 S.2.2.2.2 (fun w h => List.mem_cons_of_mem _ (inM w h)) tyM tyM_ok nmM S.2.2.2.1 hK hP hD hS 0 rfl rfl 7 (by decide) (up tb_70) (fun _ h9 => h9) rfl (by decide +kernel) rfl rfl (Nat.le_of_ble_eq_true rfl) d_M_useHalf_2 (fun H locs hP hD hS => ?_)
  have hP : va_P D vwC [(h0, .inr (2, [.ref aC, .int hf, .int k, .int lm, .ref aR, .int m0, .int b0, .int f, .int x1, .int x2, .int x3, .int x4, .int x5]))] H := hP
  have hD : va_D A [(h0, .inr (2, [.ref aC, .int hf, .int k, .int lm, .ref aR, .int m0, .int b0, .int f, .int x1, .int x2, .int x3, .int x4, .int x5]))] := hD
  refine lv_aload_n S.1 S.2.1 d_M_useHalf_5 rfl (lv_at hl 0 rfl) ?_
  refine lv_iload_n S.1 S.2.1 d_M_useHalf_6 rfl (lv_at hl 1 rfl) ?_
  refine va_put (D := D) (ci := 2) (v := .int f) (ty := .int) (C := "StepHeap$Mover") (T := TM) (N := 13) S.1 S.2.1 S.2.2.2.2 (fun w h => List.mem_cons_of_mem _ (inM w h)) tyM tyM_ok nmM S.2.2.2.1 hK hP hD hS 0 rfl rfl 8 (by decide) (up tb_71) (fun _ h9 => h9) rfl (by decide +kernel) rfl rfl (Nat.le_of_ble_eq_true rfl) d_M_useHalf_7 (fun H locs hP hD hS => ?_)
  have hP : va_P D vwC [(h0, .inr (2, [.ref aC, .int hf, .int k, .int lm, .ref aR, .int m0, .int b0, .int f, .int f, .int x2, .int x3, .int x4, .int x5]))] H := hP
  have hD : va_D A [(h0, .inr (2, [.ref aC, .int hf, .int k, .int lm, .ref aR, .int m0, .int b0, .int f, .int f, .int x2, .int x3, .int x4, .int x5]))] := hD
  refine lv_aload_n S.1 S.2.1 d_M_useHalf_10 rfl (lv_at hl 0 rfl) ?_
  refine lv_iload_n S.1 S.2.1 d_M_useHalf_11 rfl (lv_at hl 1 rfl) ?_
  refine lv_aload_n S.1 S.2.1 d_M_useHalf_12 rfl (lv_at hl 0 rfl) ?_
  refine va_get (D := D) (ci := 2) (v := .int hf) (C := "StepHeap$Mover") (T := TM) (N := 13) S.1 S.2.1 S.2.2.2.2 (fun w h => List.mem_cons_of_mem _ (inM w h)) S.2.2.2.1 hK hP 0 rfl rfl 1 (by decide) (up tb_61) (fun _ h9 => h9) rfl d_M_useHalf_13 ?_
  refine lv_iadd S.1 S.2.1 d_M_useHalf_16 ?_
  refine va_put (D := D) (ci := 2) (v := .int (f + hf)) (ty := .int) (C := "StepHeap$Mover") (T := TM) (N := 13) S.1 S.2.1 S.2.2.2.2 (fun w h => List.mem_cons_of_mem _ (inM w h)) tyM tyM_ok nmM S.2.2.2.1 hK hP hD hS 0 rfl rfl 9 (by decide) (up tb_72) (fun _ h9 => h9) rfl (by decide +kernel) rfl rfl (Nat.le_of_ble_eq_true rfl) d_M_useHalf_17 (fun H locs hP hD hS => ?_)
  have hP : va_P D vwC [(h0, .inr (2, [.ref aC, .int hf, .int k, .int lm, .ref aR, .int m0, .int b0, .int f, .int f, .int (f + hf), .int x3, .int x4, .int x5]))] H := hP
  have hD : va_D A [(h0, .inr (2, [.ref aC, .int hf, .int k, .int lm, .ref aR, .int m0, .int b0, .int f, .int f, .int (f + hf), .int x3, .int x4, .int x5]))] := hD
  refine lv_aload_n S.1 S.2.1 d_M_useHalf_20 rfl (lv_at hl 0 rfl) ?_
  refine lv_iload_n S.1 S.2.1 d_M_useHalf_21 rfl (lv_at hl 1 rfl) ?_
  refine va_put (D := D) (ci := 2) (v := .int f) (ty := .int) (C := "StepHeap$Mover") (T := TM) (N := 13) S.1 S.2.1 S.2.2.2.2 (fun w h => List.mem_cons_of_mem _ (inM w h)) tyM tyM_ok nmM S.2.2.2.1 hK hP hD hS 0 rfl rfl 10 (by decide) (up tb_73) (fun _ h9 => h9) rfl (by decide +kernel) rfl rfl (Nat.le_of_ble_eq_true rfl) d_M_useHalf_22 (fun H locs hP hD hS => ?_)
  have hP : va_P D vwC [(h0, .inr (2, [.ref aC, .int hf, .int k, .int lm, .ref aR, .int m0, .int b0, .int f, .int f, .int (f + hf), .int f, .int x4, .int x5]))] H := hP
  have hD : va_D A [(h0, .inr (2, [.ref aC, .int hf, .int k, .int lm, .ref aR, .int m0, .int b0, .int f, .int f, .int (f + hf), .int f, .int x4, .int x5]))] := hD
  refine lv_aload_n S.1 S.2.1 d_M_useHalf_25 rfl (lv_at hl 0 rfl) ?_
  refine lv_iload_n S.1 S.2.1 d_M_useHalf_26 rfl (lv_at hl 1 rfl) ?_
  refine va_put (D := D) (ci := 2) (v := .int f) (ty := .int) (C := "StepHeap$Mover") (T := TM) (N := 13) S.1 S.2.1 S.2.2.2.2 (fun w h => List.mem_cons_of_mem _ (inM w h)) tyM tyM_ok nmM S.2.2.2.1 hK hP hD hS 0 rfl rfl 11 (by decide) (up tb_74) (fun _ h9 => h9) rfl (by decide +kernel) rfl rfl (Nat.le_of_ble_eq_true rfl) d_M_useHalf_27 (fun H locs hP hD hS => ?_)
  have hP : va_P D vwC [(h0, .inr (2, [.ref aC, .int hf, .int k, .int lm, .ref aR, .int m0, .int b0, .int f, .int f, .int (f + hf), .int f, .int f, .int x5]))] H := hP
  have hD : va_D A [(h0, .inr (2, [.ref aC, .int hf, .int k, .int lm, .ref aR, .int m0, .int b0, .int f, .int f, .int (f + hf), .int f, .int f, .int x5]))] := hD
  refine lv_aload_n S.1 S.2.1 d_M_useHalf_30 rfl (lv_at hl 0 rfl) ?_
  refine lv_iload_n S.1 S.2.1 d_M_useHalf_31 rfl (lv_at hl 1 rfl) ?_
  refine va_put (D := D) (ci := 2) (v := .int f) (ty := .int) (C := "StepHeap$Mover") (T := TM) (N := 13) S.1 S.2.1 S.2.2.2.2 (fun w h => List.mem_cons_of_mem _ (inM w h)) tyM tyM_ok nmM S.2.2.2.1 hK hP hD hS 0 rfl rfl 12 (by decide) (up tb_75) (fun _ h9 => h9) rfl (by decide +kernel) rfl rfl (Nat.le_of_ble_eq_true rfl) d_M_useHalf_32 (fun H locs hP hD hS => ?_)
  have hP : va_P D vwC [(h0, .inr (2, [.ref aC, .int hf, .int k, .int lm, .ref aR, .int m0, .int b0, .int f, .int f, .int (f + hf), .int f, .int f, .int f]))] H := hP
  have hD : va_D A [(h0, .inr (2, [.ref aC, .int hf, .int k, .int lm, .ref aR, .int m0, .int b0, .int f, .int f, .int (f + hf), .int f, .int f, .int f]))] := hD
  exact W.vret S.1 S.2.1 hr (fun t ht hW => ⟨⟨(), rfl, trivial, by rw [ht]; exact hP, hD⟩, hS.F ht⟩) hS.2.2 d_M_useHalf_35 hlocks
set_option maxHeartbeats 4000000 in
set_option maxRecDepth 100000 in
theorem c_M_init (l : Launch) (D : va_G) (h0 sz la np : Nat) (half k lim : Int32) (hla2 : 2 * half = nI la) (hla : la < 2 ^ 30) (hnp : np = la / 1024 + 1) : Met l y_M_init (.code y_M_init b_M_init 4 none :: bt) ({ frames := 2, cells := 3, slots := 13 + np, locals := 40 })
    (va_Pc [.ref h0, .int half, .int k, .int lim] (fun U => U.heap.size = sz ∧ va_P D vwC [(h0, .inr (2, [.null, .int 0, .int 0, .int 0, .null, .int 0, .int 0, .int 0, .int 0, .int 0, .int 0, .int 0, .int 0]))] U.heap ∧ va_K D vwC [] U ∧ va_D (fun _ => True) [(h0, .inr (2, [.null, .int 0, .int 0, .int 0, .null, .int 0, .int 0, .int 0, .int 0, .int 0, .int 0, .int 0, .int 0]))] ∧ va_AO "StepHeap$Page" U))
    (va_Qv (fun _ : ClassId × ClassId × Nat × Nat × Nat => True) (fun u t => va_P D vwC [(h0, .inr (2, [.ref u.2.2.1, .int half, .int k, .int lim, .ref u.2.2.2.1, .int 0, .int 0, .int 1, .int 1, .int (1 + half), .int 1, .int 1, .int 1])), (u.2.2.1, .inr (1, [.ref u.2.2.2.2, .int (nI la), .int (700 * k + 200), .int 0, .int 1])), (u.2.2.2.1, .inl (u.1, 8, .inl (fun _ => 0))), (u.2.2.2.2, .inl (u.2.1, np, .inr (.inr (.inr (.inr (fun _ => none))))))] t.heap ∧ va_K D vwC (cx_tys u.1 u.2.1) t ∧ va_D (va_A [(h0, .inr (2, [.null, .int 0, .int 0, .int 0, .null, .int 0, .int 0, .int 0, .int 0, .int 0, .int 0, .int 0, .int 0]))] sz) [(h0, .inr (2, [.ref u.2.2.1, .int half, .int k, .int lim, .ref u.2.2.2.1, .int 0, .int 0, .int 1, .int 1, .int (1 + half), .int 1, .int 1, .int 1])), (u.2.2.1, .inr (1, [.ref u.2.2.2.2, .int (nI la), .int (700 * k + 200), .int 0, .int 1])), (u.2.2.2.1, .inl (u.1, 8, .inl (fun _ => 0))), (u.2.2.2.2, .inl (u.2.1, np, .inr (.inr (.inr (.inr (fun _ => none))))))]) (va_A [(h0, .inr (2, [.null, .int 0, .int 0, .int 0, .null, .int 0, .int 0, .int 0, .int 0, .int 0, .int 0, .int 0, .int 0]))] sz)) 3 (13 + np) (va_A [(h0, .inr (2, [.null, .int 0, .int 0, .int 0, .null, .int 0, .int 0, .int 0, .int 0, .int 0, .int 0, .int 0, .int 0]))] sz) := by
  refine Met.ofW (cc := b_M_init) (maxL := 4) (ret := none) (by decide) rfl ?_
  intro p e s m args below meth c s₁ B hml hv
  obtain ⟨rfl, hsz, hP, hK, hD0, hAO⟩ := hv
  have hr := B.returns
  have hts := atoms_spec (ws := .code y_M_init b_M_init 4 none :: bt) B.pre
  have up := fun {w : Cond} (h : w ∈ bt) => hts w (List.mem_cons_of_mem _ h)
  have S : CallFix p m c b_M_init 4 s _ (.code y_M_init b_M_init 4 none :: bt) "StepHeap$Mover" := ⟨B.exec, B.bytes, hml, findClass_of_methodNamed B.named, hts⟩
  have hlocks := B.notSynchronized
  have hin := (name_of_methodNamed B.named B.method).1
  subst hsz
  have hD := hD0.self (sz := s.heap.size)
  generalize hAe : va_A [(h0, .inr (2, [.null, .int 0, .int 0, .int 0, .null, .int 0, .int 0, .int 0, .int 0, .int 0, .int 0, .int 0, .int 0]))] s.heap.size = A at hD ⊢
  have hA : ∀ q : Nat, s.heap.size ≤ q → A q := fun q h => by rw [← hAe]; exact Or.inr h
  have hS : va_S A s.heap s.heap [] := va_S.rf
  have hl := lv_entry ([.ref h0, .int half, .int k, .int lim]) (n := 4) (Nat.le_of_ble_eq_true rfl)
  rw [lg_entry_eq]
  generalize (lg_sl ([.ref h0, .int half, .int k, .int lim]) ++ List.replicate (4 - (lg_sl ([.ref h0, .int half, .int k, .int lim])).length) Slot.unset).toArray = ls at hl ⊢
  have hl : lv_has ls 4 [(0, .ref h0), (1, .int half), (2, .int k), (3, .int lim)] := hl
  refine lv_aload_n S.1 S.2.1 d_M_init_0 rfl (lv_at hl 0 rfl) ?_
  refine W.objInit S.1 S.2.1 S.2.2.2.1 (up tb_28) (up tb_14) (up tb_15) rfl (by rw [S.2.2.1]; exact hl.1) rfl d_M_init_1 (Nat.le_of_ble_eq_true rfl) (Nat.le_of_ble_eq_true rfl) ?_
  refine W.eq (g2 := F0 m 4 ls []) rfl ?_
  refine lv_aload_n S.1 S.2.1 d_M_init_4 rfl (lv_at hl 0 rfl) ?_
  refine lv_bipush (v := 8) S.1 S.2.1 d_M_init_5 (by decide) ?_
  refine va_newa (atype := .int) (N' := 8) (a0 := (8, .inl (fun _ => 0))) (ty := .int) S.1 S.2.1 (up tb_54) rfl hK hP hD hS hA (fun _ => rfl) (by decide) (by decide) (by decide) (Nat.le_of_ble_eq_true rfl) (by show 0 + 8 ≤ 13 + np; omega) d_M_init_7 (fun aR cI H hK2 hP hD hS => ?_)
  have hK := hK2
  refine W.cs (cells' := 1) (slots' := 8) rfl rfl ?_
  have hP : va_P D vwC [(h0, .inr (2, [.null, .int 0, .int 0, .int 0, .null, .int 0, .int 0, .int 0, .int 0, .int 0, .int 0, .int 0, .int 0])), (aR, .inl (cI, 8, .inl (fun _ => 0)))] H := hP
  have hD : va_D A [(h0, .inr (2, [.null, .int 0, .int 0, .int 0, .null, .int 0, .int 0, .int 0, .int 0, .int 0, .int 0, .int 0, .int 0])), (aR, .inl (cI, 8, .inl (fun _ => 0)))] := hD
  have hK : va_K D vwC [(cI, .int)] s := hK
  refine va_putF (D := D) (ci := 2) (v := .ref aR) (ty := .array (.int)) (C := "StepHeap$Mover") (T := TM) (N := 13) S.1 S.2.1 S.2.2.2.2 (fun w h => List.mem_cons_of_mem _ (inM w h)) tyM tyM_ok nmM S.2.2.2.1 hK hP hD hS 0 rfl rfl 4 (by decide) (up tb_65) (fun _ h9 => h9) rfl hin rfl (by decide +kernel) rfl rfl (Nat.le_of_ble_eq_true rfl) d_M_init_9 (fun H locs hP hD hS => ?_)
  have hP : va_P D vwC [(h0, .inr (2, [.null, .int 0, .int 0, .int 0, .ref aR, .int 0, .int 0, .int 0, .int 0, .int 0, .int 0, .int 0, .int 0])), (aR, .inl (cI, 8, .inl (fun _ => 0)))] H := hP
  have hD : va_D A [(h0, .inr (2, [.null, .int 0, .int 0, .int 0, .ref aR, .int 0, .int 0, .int 0, .int 0, .int 0, .int 0, .int 0, .int 0])), (aR, .inl (cI, 8, .inl (fun _ => 0)))] := hD
  refine lv_aload_n S.1 S.2.1 d_M_init_12 rfl (lv_at hl 0 rfl) ?_
  refine lv_iconst (v := 0) S.1 S.2.1 d_M_init_13 (by decide) ?_
  refine va_put (D := D) (ci := 2) (v := .int 0) (ty := .int) (C := "StepHeap$Mover") (T := TM) (N := 13) S.1 S.2.1 S.2.2.2.2 (fun w h => List.mem_cons_of_mem _ (inM w h)) tyM tyM_ok nmM S.2.2.2.1 hK hP hD hS 0 rfl rfl 5 (by decide) (up tb_66) (fun _ h9 => h9) rfl (by decide +kernel) rfl rfl (Nat.le_of_ble_eq_true rfl) d_M_init_14 (fun H locs hP hD hS => ?_)
  have hP : va_P D vwC [(h0, .inr (2, [.null, .int 0, .int 0, .int 0, .ref aR, .int 0, .int 0, .int 0, .int 0, .int 0, .int 0, .int 0, .int 0])), (aR, .inl (cI, 8, .inl (fun _ => 0)))] H := hP
  have hD : va_D A [(h0, .inr (2, [.null, .int 0, .int 0, .int 0, .ref aR, .int 0, .int 0, .int 0, .int 0, .int 0, .int 0, .int 0, .int 0])), (aR, .inl (cI, 8, .inl (fun _ => 0)))] := hD
  refine lv_aload_n S.1 S.2.1 d_M_init_17 rfl (lv_at hl 0 rfl) ?_
  refine lv_iconst (v := 0) S.1 S.2.1 d_M_init_18 (by decide) ?_
  refine va_put (D := D) (ci := 2) (v := .int 0) (ty := .int) (C := "StepHeap$Mover") (T := TM) (N := 13) S.1 S.2.1 S.2.2.2.2 (fun w h => List.mem_cons_of_mem _ (inM w h)) tyM tyM_ok nmM S.2.2.2.1 hK hP hD hS 0 rfl rfl 6 (by decide) (up tb_68) (fun _ h9 => h9) rfl (by decide +kernel) rfl rfl (Nat.le_of_ble_eq_true rfl) d_M_init_19 (fun H locs hP hD hS => ?_)
  have hP : va_P D vwC [(h0, .inr (2, [.null, .int 0, .int 0, .int 0, .ref aR, .int 0, .int 0, .int 0, .int 0, .int 0, .int 0, .int 0, .int 0])), (aR, .inl (cI, 8, .inl (fun _ => 0)))] H := hP
  have hD : va_D A [(h0, .inr (2, [.null, .int 0, .int 0, .int 0, .ref aR, .int 0, .int 0, .int 0, .int 0, .int 0, .int 0, .int 0, .int 0])), (aR, .inl (cI, 8, .inl (fun _ => 0)))] := hD
  refine lv_aload_n S.1 S.2.1 d_M_init_22 rfl (lv_at hl 0 rfl) ?_
  refine va_new (D := D) (ci := 1) (fs := [.null, .int 0, .int 0, .int 0, .int 0]) (C := "StepHeap$Cells") (T := TC) (N := 5) S.1 S.2.1 S.2.2.2.2 (fun w h => List.mem_cons_of_mem _ (inC w h)) tyC tyC_ok S.2.2.2.1 (up tb_29) (up tb_30) (up tb_4) hK hP hD hS hA rfl (fun j hj => by rcases (show j = 0 ∨ j = 1 ∨ j = 2 ∨ j = 3 ∨ j = 4 by omega) with rfl | rfl | rfl | rfl | rfl <;> rfl) (Nat.le_of_ble_eq_true rfl) (by show 8 + 5 ≤ 13 + np; omega) d_M_init_23 (fun aC H hP hD hS => ?_)
  refine W.cs (cells' := 2) (slots' := 13) rfl rfl ?_
  have hP : va_P D vwC [(h0, .inr (2, [.null, .int 0, .int 0, .int 0, .ref aR, .int 0, .int 0, .int 0, .int 0, .int 0, .int 0, .int 0, .int 0])), (aR, .inl (cI, 8, .inl (fun _ => 0))), (aC, .inr (1, [.null, .int 0, .int 0, .int 0, .int 0]))] H := hP
  have hD : va_D A [(h0, .inr (2, [.null, .int 0, .int 0, .int 0, .ref aR, .int 0, .int 0, .int 0, .int 0, .int 0, .int 0, .int 0, .int 0])), (aR, .inl (cI, 8, .inl (fun _ => 0))), (aC, .inr (1, [.null, .int 0, .int 0, .int 0, .int 0]))] := hD
  refine lv_dup S.1 S.2.1 d_M_init_26 rfl ?_
  refine lv_iconst (v := 2) S.1 S.2.1 d_M_init_27 (by decide) ?_
  refine lv_iload_n S.1 S.2.1 d_M_init_28 rfl (lv_at hl 1 rfl) ?_
  refine lv_imul S.1 S.2.1 d_M_init_29 ?_
  refine lv_sipush (v := 700) S.1 S.2.1 d_M_init_30 (by decide) ?_
  refine lv_iload_n S.1 S.2.1 d_M_init_33 rfl (lv_at hl 2 rfl) ?_
  refine lv_imul S.1 S.2.1 d_M_init_34 ?_
  refine lv_sipush (v := 200) S.1 S.2.1 d_M_init_35 (by decide) ?_
  refine lv_iadd S.1 S.2.1 d_M_init_38 ?_
  rw [hla2]
  have hPc := hP.sub (ws' := [(aC, .inr (1, [.null, .int 0, .int 0, .int 0, .int 0]))]) [2] rfl
  have hDc := hD.sub (ws' := [(aC, .inr (1, [.null, .int 0, .int 0, .int 0, .int 0]))]) [2] (by decide) rfl
  have hKc := hK.sub (tys' := []) [] rfl
  have hFc := va_free (wc := [(aC, .inr (1, [.null, .int 0, .int 0, .int 0, .int 0]))]) hD hS hA [2] rfl
  refine va_callv (va_runI (As := [.int (nI la), .int (700 * k + 200)]) (rest := [.ref aC, .ref h0]) S (c_C_init l D aC H.size la np (700 * k + 200) hla hnp) (cwI 2 hts (bt_gi tb_33) rfl rfl rfl (up tb_4) (up tb_31) (up tb_32) rfl hd_C_init.2 ⟨Nat.le_of_ble_eq_true rfl, Nat.le_of_ble_eq_true rfl⟩) ⟨fun a U g mk z => by obtain ⟨q0, aR, qP, qK, qD, qA⟩ := z; exact ⟨q0, aR, qP, va_K.moved (u := U) (U := U.calling g mk a) (Vm.Alike.refl U.vm) qK, qD, va_AO.moved (u := U) (U := U.calling g mk a) (Vm.Alike.refl U.vm) qA⟩, fun U hU hW => ⟨rfl, by rw [hU], by rw [hU]; exact hPc, va_K.moved hW.alike hKc, hDc.weaken (fun _ _ _ _ => trivial), va_AO.moved hW.alike hAO⟩⟩ rfl rfl hl.1 rfl (lv_room (Nat.le_of_ble_eq_true rfl)) d_M_init_39 ⟨Nat.le_of_ble_eq_true rfl, by show 13 + np ≤ 13 + np; omega⟩) hS (fun q _ h => hFc q h) hFc (fun u t H1 locs ht hvm hw hB hz1 hk1 hS => ?_)
  obtain ⟨cP, aP⟩ := u
  obtain ⟨hP1, hK1, hD1⟩ := hB
  rw [ht] at hP1
  have hK1 := va_K.moved hvm.symm hK1
  obtain ⟨hP, hD⟩ := va_join (wr := [(h0, .inr (2, [.null, .int 0, .int 0, .int 0, .ref aR, .int 0, .int 0, .int 0, .int 0, .int 0, .int 0, .int 0, .int 0])), (aR, .inl (cI, 8, .inl (fun _ => 0)))]) (w1 := [(aC, .inr (1, [.ref aP, .int (nI la), .int (700 * k + 200), .int 0, .int 1])), (aP, .inl (cP, np, .inr (.inr (.inr (.inr (fun _ => none))))))]) hP hD [2] [0, 1] rfl rfl (by decide) (by decide) hk1 hFc hP1 hD1
  have hK := hK.app hK1
  generalize H1 = H at hP hS ⊢
  have hP : va_P D vwC [(h0, .inr (2, [.null, .int 0, .int 0, .int 0, .ref aR, .int 0, .int 0, .int 0, .int 0, .int 0, .int 0, .int 0, .int 0])), (aR, .inl (cI, 8, .inl (fun _ => 0))), (aC, .inr (1, [.ref aP, .int (nI la), .int (700 * k + 200), .int 0, .int 1])), (aP, .inl (cP, np, .inr (.inr (.inr (.inr (fun _ => none))))))] H := hP
  have hD : va_D A [(h0, .inr (2, [.null, .int 0, .int 0, .int 0, .ref aR, .int 0, .int 0, .int 0, .int 0, .int 0, .int 0, .int 0, .int 0])), (aR, .inl (cI, 8, .inl (fun _ => 0))), (aC, .inr (1, [.ref aP, .int (nI la), .int (700 * k + 200), .int 0, .int 1])), (aP, .inl (cP, np, .inr (.inr (.inr (.inr (fun _ => none))))))] := hD
  have hK : va_K D vwC (cx_tys cI cP) s := hK
  refine W.eq (g2 := F0 m 42 ls [.ref aC, .ref h0]) rfl ?_
  refine va_putF (D := D) (ci := 2) (v := .ref aC) (ty := .object "StepHeap$Cells") (C := "StepHeap$Mover") (T := TM) (N := 13) S.1 S.2.1 S.2.2.2.2 (fun w h => List.mem_cons_of_mem _ (inM w h)) tyM tyM_ok nmM S.2.2.2.1 hK hP hD hS 0 rfl rfl 0 (by decide) (up tb_59) (fun _ h9 => h9) rfl hin rfl (by decide +kernel) rfl rfl (Nat.le_of_ble_eq_true rfl) d_M_init_42 (fun H locs hP hD hS => ?_)
  have hP : va_P D vwC [(h0, .inr (2, [.ref aC, .int 0, .int 0, .int 0, .ref aR, .int 0, .int 0, .int 0, .int 0, .int 0, .int 0, .int 0, .int 0])), (aR, .inl (cI, 8, .inl (fun _ => 0))), (aC, .inr (1, [.ref aP, .int (nI la), .int (700 * k + 200), .int 0, .int 1])), (aP, .inl (cP, np, .inr (.inr (.inr (.inr (fun _ => none))))))] H := hP
  have hD : va_D A [(h0, .inr (2, [.ref aC, .int 0, .int 0, .int 0, .ref aR, .int 0, .int 0, .int 0, .int 0, .int 0, .int 0, .int 0, .int 0])), (aR, .inl (cI, 8, .inl (fun _ => 0))), (aC, .inr (1, [.ref aP, .int (nI la), .int (700 * k + 200), .int 0, .int 1])), (aP, .inl (cP, np, .inr (.inr (.inr (.inr (fun _ => none))))))] := hD
  refine lv_aload_n S.1 S.2.1 d_M_init_45 rfl (lv_at hl 0 rfl) ?_
  refine lv_iload_n S.1 S.2.1 d_M_init_46 rfl (lv_at hl 1 rfl) ?_
  refine va_putF (D := D) (ci := 2) (v := .int half) (ty := .int) (C := "StepHeap$Mover") (T := TM) (N := 13) S.1 S.2.1 S.2.2.2.2 (fun w h => List.mem_cons_of_mem _ (inM w h)) tyM tyM_ok nmM S.2.2.2.1 hK hP hD hS 0 rfl rfl 1 (by decide) (up tb_61) (fun _ h9 => h9) rfl hin rfl (by decide +kernel) rfl rfl (Nat.le_of_ble_eq_true rfl) d_M_init_47 (fun H locs hP hD hS => ?_)
  have hP : va_P D vwC [(h0, .inr (2, [.ref aC, .int half, .int 0, .int 0, .ref aR, .int 0, .int 0, .int 0, .int 0, .int 0, .int 0, .int 0, .int 0])), (aR, .inl (cI, 8, .inl (fun _ => 0))), (aC, .inr (1, [.ref aP, .int (nI la), .int (700 * k + 200), .int 0, .int 1])), (aP, .inl (cP, np, .inr (.inr (.inr (.inr (fun _ => none))))))] H := hP
  have hD : va_D A [(h0, .inr (2, [.ref aC, .int half, .int 0, .int 0, .ref aR, .int 0, .int 0, .int 0, .int 0, .int 0, .int 0, .int 0, .int 0])), (aR, .inl (cI, 8, .inl (fun _ => 0))), (aC, .inr (1, [.ref aP, .int (nI la), .int (700 * k + 200), .int 0, .int 1])), (aP, .inl (cP, np, .inr (.inr (.inr (.inr (fun _ => none))))))] := hD
  refine lv_aload_n S.1 S.2.1 d_M_init_50 rfl (lv_at hl 0 rfl) ?_
  refine lv_iload_n S.1 S.2.1 d_M_init_51 rfl (lv_at hl 2 rfl) ?_
  refine va_putF (D := D) (ci := 2) (v := .int k) (ty := .int) (C := "StepHeap$Mover") (T := TM) (N := 13) S.1 S.2.1 S.2.2.2.2 (fun w h => List.mem_cons_of_mem _ (inM w h)) tyM tyM_ok nmM S.2.2.2.1 hK hP hD hS 0 rfl rfl 2 (by decide) (up tb_62) (fun _ h9 => h9) rfl hin rfl (by decide +kernel) rfl rfl (Nat.le_of_ble_eq_true rfl) d_M_init_52 (fun H locs hP hD hS => ?_)
  have hP : va_P D vwC [(h0, .inr (2, [.ref aC, .int half, .int k, .int 0, .ref aR, .int 0, .int 0, .int 0, .int 0, .int 0, .int 0, .int 0, .int 0])), (aR, .inl (cI, 8, .inl (fun _ => 0))), (aC, .inr (1, [.ref aP, .int (nI la), .int (700 * k + 200), .int 0, .int 1])), (aP, .inl (cP, np, .inr (.inr (.inr (.inr (fun _ => none))))))] H := hP
  have hD : va_D A [(h0, .inr (2, [.ref aC, .int half, .int k, .int 0, .ref aR, .int 0, .int 0, .int 0, .int 0, .int 0, .int 0, .int 0, .int 0])), (aR, .inl (cI, 8, .inl (fun _ => 0))), (aC, .inr (1, [.ref aP, .int (nI la), .int (700 * k + 200), .int 0, .int 1])), (aP, .inl (cP, np, .inr (.inr (.inr (.inr (fun _ => none))))))] := hD
  refine lv_aload_n S.1 S.2.1 d_M_init_55 rfl (lv_at hl 0 rfl) ?_
  refine lv_iload_n S.1 S.2.1 d_M_init_56 rfl (lv_at hl 3 rfl) ?_
  refine va_putF (D := D) (ci := 2) (v := .int lim) (ty := .int) (C := "StepHeap$Mover") (T := TM) (N := 13) S.1 S.2.1 S.2.2.2.2 (fun w h => List.mem_cons_of_mem _ (inM w h)) tyM tyM_ok nmM S.2.2.2.1 hK hP hD hS 0 rfl rfl 3 (by decide) (up tb_63) (fun _ h9 => h9) rfl hin rfl (by decide +kernel) rfl rfl (Nat.le_of_ble_eq_true rfl) d_M_init_57 (fun H locs hP hD hS => ?_)
  have hP : va_P D vwC [(h0, .inr (2, [.ref aC, .int half, .int k, .int lim, .ref aR, .int 0, .int 0, .int 0, .int 0, .int 0, .int 0, .int 0, .int 0])), (aR, .inl (cI, 8, .inl (fun _ => 0))), (aC, .inr (1, [.ref aP, .int (nI la), .int (700 * k + 200), .int 0, .int 1])), (aP, .inl (cP, np, .inr (.inr (.inr (.inr (fun _ => none))))))] H := hP
  have hD : va_D A [(h0, .inr (2, [.ref aC, .int half, .int k, .int lim, .ref aR, .int 0, .int 0, .int 0, .int 0, .int 0, .int 0, .int 0, .int 0])), (aR, .inl (cI, 8, .inl (fun _ => 0))), (aC, .inr (1, [.ref aP, .int (nI la), .int (700 * k + 200), .int 0, .int 1])), (aP, .inl (cP, np, .inr (.inr (.inr (.inr (fun _ => none))))))] := hD
  refine lv_aload_n S.1 S.2.1 d_M_init_60 rfl (lv_at hl 0 rfl) ?_
  refine lv_iconst (v := 1) S.1 S.2.1 d_M_init_61 (by decide) ?_
  have hPc := hP.sub (ws' := [(h0, .inr (2, [.ref aC, .int half, .int k, .int lim, .ref aR, .int 0, .int 0, .int 0, .int 0, .int 0, .int 0, .int 0, .int 0]))]) [0] rfl
  have hDc := hD.sub (ws' := [(h0, .inr (2, [.ref aC, .int half, .int k, .int lim, .ref aR, .int 0, .int 0, .int 0, .int 0, .int 0, .int 0, .int 0, .int 0]))]) [0] (by decide) rfl
  have hKc := hK.sub (tys' := []) [] rfl
  have hFc := va_free (wc := [(h0, .inr (2, [.ref aC, .int half, .int k, .int lim, .ref aR, .int 0, .int 0, .int 0, .int 0, .int 0, .int 0, .int 0, .int 0]))]) hD hS hA [0] rfl
  refine va_callv (va_runV (As := [.int 1]) (rest := []) S (c_M_useHalf0 l D h0 H.size aC aR half k lim 0 0 0 0 0 0 0 0 1) (cwV 1 hts (bt_V tb_58 tb_55 tb_57 tp_0 tb_3) rfl rfl rfl hd_M_useHalf ⟨Nat.le_of_ble_eq_true rfl, Nat.le_of_ble_eq_true rfl⟩) ⟨fun a U g mk z => by obtain ⟨q0, aR, qP, qK, qD⟩ := z; exact ⟨q0, aR, qP, va_K.moved (u := U) (U := U.calling g mk a) (Vm.Alike.refl U.vm) qK, qD⟩, va_recv hK hP (ci := 2) (q0 := 0) rfl rfl, fun U hU hW => ⟨rfl, by rw [hU], by rw [hU]; exact hPc, va_K.moved hW.alike hKc, hDc.weaken (fun _ _ _ _ => trivial)⟩⟩ rfl rfl hl.1 rfl (lv_room (Nat.le_of_ble_eq_true rfl)) d_M_init_62 ⟨Nat.le_of_ble_eq_true rfl, by show 13 + np + 0 ≤ 13 + np; omega⟩) hS (fun q _ h => hFc q h) hFc (fun u t H1 locs ht hvm hw hB hz1 hk1 hS => ?_)
  obtain ⟨hP1, hD1⟩ := hB
  rw [ht] at hP1
  obtain ⟨hP, hD⟩ := va_join (wr := [(aR, .inl (cI, 8, .inl (fun _ => 0))), (aC, .inr (1, [.ref aP, .int (nI la), .int (700 * k + 200), .int 0, .int 1])), (aP, .inl (cP, np, .inr (.inr (.inr (.inr (fun _ => none))))))]) (w1 := [(h0, .inr (2, [.ref aC, .int half, .int k, .int lim, .ref aR, .int 0, .int 0, .int 1, .int 1, .int (1 + half), .int 1, .int 1, .int 1]))]) hP hD [0] [1, 2, 3] rfl rfl (by decide) (by decide) hk1 hFc hP1 hD1
  generalize H1 = H at hP hS ⊢
  have hP : va_P D vwC [(aR, .inl (cI, 8, .inl (fun _ => 0))), (aC, .inr (1, [.ref aP, .int (nI la), .int (700 * k + 200), .int 0, .int 1])), (aP, .inl (cP, np, .inr (.inr (.inr (.inr (fun _ => none)))))), (h0, .inr (2, [.ref aC, .int half, .int k, .int lim, .ref aR, .int 0, .int 0, .int 1, .int 1, .int (1 + half), .int 1, .int 1, .int 1]))] H := hP
  have hD : va_D A [(aR, .inl (cI, 8, .inl (fun _ => 0))), (aC, .inr (1, [.ref aP, .int (nI la), .int (700 * k + 200), .int 0, .int 1])), (aP, .inl (cP, np, .inr (.inr (.inr (.inr (fun _ => none)))))), (h0, .inr (2, [.ref aC, .int half, .int k, .int lim, .ref aR, .int 0, .int 0, .int 1, .int 1, .int (1 + half), .int 1, .int 1, .int 1]))] := hD
  refine W.eq (g2 := F0 m 65 ls []) rfl ?_
  have hP9 := hP.sub (ws' := [(h0, .inr (2, [.ref ((cI, cP, aC, aR, aP) : ClassId × ClassId × Nat × Nat × Nat).2.2.1, .int half, .int k, .int lim, .ref ((cI, cP, aC, aR, aP) : ClassId × ClassId × Nat × Nat × Nat).2.2.2.1, .int 0, .int 0, .int 1, .int 1, .int (1 + half), .int 1, .int 1, .int 1])), (((cI, cP, aC, aR, aP) : ClassId × ClassId × Nat × Nat × Nat).2.2.1, .inr (1, [.ref ((cI, cP, aC, aR, aP) : ClassId × ClassId × Nat × Nat × Nat).2.2.2.2, .int (nI la), .int (700 * k + 200), .int 0, .int 1])), (((cI, cP, aC, aR, aP) : ClassId × ClassId × Nat × Nat × Nat).2.2.2.1, .inl (((cI, cP, aC, aR, aP) : ClassId × ClassId × Nat × Nat × Nat).1, 8, .inl (fun _ => 0))), (((cI, cP, aC, aR, aP) : ClassId × ClassId × Nat × Nat × Nat).2.2.2.2, .inl (((cI, cP, aC, aR, aP) : ClassId × ClassId × Nat × Nat × Nat).2.1, np, .inr (.inr (.inr (.inr (fun _ => none))))))]) [3, 1, 0, 2] rfl
  have hD9 := hD.sub (ws' := [(h0, .inr (2, [.ref ((cI, cP, aC, aR, aP) : ClassId × ClassId × Nat × Nat × Nat).2.2.1, .int half, .int k, .int lim, .ref ((cI, cP, aC, aR, aP) : ClassId × ClassId × Nat × Nat × Nat).2.2.2.1, .int 0, .int 0, .int 1, .int 1, .int (1 + half), .int 1, .int 1, .int 1])), (((cI, cP, aC, aR, aP) : ClassId × ClassId × Nat × Nat × Nat).2.2.1, .inr (1, [.ref ((cI, cP, aC, aR, aP) : ClassId × ClassId × Nat × Nat × Nat).2.2.2.2, .int (nI la), .int (700 * k + 200), .int 0, .int 1])), (((cI, cP, aC, aR, aP) : ClassId × ClassId × Nat × Nat × Nat).2.2.2.1, .inl (((cI, cP, aC, aR, aP) : ClassId × ClassId × Nat × Nat × Nat).1, 8, .inl (fun _ => 0))), (((cI, cP, aC, aR, aP) : ClassId × ClassId × Nat × Nat × Nat).2.2.2.2, .inl (((cI, cP, aC, aR, aP) : ClassId × ClassId × Nat × Nat × Nat).2.1, np, .inr (.inr (.inr (.inr (fun _ => none))))))]) [3, 1, 0, 2] (by decide) rfl
  exact W.vret S.1 S.2.1 hr (fun t ht hW => ⟨⟨(cI, cP, aC, aR, aP), rfl, trivial, by rw [ht]; exact hP9, va_K.moved hW.alike hK, hD9⟩, hS.F ht⟩) hS.2.2 d_M_init_65 hlocks
