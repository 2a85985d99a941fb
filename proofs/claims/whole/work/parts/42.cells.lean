/-! ===== Page.<init>, Cells.read, Cells.write ===== -/
set_option maxHeartbeats 4000000 in
set_option maxRecDepth 100000 in
/-- Page(): a row of 1,024 zeros -/
theorem c_P_init (l : Launch) (D : va_G) (cI : ClassId) (h0 sz : Nat) : Met l y_P_init (.code y_P_init b_P_init 1 none :: bt) ({ frames := 1, cells := 1, slots := 1024, locals := 12 })
    (va_Pc [.ref h0] (fun U => U.heap.size = sz ∧ va_P D vwC [(h0, .inr (3, [.null]))] U.heap ∧ va_K D vwC [(cI, .int)] U ∧ va_D (fun _ => True) [(h0, .inr (3, [.null]))]))
    (va_Qv (fun _ : Unit => True) (fun _ t => ∃ r, va_P D vwC [(h0, .inr (3, [.ref r])), (r, .inl (cI, 1024, .inl (fun _ => 0)))] t.heap ∧ va_D (va_A [(h0, .inr (3, [.null]))] sz) [(h0, .inr (3, [.ref r])), (r, .inl (cI, 1024, .inl (fun _ => 0)))]) (va_A [(h0, .inr (3, [.null]))] sz)) 1 1024 (va_A [(h0, .inr (3, [.null]))] sz) := by
  refine Met.ofW (cc := b_P_init) (maxL := 1) (ret := none) (by decide) rfl ?_
  intro p e s m args below meth c s₁ B hml hv
  obtain ⟨rfl, hsz, hP, hK, hD0⟩ := hv
  have hx := B.exec
  have hb := B.bytes
  have hr := B.returns
  have hts := atoms_spec (ws := .code y_P_init b_P_init 1 none :: bt) B.pre
  have up := fun {w : Cond} (h : w ∈ bt) => hts w (List.mem_cons_of_mem _ h)
  have hown : s.vm.findClass "StepHeap$Page" = some m.cls := findClass_of_methodNamed B.named
  have hlocks := B.notSynchronized
  have hin : meth.name = "<init>" := (name_of_methodNamed B.named B.method).1
  subst hsz
  have hD := hD0.self (sz := s.heap.size)
  generalize hAe : va_A [(h0, .inr (3, [.null]))] s.heap.size = A at hD ⊢
  have hA : ∀ q : Nat, s.heap.size ≤ q → A q := fun q h => by rw [← hAe]; exact Or.inr h
  have hS : va_S A s.heap s.heap [] := va_S.rf
  have hl := lv_entry ([.ref h0]) (n := 1) (Nat.le_of_ble_eq_true rfl)
  rw [lg_entry_eq]
  generalize (lg_sl ([.ref h0]) ++ List.replicate (1 - (lg_sl ([.ref h0])).length) Slot.unset).toArray = ls at hl ⊢
  have hl : lv_has ls 1 [(0, .ref h0)] := hl
  refine lv_aload_n hx hb d_P_init_0 rfl (lv_at hl 0 rfl) ?_
  refine W.objInit hx hb hown (up tb_184) (up tb_14) (up tb_15) rfl (by rw [hml]; exact hl.1) rfl d_P_init_1 (Nat.le_of_ble_eq_true rfl) (Nat.le_of_ble_eq_true rfl) ?_
  refine W.eq (g2 := F0 m 4 ls []) rfl ?_
  refine lv_aload_n hx hb d_P_init_4 rfl (lv_at hl 0 rfl) ?_
  refine lv_sipush (v := 1024) hx hb d_P_init_5 (by decide) ?_
  refine va_newa (atype := .int) (N' := 1024) (a0 := (1024, .inl (fun _ => 0))) (ty := .int) hx hb (up tb_54) rfl hK hP hD hS hA (fun _ => rfl) (by decide) (by decide) (by decide) (Nat.le_of_ble_eq_true rfl) (Nat.le_of_ble_eq_true rfl) d_P_init_8 (fun q cA H hK2 hP hD hS => ?_)
  have hcA : cA = cI := by
    have e1 := (hK2.2 1 (cA, .int) rfl).2
    have e2 := (hK2.2 0 (cI, .int) rfl).2
    have e1 : s.vm.findClass ("[" ++ FieldType.int.toString) = some cA := e1
    have e2 : s.vm.findClass ("[" ++ FieldType.int.toString) = some cI := e2
    exact Option.some.inj (e1.symm.trans e2)
  subst hcA
  refine va_putF (D := D) (ci := 3) (v := .ref q) (ty := .array .int) (C := "StepHeap$Page") (T := TP) (N := 1) hx hb hts (fun w h => List.mem_cons_of_mem _ (inP w h)) tyP tyP_ok nmP hown hK hP hD hS 0 rfl rfl 0 (by decide) (up tb_185) (fun _ h9 => h9) rfl hin rfl (by decide +kernel) rfl rfl (Nat.le_of_ble_eq_true rfl) d_P_init_10 (fun H locs hP hD hS => ?_)
  have hP : va_P D vwC [(h0, .inr (3, [.ref q])), (q, .inl (cA, 1024, .inl (fun _ => 0)))] H := hP
  have hD : va_D A [(h0, .inr (3, [.ref q])), (q, .inl (cA, 1024, .inl (fun _ => 0)))] := hD
  exact W.vret hx hb hr (fun t ht hW => ⟨⟨(), rfl, trivial, q, by rw [ht]; exact hP, hD⟩, hS.F ht⟩) hS.2.2 d_P_init_13
