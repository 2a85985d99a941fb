/-! ===== StepHeap: the constructor ===== -/
def sh_h0 (h : Int32) : Int32 := if 1024 < (if h < 60000 then h else 60000) then (if h < 60000 then h else 60000) else 1024
def sh_k0 (k : Int32) : Int32 := if 1 < (if k < 64 then k else 64) then (if k < 64 then k else 64) else 1
set_option maxHeartbeats 4000000 in
set_option maxRecDepth 100000 in
theorem c_X_init (l : Launch) (D : va_G) (h0 sz z la np : Nat) (h k : Int32) (ez : sh_h0 h = nI z) (hk0 : ¬ sh_k0 k + 1 = 0) (hlaz : 2 * (2 * z + 64) = la) (hla : la < 2 ^ 30) (hnp : np = la / 1024 + 1) : Met l y_X_init (.code y_X_init b_X_init 6 none :: bt) ({ frames := 3, cells := 4, slots := 26 + np, locals := 63 })
    (va_Pc [.ref h0, .int h, .int k] (fun U => U.heap.size = sz ∧ va_P D vwC [(h0, .inr (0, [.null, .null]))] U.heap ∧ va_K D vwC [] U ∧ va_D (fun _ => True) [(h0, .inr (0, [.null, .null]))] ∧ va_AO "StepHeap$Page" U ∧ nx U))
    (va_Qv (fun u : ClassId × ClassId × cx_a => aXX u.2.2 = h0) (fun u t => cx_St D u.1 u.2.1 u.2.2 (2 * nI z + 64, sh_k0 k, nI z * sh_k0 k / (sh_k0 k + 1), nI la, 700 * sh_k0 k + 200) np ((0, 1, (fun _ => 0), []), 0, 0, 1, 1, 1 + (2 * nI z + 64), 1, 1, 1, (fun _ => 0)) [] (va_A [(h0, .inr (0, [.null, .null]))] sz) t.heap ∧ va_K D vwC (cx_tys u.1 u.2.1) t) (va_A [(h0, .inr (0, [.null, .null]))] sz)) 4 (26 + np) (va_A [(h0, .inr (0, [.null, .null]))] sz) := by
  refine Met.ofW (cc := b_X_init) (maxL := 6) (ret := none) (by decide) rfl ?_
  intro p e s m args below meth c s₁ B hml hv
  obtain ⟨rfl, hsz, hP, hK, hD0, hAO, hnx⟩ := hv
  have hr := B.returns
  have hts := atoms_spec (ws := .code y_X_init b_X_init 6 none :: bt) B.pre
  have up := fun {w : Cond} (h : w ∈ bt) => hts w (List.mem_cons_of_mem _ h)
  have S : CallFix p m c b_X_init 6 s _ (.code y_X_init b_X_init 6 none :: bt) "StepHeap" := ⟨B.exec, B.bytes, hml, findClass_of_methodNamed B.named, hts⟩
  have hlocks := B.notSynchronized
  have hin := (name_of_methodNamed B.named B.method).1
  subst hsz
  have hD := hD0.self (sz := s.heap.size)
  generalize hAe : va_A [(h0, .inr (0, [.null, .null]))] s.heap.size = A at hD ⊢
  have hA : ∀ q : Nat, s.heap.size ≤ q → A q := fun q h => by rw [← hAe]; exact Or.inr h
  have hS : va_S A s.heap s.heap [] := va_S.rf
  have hl := lv_entry ([.ref h0, .int h, .int k]) (n := 6) (Nat.le_of_ble_eq_true rfl)
  rw [lg_entry_eq]
  generalize (lg_sl ([.ref h0, .int h, .int k]) ++ List.replicate (6 - (lg_sl ([.ref h0, .int h, .int k])).length) Slot.unset).toArray = ls at hl ⊢
  have hl : lv_has ls 6 [(0, .ref h0), (1, .int h), (2, .int k)] := hl
  refine lv_aload_n S.1 S.2.1 d_X_init_0 rfl (lv_at hl 0 rfl) ?_
  refine W.objInit S.1 S.2.1 S.2.2.2.1 (up tb_13) (up tb_14) (up tb_15) rfl (by rw [S.2.2.1]; exact hl.1) rfl d_X_init_1 (Nat.le_of_ble_eq_true rfl) (Nat.le_of_ble_eq_true rfl) ?_
  refine W.eq (g2 := F0 m 4 ls []) rfl ?_
  refine lv_sipush (v := 1024) S.1 S.2.1 d_X_init_4 (by decide) ?_
  refine lv_ldc (v := 60000) S.1 S.2.1 S.2.2.2.1 (S.2.2.2.2 _ (List.mem_cons_of_mem _ tb_16)) d_X_init_7 ?_
  refine lv_iload_n S.1 S.2.1 d_X_init_9 rfl (lv_at hl 1 rfl) ?_
  refine va_mmin S.1 S.2.1 (by rw [S.2.2.1]; exact hl.1.symm) S.2.2.2.1 (up tb_17) (up tb_18) (up tb_2) (up tb_19) (Nat.le_of_ble_eq_true rfl) (Nat.le_of_ble_eq_true rfl) (Nat.zero_le _) (Nat.zero_le _) d_X_init_10 ?_
  refine va_mmax S.1 S.2.1 (by rw [S.2.2.1]; exact hl.1.symm) S.2.2.2.1 (up tb_20) (up tb_21) (up tb_2) (up tb_22) (Nat.le_of_ble_eq_true rfl) (Nat.le_of_ble_eq_true rfl) (Nat.zero_le _) (Nat.zero_le _) d_X_init_13 ?_
  refine W.eq (g2 := F0 m 16 ls [.int (sh_h0 h)]) rfl ?_
  rw [ez]
  refine lv_istore_n (lv' := [(3, .int (nI z)), (0, .ref h0), (1, .int h), (2, .int k)]) S.1 S.2.1 d_X_init_16 rfl hl (by decide) rfl (fun ls hl => ?_)
  refine lv_iconst (v := 1) S.1 S.2.1 d_X_init_17 (by decide) ?_
  refine lv_bipush (v := 64) S.1 S.2.1 d_X_init_18 (by decide) ?_
  refine lv_iload_n S.1 S.2.1 d_X_init_20 rfl (lv_at hl 3 rfl) ?_
  refine va_mmin S.1 S.2.1 (by rw [S.2.2.1]; exact hl.1.symm) S.2.2.2.1 (up tb_17) (up tb_18) (up tb_2) (up tb_19) (Nat.le_of_ble_eq_true rfl) (Nat.le_of_ble_eq_true rfl) (Nat.zero_le _) (Nat.zero_le _) d_X_init_21 ?_
  refine va_mmax S.1 S.2.1 (by rw [S.2.2.1]; exact hl.1.symm) S.2.2.2.1 (up tb_20) (up tb_21) (up tb_2) (up tb_22) (Nat.le_of_ble_eq_true rfl) (Nat.le_of_ble_eq_true rfl) (Nat.zero_le _) (Nat.zero_le _) d_X_init_24 ?_
  refine W.eq (g2 := F0 m 27 ls [.int (sh_k0 k)]) rfl ?_
  refine lv_istore (lv' := [(4, .int (sh_k0 k)), (3, .int (nI z)), (0, .ref h0), (1, .int h), (2, .int k)]) S.1 S.2.1 d_X_init_27 hl (by decide) rfl (fun ls hl => ?_)
  refine lv_iconst (v := 2) S.1 S.2.1 d_X_init_29 (by decide) ?_
  refine lv_iload_n S.1 S.2.1 d_X_init_30 rfl (lv_at hl 1 rfl) ?_
  refine lv_imul S.1 S.2.1 d_X_init_31 ?_
  refine lv_bipush (v := 64) S.1 S.2.1 d_X_init_32 (by decide) ?_
  refine lv_iadd S.1 S.2.1 d_X_init_34 ?_
  refine lv_istore (lv' := [(5, .int ((2 * (nI z)) + 64)), (4, .int (sh_k0 k)), (3, .int (nI z)), (0, .ref h0), (1, .int h), (2, .int k)]) S.1 S.2.1 d_X_init_35 hl (by decide) rfl (fun ls hl => ?_)
  refine lv_aload_n S.1 S.2.1 d_X_init_37 rfl (lv_at hl 3 rfl) ?_
  refine va_new (D := D) (ci := 2) (fs := [.null, .int 0, .int 0, .int 0, .null, .int 0, .int 0, .int 0, .int 0, .int 0, .int 0, .int 0, .int 0]) (C := "StepHeap$Mover") (T := TM) (N := 13) S.1 S.2.1 S.2.2.2.2 (fun w h => List.mem_cons_of_mem _ (inM w h)) tyM tyM_ok S.2.2.2.1 (up tb_23) (up tb_24) (up tb_3) hK hP hD hS hA rfl (fun j hj => by rcases (show j = 0 ∨ j = 1 ∨ j = 2 ∨ j = 3 ∨ j = 4 ∨ j = 5 ∨ j = 6 ∨ j = 7 ∨ j = 8 ∨ j = 9 ∨ j = 10 ∨ j = 11 ∨ j = 12 by omega) with rfl | rfl | rfl | rfl | rfl | rfl | rfl | rfl | rfl | rfl | rfl | rfl | rfl <;> rfl) (Nat.le_of_ble_eq_true rfl) (by show 0 + 13 ≤ 26 + np; omega) d_X_init_38 (fun aM H hP hD hS => ?_)
  refine W.cs (cells' := 1) (slots' := 13) rfl rfl ?_
  have hP : va_P D vwC [(h0, .inr (0, [.null, .null])), (aM, .inr (2, [.null, .int 0, .int 0, .int 0, .null, .int 0, .int 0, .int 0, .int 0, .int 0, .int 0, .int 0, .int 0]))] H := hP
  have hD : va_D A [(h0, .inr (0, [.null, .null])), (aM, .inr (2, [.null, .int 0, .int 0, .int 0, .null, .int 0, .int 0, .int 0, .int 0, .int 0, .int 0, .int 0, .int 0]))] := hD
  refine lv_dup S.1 S.2.1 d_X_init_41 rfl ?_
  refine lv_iload S.1 S.2.1 d_X_init_42 (lv_at hl 0 rfl) ?_
  refine lv_iload S.1 S.2.1 d_X_init_44 (lv_at hl 1 rfl) ?_
  refine lv_iload_n S.1 S.2.1 d_X_init_46 rfl (lv_at hl 2 rfl) ?_
  refine lv_iload S.1 S.2.1 d_X_init_47 (lv_at hl 1 rfl) ?_
  refine lv_imul S.1 S.2.1 d_X_init_49 ?_
  refine lv_iload S.1 S.2.1 d_X_init_50 (lv_at hl 1 rfl) ?_
  refine lv_iconst (v := 1) S.1 S.2.1 d_X_init_52 (by decide) ?_
  refine lv_iadd S.1 S.2.1 d_X_init_53 ?_
  refine lv_idiv S.1 S.2.1 d_X_init_54 hk0 ?_
  have hPc := hP.sub (ws' := [(aM, .inr (2, [.null, .int 0, .int 0, .int 0, .null, .int 0, .int 0, .int 0, .int 0, .int 0, .int 0, .int 0, .int 0]))]) [1] rfl
  have hDc := hD.sub (ws' := [(aM, .inr (2, [.null, .int 0, .int 0, .int 0, .null, .int 0, .int 0, .int 0, .int 0, .int 0, .int 0, .int 0, .int 0]))]) [1] (by decide) rfl
  have hKc := hK.sub (tys' := []) [] rfl
  have hFc := va_free (wc := [(aM, .inr (2, [.null, .int 0, .int 0, .int 0, .null, .int 0, .int 0, .int 0, .int 0, .int 0, .int 0, .int 0, .int 0]))]) hD hS hA [1] rfl
  have hhalf : 2 * ((2 * (nI z)) + 64) = nI la := by rw [show (2 : Int32) = nI 2 from rfl, show (64 : Int32) = nI 64 from rfl, pk_mul, nI_add, pk_mul, hlaz]
  refine va_callv (va_runI (As := [.int ((2 * (nI z)) + 64), .int (sh_k0 k), .int (((nI z) * (sh_k0 k)) / ((sh_k0 k) + 1))]) (rest := [.ref aM, .ref h0]) S (c_M_init l D aM H.size la np ((2 * (nI z)) + 64) (sh_k0 k) (((nI z) * (sh_k0 k)) / ((sh_k0 k) + 1)) hhalf hla hnp) (cwI 3 hts (bt_gi tb_27) rfl rfl rfl (up tb_3) (up tb_25) (up tb_26) rfl hd_M_init.2 ⟨Nat.le_of_ble_eq_true rfl, Nat.le_of_ble_eq_true rfl⟩) ⟨fun a U g mk z => by obtain ⟨q0, q1, qP, qK, qD, qA⟩ := z; exact ⟨q0, q1, qP, va_K.moved (u := U) (U := U.calling g mk a) (Vm.Alike.refl U.vm) qK, qD, va_AO.moved (u := U) (U := U.calling g mk a) (Vm.Alike.refl U.vm) qA⟩, fun U hU hW => ⟨rfl, by rw [hU], by rw [hU]; exact hPc, va_K.moved hW.alike hKc, hDc.weaken (fun _ _ _ _ => trivial), va_AO.moved hW.alike hAO⟩⟩ rfl rfl hl.1 rfl (lv_room (Nat.le_of_ble_eq_true rfl)) d_X_init_55 ⟨Nat.le_of_ble_eq_true rfl, by show 13 + (13 + np) ≤ 26 + np; omega⟩) hS (fun q _ h => hFc q h) hFc (fun u t H1 locs ht hvm hw hB hz1 hk1 hS => ?_)
  obtain ⟨cI, cP, aC, aR, aP⟩ := u
  obtain ⟨hP1, hK1, hD1⟩ := hB
  rw [ht] at hP1
  have hK1 := va_K.moved hvm.symm hK1
  obtain ⟨hP, hD⟩ := va_join (wr := [(h0, .inr (0, [.null, .null]))]) (w1 := [(aM, .inr (2, [.ref aC, .int ((2 * (nI z)) + 64), .int (sh_k0 k), .int (((nI z) * (sh_k0 k)) / ((sh_k0 k) + 1)), .ref aR, .int 0, .int 0, .int 1, .int 1, .int (1 + ((2 * (nI z)) + 64)), .int 1, .int 1, .int 1])), (aC, .inr (1, [.ref aP, .int (nI la), .int (700 * (sh_k0 k) + 200), .int 0, .int 1])), (aR, .inl (cI, 8, .inl (fun _ => 0))), (aP, .inl (cP, np, .inr (.inr (.inr (.inr (fun _ => none))))))]) hP hD [1] [0] rfl rfl (by decide) (by decide) hk1 hFc hP1 hD1
  have hK : va_K D vwC (cx_tys cI cP) s := hK1
  generalize H1 = H at hP hS ⊢
  have hP : va_P D vwC [(h0, .inr (0, [.null, .null])), (aM, .inr (2, [.ref aC, .int ((2 * (nI z)) + 64), .int (sh_k0 k), .int (((nI z) * (sh_k0 k)) / ((sh_k0 k) + 1)), .ref aR, .int 0, .int 0, .int 1, .int 1, .int (1 + ((2 * (nI z)) + 64)), .int 1, .int 1, .int 1])), (aC, .inr (1, [.ref aP, .int (nI la), .int (700 * (sh_k0 k) + 200), .int 0, .int 1])), (aR, .inl (cI, 8, .inl (fun _ => 0))), (aP, .inl (cP, np, .inr (.inr (.inr (.inr (fun _ => none))))))] H := hP
  have hD : va_D A [(h0, .inr (0, [.null, .null])), (aM, .inr (2, [.ref aC, .int ((2 * (nI z)) + 64), .int (sh_k0 k), .int (((nI z) * (sh_k0 k)) / ((sh_k0 k) + 1)), .ref aR, .int 0, .int 0, .int 1, .int 1, .int (1 + ((2 * (nI z)) + 64)), .int 1, .int 1, .int 1])), (aC, .inr (1, [.ref aP, .int (nI la), .int (700 * (sh_k0 k) + 200), .int 0, .int 1])), (aR, .inl (cI, 8, .inl (fun _ => 0))), (aP, .inl (cP, np, .inr (.inr (.inr (.inr (fun _ => none))))))] := hD
  refine W.eq (g2 := F0 m 58 ls [.ref aM, .ref h0]) rfl ?_
  refine va_putF (D := D) (ci := 0) (v := .ref aM) (ty := .object "StepHeap$Mover") (C := "StepHeap") (T := TX) (N := 2) S.1 S.2.1 S.2.2.2.2 (fun w h => List.mem_cons_of_mem _ (inX w h)) tyX tyX_ok nmX S.2.2.2.1 hK hP hD hS 0 rfl rfl 1 (by decide) (up tb_104) (fun _ h9 => h9) rfl hin rfl (by decide +kernel) rfl rfl (Nat.le_of_ble_eq_true rfl) d_X_init_58 (fun H locs hP hD hS => ?_)
  have hP : va_P D vwC [(h0, .inr (0, [.null, .ref aM])), (aM, .inr (2, [.ref aC, .int ((2 * (nI z)) + 64), .int (sh_k0 k), .int (((nI z) * (sh_k0 k)) / ((sh_k0 k) + 1)), .ref aR, .int 0, .int 0, .int 1, .int 1, .int (1 + ((2 * (nI z)) + 64)), .int 1, .int 1, .int 1])), (aC, .inr (1, [.ref aP, .int (nI la), .int (700 * (sh_k0 k) + 200), .int 0, .int 1])), (aR, .inl (cI, 8, .inl (fun _ => 0))), (aP, .inl (cP, np, .inr (.inr (.inr (.inr (fun _ => none))))))] H := hP
  have hD : va_D A [(h0, .inr (0, [.null, .ref aM])), (aM, .inr (2, [.ref aC, .int ((2 * (nI z)) + 64), .int (sh_k0 k), .int (((nI z) * (sh_k0 k)) / ((sh_k0 k) + 1)), .ref aR, .int 0, .int 0, .int 1, .int 1, .int (1 + ((2 * (nI z)) + 64)), .int 1, .int 1, .int 1])), (aC, .inr (1, [.ref aP, .int (nI la), .int (700 * (sh_k0 k) + 200), .int 0, .int 1])), (aR, .inl (cI, 8, .inl (fun _ => 0))), (aP, .inl (cP, np, .inr (.inr (.inr (.inr (fun _ => none))))))] := hD
  refine lv_aload_n S.1 S.2.1 d_X_init_61 rfl (lv_at hl 3 rfl) ?_
  refine lv_aload_n S.1 S.2.1 d_X_init_62 rfl (lv_at hl 3 rfl) ?_
  refine va_get (D := D) (ci := 0) (v := .ref aM) (C := "StepHeap") (T := TX) (N := 2) S.1 S.2.1 S.2.2.2.2 (fun w h => List.mem_cons_of_mem _ (inX w h)) S.2.2.2.1 hK hP 0 rfl rfl 1 (by decide) (up tb_104) (fun _ h9 => h9) rfl d_X_init_63 ?_
  refine va_getN (D := D) (ci := 2) (v := .ref aC) (C := "StepHeap$Mover") (T := TM) (N := 13) S.1 S.2.1 S.2.2.2.2 (fun w h => List.mem_cons_of_mem _ (inM w h)) S.2.2.2.1 hK hP 1 rfl rfl 0 (by decide) (va_Nw.use rfl (hnx _ nxw_1)) (fun _ h9 => h9) rfl d_X_init_66 ?_
  refine va_putF (D := D) (ci := 0) (v := .ref aC) (ty := .object "StepHeap$Cells") (C := "StepHeap") (T := TX) (N := 2) S.1 S.2.1 S.2.2.2.2 (fun w h => List.mem_cons_of_mem _ (inX w h)) tyX tyX_ok nmX S.2.2.2.1 hK hP hD hS 0 rfl rfl 0 (by decide) (up tb_103) (fun _ h9 => h9) rfl hin rfl (by decide +kernel) rfl rfl (Nat.le_of_ble_eq_true rfl) d_X_init_69 (fun H locs hP hD hS => ?_)
  have hP : va_P D vwC [(h0, .inr (0, [.ref aC, .ref aM])), (aM, .inr (2, [.ref aC, .int ((2 * (nI z)) + 64), .int (sh_k0 k), .int (((nI z) * (sh_k0 k)) / ((sh_k0 k) + 1)), .ref aR, .int 0, .int 0, .int 1, .int 1, .int (1 + ((2 * (nI z)) + 64)), .int 1, .int 1, .int 1])), (aC, .inr (1, [.ref aP, .int (nI la), .int (700 * (sh_k0 k) + 200), .int 0, .int 1])), (aR, .inl (cI, 8, .inl (fun _ => 0))), (aP, .inl (cP, np, .inr (.inr (.inr (.inr (fun _ => none))))))] H := hP
  have hD : va_D A [(h0, .inr (0, [.ref aC, .ref aM])), (aM, .inr (2, [.ref aC, .int ((2 * (nI z)) + 64), .int (sh_k0 k), .int (((nI z) * (sh_k0 k)) / ((sh_k0 k) + 1)), .ref aR, .int 0, .int 0, .int 1, .int 1, .int (1 + ((2 * (nI z)) + 64)), .int 1, .int 1, .int 1])), (aC, .inr (1, [.ref aP, .int (nI la), .int (700 * (sh_k0 k) + 200), .int 0, .int 1])), (aR, .inl (cI, 8, .inl (fun _ => 0))), (aP, .inl (cP, np, .inr (.inr (.inr (.inr (fun _ => none))))))] := hD
  have hP9 := hP.sub (ws' := cx_w cI cP (h0, aC, aM, aR, aP) (2 * nI z + 64, sh_k0 k, nI z * sh_k0 k / (sh_k0 k + 1), nI la, 700 * sh_k0 k + 200) np ((0, 1, (fun _ => 0), []), 0, 0, 1, 1, 1 + (2 * nI z + 64), 1, 1, 1, (fun _ => 0)) []) [0, 2, 1, 3, 4] rfl
  have hD9 := hD.sub (ws' := cx_w cI cP (h0, aC, aM, aR, aP) (2 * nI z + 64, sh_k0 k, nI z * sh_k0 k / (sh_k0 k + 1), nI la, 700 * sh_k0 k + 200) np ((0, 1, (fun _ => 0), []), 0, 0, 1, 1, 1 + (2 * nI z + 64), 1, 1, 1, (fun _ => 0)) []) [0, 2, 1, 3, 4] (by decide) rfl
  refine W.cs (cells' := 4) (slots' := 26 + np) rfl (by omega) ?_
  exact W.vret S.1 S.2.1 hr (fun t ht hW => ⟨⟨(cI, cP, (h0, aC, aM, aR, aP)), rfl, rfl, ⟨⟨rfl, List.nodup_nil, fun i h => absurd h List.not_mem_nil, fun _ _ => rfl, ⟨la, rfl, hla, hnp⟩, List.nodup_nil⟩, by rw [ht]; exact hP9, hD9⟩, va_K.moved hW.alike hK⟩, hS.F ht⟩) hS.2.2 d_X_init_72 hlocks
