/-! ===== THE LAW'S cell ===== -/
def lw_c (L : Nat) (xs : Nat → Int32) (k : Nat) : Int32 := if k < L then xs k else 0
set_option maxHeartbeats 400000 in
set_option maxRecDepth 100000 in
theorem c_L_cell (l : Launch) (b L : Nat) (xs : Nat → Int32) (hL : L ≤ 2050) (k : Nat) (hk : k < 2050) : Met l y_L_cell (.code y_L_cell b_L_cell 2 (some .int) :: bt) ({ frames := 0, cells := 0, slots := 0, locals := 0 }) (va_Pc [.ref b, .int (nI k)] (fun U => b < U.heap.size ∧ va_X b L xs U U.heap)) (QcRead (lw_c L xs k)) 0 0 (fun _ => False) := by
  refine Met.ofW (cc := b_L_cell) (maxL := 2) (ret := some .int) (by decide) rfl ?_
  intro p e s m args below meth c s₁ B hml hv
  obtain ⟨rfl, hbl, hX⟩ := hv
  have hts := atoms_spec (ws := .code y_L_cell b_L_cell 2 (some .int) :: bt) B.pre
  have S : CallFix p m c b_L_cell 2 s _ (.code y_L_cell b_L_cell 2 (some .int) :: bt) "StepHeapLaw" := ⟨B.exec, B.bytes, hml, findClass_of_methodNamed B.named, hts⟩
  have hr := B.returns
  have hlk := B.notSynchronized
  have hS : va_S (fun _ => False) s.heap s.heap [] := va_S.rf
  have hbA : ¬ (fun _ : Nat => False) b := fun z => z
  have hl := lv_entry ([.ref b, .int (nI k)]) (n := 2) (Nat.le_of_ble_eq_true rfl)
  rw [lg_entry_eq]
  generalize (lg_sl ([.ref b, .int (nI k)]) ++ List.replicate (2 - (lg_sl ([.ref b, .int (nI k)])).length) Slot.unset).toArray = ls at hl ⊢
  have hl : lv_has ls 2 [(0, .ref b), (1, .int (nI k))] := hl
  refine lv_iload_n S.1 S.2.1 d_L_cell_0 rfl (lv_at hl 1 rfl) ?_
  refine lv_aload_n S.1 S.2.1 d_L_cell_1 rfl (lv_at hl 0 rfl) ?_
  refine va_slen S.1 S.2.1 hX hbl hbA hS d_L_cell_2 ?_
  refine lv_icmp_ge (tgt := 12) S.1 S.2.1 d_L_cell_3 (by decide) (fun c_1 => ?_) (fun c_1 => ?_)
  · have hge : ¬ k < L := fun z => nI_ge z (by omega) c_1
    refine lv_iconst (v := 0) S.1 S.2.1 d_L_cell_12 (by decide) ?_
    exact cx_endI S hr hlk (by unfold lw_c; rw [if_neg hge]) d_L_cell_13
  · have hlt : k < L := by
      rcases Nat.lt_or_ge k L with q | q
      · exact q
      · exact absurd (nI_le q (by omega)) c_1
    refine lv_aload_n S.1 S.2.1 d_L_cell_6 rfl (lv_at hl 0 rfl) ?_
    refine lv_iload_n S.1 S.2.1 d_L_cell_7 rfl (lv_at hl 1 rfl) ?_
    refine va_sld S.1 S.2.1 hX hbl hbA hS (vp_in_nI hlt (by omega)) d_L_cell_8 ?_
    refine lv_goto (tgt := 13) S.1 S.2.1 d_L_cell_9 (by decide) ?_
    exact cx_endI S hr hlk (by unfold lw_c; rw [if_pos hlt, nI_clamp (by omega)]) d_L_cell_13
section LCELL
variable {p : Program} {l : Launch} {e : Env} {R : Room} {s : State} {m : MethodId} {args : Array Value} {below : List Frame} {meth : Method} {c : Code} {H : Heap} {locs : List Loc} {Q : State → Prop} {nL cells slots : Nat} {A : Nat → Prop} {cc : ByteArray} {pc : Nat} {ls : Array Slot} {rest st0 : List Value} {c1 : Cond}
theorem lw_cell (S : CallFix p m c cc nL s args (c1 :: bt) "StepHeapLaw") {b L : Nat} {xs : Nat → Int32} (hL : L ≤ 2050) (hX : va_X b L xs s s.heap) (hbl : b < s.heap.size) (hbA : ¬ A b) (hS : va_S A s.heap H locs) (k : Nat) (hk : k < 2050) (hR : 1 ≤ R.frames ∧ 21 ≤ R.locals) (hsize : ls.size = nL) (hst : st0 = .int (nI k) :: .ref b :: rest) (hr : (rest.map fun v => v.category).sum ≤ 8) (hdg : decode cc pc = .ok (.invokestatic 9, 3)) (hf : cells ≤ R.cells ∧ slots ≤ R.slots)
    (kk : W p l e R s m args below meth c H locs cells slots Q (F0 m (pc + 3) ls (.int (lw_c L xs k) :: rest))) : W p l e R s m args below meth c H locs cells slots Q (F0 m pc ls st0) := by
  have hts := S.2.2.2.2
  have up := fun {w : Cond} (h : w ∈ bt) => hts w (List.mem_cons_of_mem _ h)
  have hXH : va_X b L xs s H := va_X.kept hX (hS.2.1 b hbl hbA)
  have hbH : b < H.size := Nat.lt_of_lt_of_le hbl hS.1
  refine W.callR (W.runS (As := [.ref b, .int (nI k)]) (rest := rest) S (c_L_cell l b L xs hL k hk) ⟨callB_of (ws' := bt) 2 hts (bt_gi tb_343) rfl rfl rfl (up tb_0) (up tb_341) hdf_L_cell ⟨by show 0 + 1 ≤ R.frames; omega, by show 8 + (2 + 11) + 0 ≤ R.locals; omega⟩, up tb_342⟩
    ⟨fun v U g mk q => ?_, fun U hU hW => ⟨rfl, by rw [hU]; exact hbH, by rw [hU]; exact va_X.moved hW.alike hXH⟩⟩ rfl rfl hsize hst (lv_room hr) hdg ⟨hf.1, hf.2⟩) kk
  obtain ⟨q0, q1, q2⟩ := q
  exact ⟨q0, q1, va_X.moved (u := U) (U := U.calling g mk v) (Vm.Alike.refl U.vm) q2⟩
end LCELL
