/-! ===== Mover.placeInUse, follow, link ===== -/
section LPP
variable {p : Program} {l : Launch} {e : Env} {R : Room} {s : State} {m : MethodId} {args : Array Value} {below : List Frame} {meth : Method} {c : Code} {Q : State → Prop} {D : va_G} {cI cP : ClassId} {a : cx_a} {κ : sh_K} {np n0 : Nat} {A : Nat → Prop} {c1 : Cond}
set_option maxHeartbeats 4000000 in
set_option maxRecDepth 100000 in
theorem lp_piu (S : CallFix p m c b_M_placeInUse 6 s args (c1 :: bt) "StepHeap$Mover") (hbud : 2 * (np - n0) ≤ R.cells ∧ 1025 * (np - n0) ≤ R.slots) (hfr : 3 ≤ R.frames) (hlc : 55 ≤ R.locals) {σ0 : sh_S} {x to h : Int32} {N : Nat} (hN : N < 2 ^ 30) :
    ∀ (n j : Nat) (i : Int32) (cs : sh_C) (H : Heap) (locs : List Loc) (ls : Array Slot), i = nI j → j + n = N → cx_Wd D cI cP a κ np s A n0 (uC σ0 cs) H locs → lv_has ls 6 [(5, .int i), (4, .int (nI N)), (3, .int to), (2, .int h), (0, .ref (aXM a)), (1, .int x)] →
    (∀ (H' : Heap) (locs' : List Loc) (ls' : Array Slot), cx_Wd D cI cP a κ np s A n0 (uC σ0 (sh_copyN κ cs x to i n)) H' locs' → lv_has ls' 6 [(5, .int (nI N)), (4, .int (nI N)), (3, .int to), (2, .int h), (0, .ref (aXM a)), (1, .int x)] → W p l e R s m args below meth c H' locs' (2 * (nal (uC σ0 (sh_copyN κ cs x to i n)) - n0)) (1025 * (nal (uC σ0 (sh_copyN κ cs x to i n)) - n0)) Q (F0 m 84 ls' [])) →
    W p l e R s m args below meth c H locs (2 * (nal (uC σ0 cs) - n0)) (1025 * (nal (uC σ0 cs) - n0)) Q (F0 m 49 ls []) := by
  intro n
  induction n with
  | zero =>
    intro j i cs H locs ls hi hj hw hl K
    refine lv_iload S.1 S.2.1 d_M_placeInUse_49 (lv_at hl 0 rfl) ?_
    refine lv_iload S.1 S.2.1 d_M_placeInUse_51 (lv_at hl 1 rfl) ?_
    refine lv_icmp_ge (tgt := 84) S.1 S.2.1 d_M_placeInUse_53 (by decide) (fun c_1 => ?_) (fun c_1 => ?_)
    · have c_1n := i32_nlt c_1
      have ej : i = nI N := by rw [hi, show j = N by omega]
      exact K H locs ls hw (by rw [← ej] at hl ⊢; exact hl)
    · have c_1n := i32_lt c_1
      exact absurd (by rw [hi, show j = N by omega]; exact nI_le (Nat.le_refl _) (by omega)) c_1
  | succ n ih =>
    intro j i cs H locs ls hi hj hw hl K
    refine lv_iload S.1 S.2.1 d_M_placeInUse_49 (lv_at hl 0 rfl) ?_
    refine lv_iload S.1 S.2.1 d_M_placeInUse_51 (lv_at hl 1 rfl) ?_
    refine lv_icmp_ge (tgt := 84) S.1 S.2.1 d_M_placeInUse_53 (by decide) (fun c_1 => ?_) (fun c_1 => ?_)
    · have c_1n := i32_nlt c_1
      exact absurd (by rw [hi] at c_1; exact c_1) (nI_ge (show j < N by omega) (by omega))
    · have c_1n := i32_lt c_1
      refine lv_aload_n S.1 S.2.1 d_M_placeInUse_56 rfl (lv_at hl 4 rfl) ?_
      refine cx_get S hw (q0 := 2) (ci := 2) (k := 0) (v := .ref (aXC a)) (fun _ => rfl) rfl (by decide) inM tb_59 rfl rfl d_M_placeInUse_57 ?_
      refine lv_iload_n S.1 S.2.1 d_M_placeInUse_60 rfl (lv_at hl 2 rfl) ?_
      refine lv_iload S.1 S.2.1 d_M_placeInUse_61 (lv_at hl 0 rfl) ?_
      refine lv_iadd S.1 S.2.1 d_M_placeInUse_63 ?_
      refine lv_aload_n S.1 S.2.1 d_M_placeInUse_64 rfl (lv_at hl 4 rfl) ?_
      refine cx_get S hw (q0 := 2) (ci := 2) (k := 0) (v := .ref (aXC a)) (fun _ => rfl) rfl (by decide) inM tb_59 rfl rfl d_M_placeInUse_65 ?_
      refine lv_iload_n S.1 S.2.1 d_M_placeInUse_68 rfl (lv_at hl 5 rfl) ?_
      refine lv_iload S.1 S.2.1 d_M_placeInUse_69 (lv_at hl 0 rfl) ?_
      refine lv_iadd S.1 S.2.1 d_M_placeInUse_71 ?_
      refine cx_call S hw hbud (As := [.int (x + i)]) (rest := [.int (to + i), .ref (aXC a)]) (c_C_read l D cI cP a κ np (uC σ0 cs) (x + i)) (q0 := 1) (fun _ => rfl) rfl tb_170 tb_167 tb_168 tb_169 tb_4 hd_C_read rfl ⟨by omega, by omega⟩ hl.1 rfl (Nat.le_of_ble_eq_true rfl) d_M_placeInUse_72 (fun H locs hw => ?_)
      refine W.eq (g2 := F0 m 75 ls [.int (sh_val κ ((uC σ0 cs)).1 (x + i)), .int (to + i), .ref (aXC a)]) rfl ?_
      refine cx_call S hw hbud (As := [.int (to + i), .int (sh_val κ ((uC σ0 cs)).1 (x + i))]) (rest := []) (c_C_write l D cI cP a κ np (uC (uC σ0 cs) (sh_touch κ ((uC σ0 cs)).1)) (to + i) (sh_val κ ((uC σ0 cs)).1 (x + i))) (q0 := 1) (fun _ => rfl) rfl tb_179 tb_176 tb_177 tb_178 tb_4 hd_C_write rfl ⟨by omega, by omega⟩ hl.1 rfl (Nat.le_of_ble_eq_true rfl) d_M_placeInUse_75 (fun H locs hw => ?_)
      generalize hq_1 : sh_write κ ((uC (uC σ0 cs) (sh_touch κ ((uC σ0 cs)).1))).1 (to + i) (sh_val κ ((uC σ0 cs)).1 (x + i)) = q_1 at hw ⊢
      refine W.eq (g2 := F0 m 78 ls []) rfl ?_
      refine lv_iinc (v := i + 1) (lv' := [(5, .int (i + 1)), (4, .int (nI N)), (3, .int to), (2, .int h), (0, .ref (aXM a)), (1, .int x)]) S.1 S.2.1 d_M_placeInUse_78 hl (k := 0) rfl rfl (by decide) rfl (fun ls hl => ?_)
      refine lv_goto (tgt := 49) S.1 S.2.1 d_M_placeInUse_81 (by decide) ?_
      subst hq_1
      exact ih (j + 1) (i + 1) _ H locs ls (by rw [hi]; exact nI_1 j) (by omega) hw (lv_sub hl [0, 1, 2, 3, 4, 5] rfl) K
end LPP
set_option maxHeartbeats 4000000 in
set_option maxRecDepth 100000 in
theorem c_M_placeInUse (l : Launch) (D : va_G) (cI cP : ClassId) (a : cx_a) (κ : sh_K) (np : Nat) (σ : sh_S) (x : Int32) : cx_Met l D cI cP a κ np y_M_placeInUse b_M_placeInUse 6 (some .int) 3 55 [.ref (aXM a), .int x] σ (some (.int ((sh_piu κ σ x).1))) ((sh_piu κ σ x).2) := by
  refine cx_start (by decide) (Nat.le_of_ble_eq_true rfl) mo_piu ?_
  intro p e R s m args below meth c A ls S hr hlk hfr hlc hw hbud hl
  have hl : lv_has ls 6 [(0, .ref (aXM a)), (1, .int x)] := hl
  refine lv_aload_n S.1 S.2.1 d_M_placeInUse_0 rfl (lv_at hl 0 rfl) ?_
  refine lv_iload_n S.1 S.2.1 d_M_placeInUse_1 rfl (lv_at hl 1 rfl) ?_
  refine cx_rd S hw (hw.fit hbud) (As := [.int x]) (rest := []) (c_M_isOld l D cI cP a κ np σ x) (q0 := 2) (fun _ => rfl) rfl tb_166 tb_163 tb_165 tp_4 tb_3 hd_M_isOld rfl ⟨by omega, by omega⟩ hl.1 rfl (Nat.le_of_ble_eq_true rfl) d_M_placeInUse_2 ?_
  refine lv_if_ne (tgt := 10) S.1 S.2.1 d_M_placeInUse_5 (by decide) (fun c_1 => ?_) (fun c_1 => ?_)
  · refine lv_aload_n S.1 S.2.1 d_M_placeInUse_10 rfl (lv_at hl 0 rfl) ?_
    refine cx_get S hw (q0 := 2) (ci := 2) (k := 0) (v := .ref (aXC a)) (fun _ => rfl) rfl (by decide) inM tb_59 rfl rfl d_M_placeInUse_11 ?_
    refine lv_iload_n S.1 S.2.1 d_M_placeInUse_14 rfl (lv_at hl 1 rfl) ?_
    refine cx_call S hw hbud (As := [.int x]) (rest := []) (c_C_read l D cI cP a κ np σ x) (q0 := 1) (fun _ => rfl) rfl tb_170 tb_167 tb_168 tb_169 tb_4 hd_C_read rfl ⟨by omega, by omega⟩ hl.1 rfl (Nat.le_of_ble_eq_true rfl) d_M_placeInUse_15 (fun H locs hw => ?_)
    refine W.eq (g2 := F0 m 18 ls [.int (sh_val κ (σ).1 x)]) rfl ?_
    refine lv_istore_n (lv' := [(2, .int (sh_val κ (σ).1 x)), (0, .ref (aXM a)), (1, .int x)]) S.1 S.2.1 d_M_placeInUse_18 rfl hl (by decide) rfl (fun ls hl => ?_)
    refine lv_iload_n S.1 S.2.1 d_M_placeInUse_19 rfl (lv_at hl 0 rfl) ?_
    refine lv_if_ge (tgt := 26) S.1 S.2.1 d_M_placeInUse_20 (by decide) (fun c_2 => ?_) (fun c_2 => ?_)
    · have c_2n := i32_nlt c_2
      refine lv_aload_n S.1 S.2.1 d_M_placeInUse_26 rfl (lv_at hl 1 rfl) ?_
      refine cx_get S hw (q0 := 2) (ci := 2) (k := 8) (v := .int (sFree (uC σ (sh_touch κ (σ).1)))) (fun _ => rfl) rfl (by decide) inM tb_71 rfl rfl d_M_placeInUse_27 ?_
      refine lv_istore_n (lv' := [(3, .int (sFree (uC σ (sh_touch κ (σ).1)))), (2, .int (sh_val κ (σ).1 x)), (0, .ref (aXM a)), (1, .int x)]) S.1 S.2.1 d_M_placeInUse_30 rfl hl (by decide) rfl (fun ls hl => ?_)
      refine lv_iload_n S.1 S.2.1 d_M_placeInUse_31 rfl (lv_at hl 1 rfl) ?_
      refine cx_fn S (As := [.int (sh_val κ (σ).1 x)]) (rest := []) (c_H_cells l (sh_val κ (σ).1 x)) tb_136 tb_175 tb_135 tb_6 hdf_H_cells rfl ⟨by omega, by omega⟩ hl.1 rfl (Nat.le_of_ble_eq_true rfl) d_M_placeInUse_32 (hw.fit hbud) ?_
      refine lv_istore (lv' := [(4, .int (hd_cells (sh_val κ (σ).1 x))), (3, .int (sFree (uC σ (sh_touch κ (σ).1)))), (2, .int (sh_val κ (σ).1 x)), (0, .ref (aXM a)), (1, .int x)]) S.1 S.2.1 d_M_placeInUse_35 hl (by decide) rfl (fun ls hl => ?_)
      refine lv_aload_n S.1 S.2.1 d_M_placeInUse_37 rfl (lv_at hl 3 rfl) ?_
      refine cx_get S hw (q0 := 2) (ci := 2) (k := 0) (v := .ref (aXC a)) (fun _ => rfl) rfl (by decide) inM tb_59 rfl rfl d_M_placeInUse_38 ?_
      refine lv_iload_n S.1 S.2.1 d_M_placeInUse_41 rfl (lv_at hl 1 rfl) ?_
      refine lv_iload_n S.1 S.2.1 d_M_placeInUse_42 rfl (lv_at hl 2 rfl) ?_
      refine cx_call S hw hbud (As := [.int (sFree (uC σ (sh_touch κ (σ).1))), .int (sh_val κ (σ).1 x)]) (rest := []) (c_C_write l D cI cP a κ np (uC σ (sh_touch κ (σ).1)) (sFree (uC σ (sh_touch κ (σ).1))) (sh_val κ (σ).1 x)) (q0 := 1) (fun _ => rfl) rfl tb_179 tb_176 tb_177 tb_178 tb_4 hd_C_write rfl ⟨by omega, by omega⟩ hl.1 rfl (Nat.le_of_ble_eq_true rfl) d_M_placeInUse_43 (fun H locs hw => ?_)
      generalize hq_1 : sh_write κ ((uC σ (sh_touch κ (σ).1))).1 (sFree (uC σ (sh_touch κ (σ).1))) (sh_val κ (σ).1 x) = q_1 at hw ⊢
      refine W.eq (g2 := F0 m 46 ls []) rfl ?_
      refine lv_iconst (v := 1) S.1 S.2.1 d_M_placeInUse_46 (by decide) ?_
      refine lv_istore (lv' := [(5, .int 1), (4, .int (hd_cells (sh_val κ (σ).1 x))), (3, .int (sFree (uC σ (sh_touch κ (σ).1)))), (2, .int (sh_val κ (σ).1 x)), (0, .ref (aXM a)), (1, .int x)]) S.1 S.2.1 d_M_placeInUse_47 hl (by decide) rfl (fun ls hl => ?_)
      have hN := hC_eq (sh_val κ (σ).1 x)
      have hB := hC_big (sh_val κ (σ).1 x)
      rw [hN] at hl
      refine lp_piu S hbud (by omega) (by omega) (σ0 := (uC σ (sh_touch κ (σ).1))) hB.2 (hC (sh_val κ (σ).1 x) - 1) 1 1 q_1 H locs ls rfl (by omega) hw hl (fun H locs ls hw hl => ?_)
      generalize hq_2 : sh_copyN κ q_1 x (sFree (uC σ (sh_touch κ (σ).1))) 1 (hC (sh_val κ (σ).1 x) - 1) = q_2 at hw ⊢
      refine lv_aload_n S.1 S.2.1 d_M_placeInUse_84 rfl (lv_at hl 4 rfl) ?_
      refine cx_get S hw (q0 := 2) (ci := 2) (k := 0) (v := .ref (aXC a)) (fun _ => rfl) rfl (by decide) inM tb_59 rfl rfl d_M_placeInUse_85 ?_
      refine lv_iload_n S.1 S.2.1 d_M_placeInUse_88 rfl (lv_at hl 5 rfl) ?_
      refine lv_iload_n S.1 S.2.1 d_M_placeInUse_89 rfl (lv_at hl 2 rfl) ?_
      refine lv_ineg S.1 S.2.1 d_M_placeInUse_90 ?_
      refine cx_call S hw hbud (As := [.int x, .int (-(sFree (uC σ (sh_touch κ (σ).1))))]) (rest := []) (c_C_write l D cI cP a κ np (uC (uC σ (sh_touch κ (σ).1)) q_2) x (-(sFree (uC σ (sh_touch κ (σ).1))))) (q0 := 1) (fun _ => rfl) rfl tb_179 tb_176 tb_177 tb_178 tb_4 hd_C_write rfl ⟨by omega, by omega⟩ hl.1 rfl (Nat.le_of_ble_eq_true rfl) d_M_placeInUse_91 (fun H locs hw => ?_)
      generalize hq_3 : sh_write κ ((uC (uC σ (sh_touch κ (σ).1)) q_2)).1 x (-(sFree (uC σ (sh_touch κ (σ).1)))) = q_3 at hw ⊢
      refine W.eq (g2 := F0 m 94 ls []) rfl ?_
      refine lv_aload_n S.1 S.2.1 d_M_placeInUse_94 rfl (lv_at hl 4 rfl) ?_
      refine lv_dup S.1 S.2.1 d_M_placeInUse_95 rfl ?_
      refine cx_get S hw (q0 := 2) (ci := 2) (k := 8) (v := .int (sFree (uC (uC (uC σ (sh_touch κ (σ).1)) q_2) q_3))) (fun _ => rfl) rfl (by decide) inM tb_71 rfl rfl d_M_placeInUse_96 ?_
      refine lv_iload S.1 S.2.1 d_M_placeInUse_99 (lv_at hl 1 rfl) ?_
      refine lv_iadd S.1 S.2.1 d_M_placeInUse_101 ?_
      refine cx_put S hw (q0 := 2) (ci := 2) (k := 8) (σ' := uFree (uC (uC (uC σ (sh_touch κ (σ).1)) q_2) q_3) ((sFree (uC (uC (uC σ (sh_touch κ (σ).1)) q_2) q_3)) + (nI (hC (sh_val κ (σ).1 x))))) (ty := .int) (fun _ => rfl) rfl (by decide) inM tyM tyM_ok nmM tb_71 rfl rfl rfl rfl rfl (Nat.le_of_ble_eq_true rfl) (fun _ => rfl) rfl rfl d_M_placeInUse_102 (fun H locs hw => ?_)
      refine W.cs (cells' := 2 * (nal (uFree (uC (uC (uC σ (sh_touch κ (σ).1)) q_2) q_3) ((sFree (uC (uC (uC σ (sh_touch κ (σ).1)) q_2) q_3)) + (nI (hC (sh_val κ (σ).1 x))))) - nal σ)) (slots' := 1025 * (nal (uFree (uC (uC (uC σ (sh_touch κ (σ).1)) q_2) q_3) ((sFree (uC (uC (uC σ (sh_touch κ (σ).1)) q_2) q_3)) + (nI (hC (sh_val κ (σ).1 x))))) - nal σ)) rfl rfl ?_
      refine lv_iload_n S.1 S.2.1 d_M_placeInUse_105 rfl (lv_at hl 2 rfl) ?_
      exact cx_retI S hr hlk hw hbud (by first | exact absurd c_2 c_1 | exact absurd c_2 c_2n | (unfold sh_piu; simp only [if_neg c_1, if_pos c_2, if_neg c_2n, hq_1, hq_2, hq_3]; done) | (unfold sh_piu; dsimp only; simp only [if_neg c_1, if_pos c_2, if_neg c_2n, hq_1, hq_2, hq_3]; done) | (subst hq_3; subst hq_2; subst hq_1; unfold sh_piu; simp only [if_neg c_1, if_pos c_2, if_neg c_2n, hC_eq, hC_clamp]; try rfl; done)) (by first | exact absurd c_2 c_1 | exact absurd c_2 c_2n | (unfold sh_piu; simp only [if_neg c_1, if_pos c_2, if_neg c_2n, hq_1, hq_2, hq_3]; done) | (unfold sh_piu; dsimp only; simp only [if_neg c_1, if_pos c_2, if_neg c_2n, hq_1, hq_2, hq_3]; done) | (subst hq_3; subst hq_2; subst hq_1; unfold sh_piu; simp only [if_neg c_1, if_pos c_2, if_neg c_2n, hC_eq, hC_clamp]; try rfl; done)) d_M_placeInUse_106
    · have c_2n := i32_lt c_2
      refine lv_iload_n S.1 S.2.1 d_M_placeInUse_23 rfl (lv_at hl 0 rfl) ?_
      refine lv_ineg S.1 S.2.1 d_M_placeInUse_24 ?_
      exact cx_retI S hr hlk hw hbud (by first | exact absurd c_2n c_1 | exact absurd c_2n c_2 | (unfold sh_piu; simp only [if_neg c_1, if_neg c_2, if_pos c_2n]; done) | (unfold sh_piu; dsimp only; simp only [if_neg c_1, if_neg c_2, if_pos c_2n]; done) | (unfold sh_piu; simp only [if_neg c_1, if_neg c_2, if_pos c_2n, hC_eq, hC_clamp]; try rfl; done)) (by first | exact absurd c_2n c_1 | exact absurd c_2n c_2 | (unfold sh_piu; simp only [if_neg c_1, if_neg c_2, if_pos c_2n]; done) | (unfold sh_piu; dsimp only; simp only [if_neg c_1, if_neg c_2, if_pos c_2n]; done) | (unfold sh_piu; simp only [if_neg c_1, if_neg c_2, if_pos c_2n, hC_eq, hC_clamp]; try rfl; done)) d_M_placeInUse_25
  · refine lv_iload_n S.1 S.2.1 d_M_placeInUse_8 rfl (lv_at hl 1 rfl) ?_
    exact cx_retI S hr hlk hw hbud (by first | (unfold sh_piu; simp only [if_pos c_1]; done) | (unfold sh_piu; dsimp only; simp only [if_pos c_1]; done) | (unfold sh_piu; simp only [if_pos c_1, hC_eq, hC_clamp]; try rfl; done)) (by first | (unfold sh_piu; simp only [if_pos c_1]; done) | (unfold sh_piu; dsimp only; simp only [if_pos c_1]; done) | (unfold sh_piu; simp only [if_pos c_1, hC_eq, hC_clamp]; try rfl; done)) d_M_placeInUse_9
