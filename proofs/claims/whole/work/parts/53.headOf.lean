/-! ===== StepHeap: headOf, referenceCell, intCell, fillRegister ===== -/
set_option maxHeartbeats 4000000 in
set_option maxRecDepth 100000 in
theorem c_X_headOf (l : Launch) (D : va_G) (cI cP : ClassId) (a : cx_a) (κ : sh_K) (np : Nat) (σ : sh_S) (r : Int32) : cx_Met l D cI cP a κ np y_X_headOf b_X_headOf 3 (some .int) 3 62 [.ref (aXX a), .int r] σ (some (.int ((sh_head κ σ r).1))) ((sh_head κ σ r).2) := by
  refine cx_start (by decide) (Nat.le_of_ble_eq_true rfl) mo_head ?_
  intro p e R s m args below meth c A ls S hr hlk hfr hlc hw hbud hl
  have hl : lv_has ls 3 [(0, .ref (aXX a)), (1, .int r)] := hl
  refine lv_aload_n S.1 S.2.1 d_X_headOf_0 rfl (lv_at hl 0 rfl) ?_
  refine cx_get S hw (q0 := 0) (ci := 0) (k := 0) (v := .ref (aXC a)) (fun _ => rfl) rfl (by decide) inX tb_103 rfl rfl d_X_headOf_1 ?_
  refine cx_call S hw hbud (As := []) (rest := []) (c_C_startCall l D cI cP a κ np σ ) (q0 := 1) (fun _ => rfl) rfl tb_133 tb_130 tb_131 tb_132 tb_4 hd_C_startCall rfl ⟨by omega, by omega⟩ hl.1 rfl (Nat.le_of_ble_eq_true rfl) d_X_headOf_4 (fun H locs hw => ?_)
  refine W.eq (g2 := F0 m 7 ls []) rfl ?_
  refine lv_aload_n S.1 S.2.1 d_X_headOf_7 rfl (lv_at hl 0 rfl) ?_
  refine cx_get S hw (q0 := 0) (ci := 0) (k := 1) (v := .ref (aXM a)) (fun _ => rfl) rfl (by decide) inX tb_104 rfl rfl d_X_headOf_8 ?_
  refine lv_iload_n S.1 S.2.1 d_X_headOf_11 rfl (lv_at hl 1 rfl) ?_
  refine cx_rd S hw (hw.fit hbud) (As := [.int r]) (rest := []) (c_M_register l D cI cP a κ np (uC σ (sh_start (σ).1)) r) (q0 := 2) (fun _ => rfl) rfl tb_226 tb_223 tb_224 tb_225 tb_3 hd_M_register rfl ⟨by omega, by omega⟩ hl.1 rfl (Nat.le_of_ble_eq_true rfl) d_X_headOf_12 ?_
  refine lv_istore_n (lv' := [(2, .int (sh_reg (uC σ (sh_start (σ).1)) r)), (0, .ref (aXX a)), (1, .int r)]) S.1 S.2.1 d_X_headOf_15 rfl hl (by decide) rfl (fun ls hl => ?_)
  refine lv_iload_n S.1 S.2.1 d_X_headOf_16 rfl (lv_at hl 0 rfl) ?_
  refine lv_if_ne (tgt := 24) S.1 S.2.1 d_X_headOf_17 (by decide) (fun c_1 => ?_) (fun c_1 => ?_)
  · refine lv_aload_n S.1 S.2.1 d_X_headOf_24 rfl (lv_at hl 1 rfl) ?_
    refine cx_get S hw (q0 := 0) (ci := 0) (k := 0) (v := .ref (aXC a)) (fun _ => rfl) rfl (by decide) inX tb_103 rfl rfl d_X_headOf_25 ?_
    refine lv_iload_n S.1 S.2.1 d_X_headOf_28 rfl (lv_at hl 0 rfl) ?_
    refine cx_call S hw hbud (As := [.int (sh_reg (uC σ (sh_start (σ).1)) r)]) (rest := []) (c_C_read l D cI cP a κ np (uC σ (sh_start (σ).1)) (sh_reg (uC σ (sh_start (σ).1)) r)) (q0 := 1) (fun _ => rfl) rfl tb_170 tb_227 tb_168 tb_169 tb_4 hd_C_read rfl ⟨by omega, by omega⟩ hl.1 rfl (Nat.le_of_ble_eq_true rfl) d_X_headOf_29 (fun H locs hw => ?_)
    refine W.eq (g2 := F0 m 32 ls [.int (sh_val κ ((uC σ (sh_start (σ).1))).1 (sh_reg (uC σ (sh_start (σ).1)) r))]) rfl ?_
    exact cx_retI S hr hlk hw hbud (by first | (unfold sh_head; simp only [if_neg c_1]; done) | (unfold sh_head; dsimp only; simp only [if_neg c_1]; done) | (unfold sh_head; simp only [if_neg c_1, hC_eq, hC_clamp]; try rfl; done)) (by first | (unfold sh_head; simp only [if_neg c_1]; done) | (unfold sh_head; dsimp only; simp only [if_neg c_1]; done) | (unfold sh_head; simp only [if_neg c_1, hC_eq, hC_clamp]; try rfl; done)) d_X_headOf_32
  · refine lv_iconst (v := 0) S.1 S.2.1 d_X_headOf_20 (by decide) ?_
    refine lv_goto (tgt := 32) S.1 S.2.1 d_X_headOf_21 (by decide) ?_
    exact cx_retI S hr hlk hw hbud (by first | (unfold sh_head; simp only [if_pos c_1]; done) | (unfold sh_head; dsimp only; simp only [if_pos c_1]; done) | (unfold sh_head; simp only [if_pos c_1, hC_eq, hC_clamp]; try rfl; done)) (by first | (unfold sh_head; simp only [if_pos c_1]; done) | (unfold sh_head; dsimp only; simp only [if_pos c_1]; done) | (unfold sh_head; simp only [if_pos c_1, hC_eq, hC_clamp]; try rfl; done)) d_X_headOf_32
set_option maxHeartbeats 4000000 in
set_option maxRecDepth 100000 in
theorem c_X_referenceCell (l : Launch) (D : va_G) (cI cP : ClassId) (a : cx_a) (κ : sh_K) (np : Nat) (σ : sh_S) (o f : Int32) : cx_Rd l D cI cP a κ np y_X_referenceCell b_X_referenceCell 3 (some .int) 3 62 [.ref (aXX a), .int o, .int f] σ (sh_reg σ o + 1 + f) := by
  refine cx_startR (by decide) (Nat.le_of_ble_eq_true rfl) ?_
  intro p e R s m args below meth c A ls S hr hlk hfr hlc hw hl
  have hl : lv_has ls 3 [(0, .ref (aXX a)), (1, .int o), (2, .int f)] := hl
  refine lv_aload_n S.1 S.2.1 d_X_referenceCell_0 rfl (lv_at hl 0 rfl) ?_
  refine cx_get S hw (q0 := 0) (ci := 0) (k := 1) (v := .ref (aXM a)) (fun _ => rfl) rfl (by decide) inX tb_104 rfl rfl d_X_referenceCell_1 ?_
  refine lv_iload_n S.1 S.2.1 d_X_referenceCell_4 rfl (lv_at hl 1 rfl) ?_
  refine cx_rd S hw ⟨Nat.zero_le _, Nat.zero_le _⟩ (As := [.int o]) (rest := []) (c_M_register l D cI cP a κ np σ o) (q0 := 2) (fun _ => rfl) rfl tb_226 tb_223 tb_224 tb_225 tb_3 hd_M_register rfl ⟨by omega, by omega⟩ hl.1 rfl (Nat.le_of_ble_eq_true rfl) d_X_referenceCell_5 ?_
  refine lv_iconst (v := 1) S.1 S.2.1 d_X_referenceCell_8 (by decide) ?_
  refine lv_iadd S.1 S.2.1 d_X_referenceCell_9 ?_
  refine lv_iload_n S.1 S.2.1 d_X_referenceCell_10 rfl (lv_at hl 2 rfl) ?_
  refine lv_iadd S.1 S.2.1 d_X_referenceCell_11 ?_
  exact cx_endI S hr hlk (by first | rfl) d_X_referenceCell_12
set_option maxHeartbeats 4000000 in
set_option maxRecDepth 100000 in
theorem c_X_intCell (l : Launch) (D : va_G) (cI cP : ClassId) (a : cx_a) (κ : sh_K) (np : Nat) (σ : sh_S) (o h f : Int32) : cx_Rd l D cI cP a κ np y_X_intCell b_X_intCell 4 (some .int) 3 62 [.ref (aXX a), .int o, .int h, .int f] σ (sh_reg σ o + 1 + hd_refs h + f) := by
  refine cx_startR (by decide) (Nat.le_of_ble_eq_true rfl) ?_
  intro p e R s m args below meth c A ls S hr hlk hfr hlc hw hl
  have hl : lv_has ls 4 [(0, .ref (aXX a)), (1, .int o), (2, .int h), (3, .int f)] := hl
  refine lv_aload_n S.1 S.2.1 d_X_intCell_0 rfl (lv_at hl 0 rfl) ?_
  refine cx_get S hw (q0 := 0) (ci := 0) (k := 1) (v := .ref (aXM a)) (fun _ => rfl) rfl (by decide) inX tb_104 rfl rfl d_X_intCell_1 ?_
  refine lv_iload_n S.1 S.2.1 d_X_intCell_4 rfl (lv_at hl 1 rfl) ?_
  refine cx_rd S hw ⟨Nat.zero_le _, Nat.zero_le _⟩ (As := [.int o]) (rest := []) (c_M_register l D cI cP a κ np σ o) (q0 := 2) (fun _ => rfl) rfl tb_226 tb_223 tb_224 tb_225 tb_3 hd_M_register rfl ⟨by omega, by omega⟩ hl.1 rfl (Nat.le_of_ble_eq_true rfl) d_X_intCell_5 ?_
  refine lv_iconst (v := 1) S.1 S.2.1 d_X_intCell_8 (by decide) ?_
  refine lv_iadd S.1 S.2.1 d_X_intCell_9 ?_
  refine lv_iload_n S.1 S.2.1 d_X_intCell_10 rfl (lv_at hl 2 rfl) ?_
  refine cx_fn S (As := [.int h]) (rest := [.int ((sh_reg σ o) + 1)]) (c_H_references l h) tb_230 tb_228 tb_229 tb_6 hdf_H_references rfl ⟨by omega, by omega⟩ hl.1 rfl (Nat.le_of_ble_eq_true rfl) d_X_intCell_11 ⟨Nat.zero_le _, Nat.zero_le _⟩ ?_
  refine lv_iadd S.1 S.2.1 d_X_intCell_14 ?_
  refine lv_iload_n S.1 S.2.1 d_X_intCell_15 rfl (lv_at hl 3 rfl) ?_
  refine lv_iadd S.1 S.2.1 d_X_intCell_16 ?_
  exact cx_endI S hr hlk (by first | rfl) d_X_intCell_17
set_option maxHeartbeats 4000000 in
set_option maxRecDepth 100000 in
theorem c_X_fillRegister (l : Launch) (D : va_G) (cI cP : ClassId) (a : cx_a) (κ : sh_K) (np : Nat) (σ : sh_S) (r h : Int32) : cx_Met l D cI cP a κ np y_X_fillRegister b_X_fillRegister 3 (some .int) 6 127 [.ref (aXX a), .int r, .int h] σ (some (.int ((sh_fill κ σ r h).1))) ((sh_fill κ σ r h).2) := by
  refine cx_start (by decide) (Nat.le_of_ble_eq_true rfl) mo_fill ?_
  intro p e R s m args below meth c A ls S hr hlk hfr hlc hw hbud hl
  have hl : lv_has ls 3 [(0, .ref (aXX a)), (1, .int r), (2, .int h)] := hl
  refine lv_aload_n S.1 S.2.1 d_X_fillRegister_0 rfl (lv_at hl 0 rfl) ?_
  refine cx_get S hw (q0 := 0) (ci := 0) (k := 0) (v := .ref (aXC a)) (fun _ => rfl) rfl (by decide) inX tb_103 rfl rfl d_X_fillRegister_1 ?_
  refine cx_call S hw hbud (As := []) (rest := []) (c_C_startCall l D cI cP a κ np σ ) (q0 := 1) (fun _ => rfl) rfl tb_133 tb_130 tb_131 tb_132 tb_4 hd_C_startCall rfl ⟨by omega, by omega⟩ hl.1 rfl (Nat.le_of_ble_eq_true rfl) d_X_fillRegister_4 (fun H locs hw => ?_)
  refine W.eq (g2 := F0 m 7 ls []) rfl ?_
  refine lv_aload_n S.1 S.2.1 d_X_fillRegister_7 rfl (lv_at hl 0 rfl) ?_
  refine cx_get S hw (q0 := 0) (ci := 0) (k := 1) (v := .ref (aXM a)) (fun _ => rfl) rfl (by decide) inX tb_104 rfl rfl d_X_fillRegister_8 ?_
  refine lv_iload_n S.1 S.2.1 d_X_fillRegister_11 rfl (lv_at hl 2 rfl) ?_
  refine cx_fn S (As := [.int h]) (rest := [.ref (aXM a)]) (c_H_cells l h) tb_136 tb_134 tb_135 tb_6 hdf_H_cells rfl ⟨by omega, by omega⟩ hl.1 rfl (Nat.le_of_ble_eq_true rfl) d_X_fillRegister_12 (hw.fit hbud) ?_
  refine cx_call S hw hbud (As := [.int (hd_cells h)]) (rest := []) (c_M_hasRoom l D cI cP a κ np (uC σ (sh_start (σ).1)) (hd_cells h)) (q0 := 2) (fun _ => rfl) rfl tb_146 tb_143 tb_144 tb_145 tb_3 hd_M_hasRoom rfl ⟨by omega, by omega⟩ hl.1 rfl (Nat.le_of_ble_eq_true rfl) d_X_fillRegister_15 (fun H locs hw => ?_)
  generalize hq_1 : sh_room κ (uC σ (sh_start (σ).1)) (hd_cells h) = q_1 at hw ⊢
  refine W.eq (g2 := F0 m 18 ls [.int q_1.1]) rfl ?_
  refine lv_if_ne (tgt := 23) S.1 S.2.1 d_X_fillRegister_18 (by decide) (fun c_1 => ?_) (fun c_1 => ?_)
  · refine lv_aload_n S.1 S.2.1 d_X_fillRegister_23 rfl (lv_at hl 0 rfl) ?_
    refine cx_get S hw (q0 := 0) (ci := 0) (k := 1) (v := .ref (aXM a)) (fun _ => rfl) rfl (by decide) inX tb_104 rfl rfl d_X_fillRegister_24 ?_
    refine lv_iload_n S.1 S.2.1 d_X_fillRegister_27 rfl (lv_at hl 1 rfl) ?_
    refine lv_aload_n S.1 S.2.1 d_X_fillRegister_28 rfl (lv_at hl 0 rfl) ?_
    refine cx_get S hw (q0 := 0) (ci := 0) (k := 1) (v := .ref (aXM a)) (fun _ => rfl) rfl (by decide) inX tb_104 rfl rfl d_X_fillRegister_29 ?_
    refine lv_iload_n S.1 S.2.1 d_X_fillRegister_32 rfl (lv_at hl 2 rfl) ?_
    refine cx_call S hw hbud (As := [.int h]) (rest := [.int r, .ref (aXM a)]) (c_M_place l D cI cP a κ np q_1.2 h) (q0 := 2) (fun _ => rfl) rfl tb_193 tb_190 tb_191 tb_192 tb_3 hd_M_place rfl ⟨by omega, by omega⟩ hl.1 rfl (Nat.le_of_ble_eq_true rfl) d_X_fillRegister_33 (fun H locs hw => ?_)
    generalize hq_2 : sh_place κ q_1.2 h = q_2 at hw ⊢
    refine W.eq (g2 := F0 m 36 ls [.int q_2.1, .int r, .ref (aXM a)]) rfl ?_
    refine cx_call S hw hbud (As := [.int r, .int q_2.1]) (rest := []) (c_M_setRegister l D cI cP a κ np q_2.2 r q_2.1) (q0 := 2) (fun _ => rfl) rfl tb_202 tb_199 tb_200 tb_201 tb_3 hd_M_setRegister rfl ⟨by omega, by omega⟩ hl.1 rfl (Nat.le_of_ble_eq_true rfl) d_X_fillRegister_36 (fun H locs hw => ?_)
    refine W.eq (g2 := F0 m 39 ls []) rfl ?_
    refine lv_iconst (v := 1) S.1 S.2.1 d_X_fillRegister_39 (by decide) ?_
    exact cx_retI S hr hlk hw hbud (by first | (unfold sh_fill; simp only [hq_1, if_neg c_1, hq_2]; done) | (unfold sh_fill; dsimp only; simp only [hq_1, if_neg c_1, hq_2]; done) | (subst hq_2; subst hq_1; unfold sh_fill; simp only [if_neg c_1, hC_eq, hC_clamp]; try rfl; done)) (by first | (unfold sh_fill; simp only [hq_1, if_neg c_1, hq_2]; done) | (unfold sh_fill; dsimp only; simp only [hq_1, if_neg c_1, hq_2]; done) | (subst hq_2; subst hq_1; unfold sh_fill; simp only [if_neg c_1, hC_eq, hC_clamp]; try rfl; done)) d_X_fillRegister_40
  · refine lv_iconst (v := 0) S.1 S.2.1 d_X_fillRegister_21 (by decide) ?_
    exact cx_retI S hr hlk hw hbud (by first | (unfold sh_fill; simp only [hq_1, if_pos c_1]; done) | (unfold sh_fill; dsimp only; simp only [hq_1, if_pos c_1]; done) | (subst hq_1; unfold sh_fill; simp only [if_pos c_1, hC_eq, hC_clamp]; try rfl; done)) (by first | (unfold sh_fill; simp only [hq_1, if_pos c_1]; done) | (unfold sh_fill; dsimp only; simp only [hq_1, if_pos c_1]; done) | (subst hq_1; unfold sh_fill; simp only [if_pos c_1, hC_eq, hC_clamp]; try rfl; done)) d_X_fillRegister_22
