/-! ===== THE FACE: contracts ===== -/
set_option maxHeartbeats 4000000 in
set_option maxRecDepth 100000 in
theorem c_X_copy (l : Launch) (D : va_G) (cI cP : ClassId) (a : cx_a) (κ : sh_K) (np : Nat) (σ : sh_S) (t r : Int32) : cx_Met l D cI cP a κ np y_X_copy b_X_copy 3 (some .boolean) 3 63 [.ref (aXX a), .int t, .int r] σ (some (.int ((sh_copy σ t r).1))) ((sh_copy σ t r).2) := by
  refine cx_start (by decide) (Nat.le_of_ble_eq_true rfl) mo_copy ?_
  intro p e R s m args below meth c A ls S hr hlk hfr hlc hw hbud hl
  have hl : lv_has ls 3 [(0, .ref (aXX a)), (1, .int t), (2, .int r)] := hl
  refine lv_iload_n S.1 S.2.1 d_X_copy_0 rfl (lv_at hl 1 rfl) ?_
  refine cx_fn S (As := [.int t]) (rest := []) (c_X_isRegister l t) tb_116 tb_114 tb_115 tb_1 hdf_X_isRegister rfl ⟨by omega, by omega⟩ hl.1 rfl (Nat.le_of_ble_eq_true rfl) d_X_copy_1 (hw.fit hbud) ?_
  refine lv_if_eq (tgt := 14) S.1 S.2.1 d_X_copy_4 (by decide) (fun c_1 => ?_) (fun c_1 => ?_)
  · refine lv_iconst (v := 0) S.1 S.2.1 d_X_copy_14 (by decide) ?_
    exact cx_retZ S hr hlk hw hbud (by first | (unfold sh_copy; simp only [if_pos c_1]; done) | (unfold sh_copy; dsimp only; simp only [if_pos c_1]; done) | (unfold sh_copy; simp only [if_pos c_1, hC_eq, hC_clamp]; try rfl; done)) (Or.inl rfl) (by first | (unfold sh_copy; simp only [if_pos c_1]; done) | (unfold sh_copy; dsimp only; simp only [if_pos c_1]; done) | (unfold sh_copy; simp only [if_pos c_1, hC_eq, hC_clamp]; try rfl; done)) d_X_copy_15
  · refine lv_iload_n S.1 S.2.1 d_X_copy_7 rfl (lv_at hl 2 rfl) ?_
    refine cx_fn S (As := [.int r]) (rest := []) (c_X_isRegister l r) tb_116 tb_114 tb_115 tb_1 hdf_X_isRegister rfl ⟨by omega, by omega⟩ hl.1 rfl (Nat.le_of_ble_eq_true rfl) d_X_copy_8 (hw.fit hbud) ?_
    refine lv_if_ne (tgt := 16) S.1 S.2.1 d_X_copy_11 (by decide) (fun c_2 => ?_) (fun c_2 => ?_)
    · refine lv_aload_n S.1 S.2.1 d_X_copy_16 rfl (lv_at hl 0 rfl) ?_
      refine cx_get S hw (q0 := 0) (ci := 0) (k := 1) (v := .ref (aXM a)) (fun _ => rfl) rfl (by decide) inX tb_104 rfl rfl d_X_copy_17 ?_
      refine lv_iload_n S.1 S.2.1 d_X_copy_20 rfl (lv_at hl 1 rfl) ?_
      refine lv_aload_n S.1 S.2.1 d_X_copy_21 rfl (lv_at hl 0 rfl) ?_
      refine cx_get S hw (q0 := 0) (ci := 0) (k := 1) (v := .ref (aXM a)) (fun _ => rfl) rfl (by decide) inX tb_104 rfl rfl d_X_copy_22 ?_
      refine lv_iload_n S.1 S.2.1 d_X_copy_25 rfl (lv_at hl 2 rfl) ?_
      refine cx_rd S hw (hw.fit hbud) (As := [.int r]) (rest := [.int t, .ref (aXM a)]) (c_M_register l D cI cP a κ np σ r) (q0 := 2) (fun _ => rfl) rfl tb_226 tb_223 tb_224 tb_225 tb_3 hd_M_register rfl ⟨by omega, by omega⟩ hl.1 rfl (Nat.le_of_ble_eq_true rfl) d_X_copy_26 ?_
      refine cx_call S hw hbud (As := [.int t, .int (sh_reg σ r)]) (rest := []) (c_M_setRegister l D cI cP a κ np σ t (sh_reg σ r)) (q0 := 2) (fun _ => rfl) rfl tb_202 tb_199 tb_200 tb_201 tb_3 hd_M_setRegister rfl ⟨by omega, by omega⟩ hl.1 rfl (Nat.le_of_ble_eq_true rfl) d_X_copy_29 (fun H locs hw => ?_)
      refine W.eq (g2 := F0 m 32 ls []) rfl ?_
      refine lv_iconst (v := 1) S.1 S.2.1 d_X_copy_32 (by decide) ?_
      exact cx_retZ S hr hlk hw hbud (by first | (unfold sh_copy; simp only [if_neg c_1, if_neg c_2]; done) | (unfold sh_copy; dsimp only; simp only [if_neg c_1, if_neg c_2]; done) | (unfold sh_copy; simp only [if_neg c_1, if_neg c_2, hC_eq, hC_clamp]; try rfl; done)) (Or.inr rfl) (by first | (unfold sh_copy; simp only [if_neg c_1, if_neg c_2]; done) | (unfold sh_copy; dsimp only; simp only [if_neg c_1, if_neg c_2]; done) | (unfold sh_copy; simp only [if_neg c_1, if_neg c_2, hC_eq, hC_clamp]; try rfl; done)) d_X_copy_33
    · refine lv_iconst (v := 0) S.1 S.2.1 d_X_copy_14 (by decide) ?_
      exact cx_retZ S hr hlk hw hbud (by first | exact absurd c_2 c_1 | (unfold sh_copy; simp only [if_neg c_1, if_pos c_2]; done) | (unfold sh_copy; dsimp only; simp only [if_neg c_1, if_pos c_2]; done) | (unfold sh_copy; simp only [if_neg c_1, if_pos c_2, hC_eq, hC_clamp]; try rfl; done)) (Or.inl rfl) (by first | exact absurd c_2 c_1 | (unfold sh_copy; simp only [if_neg c_1, if_pos c_2]; done) | (unfold sh_copy; dsimp only; simp only [if_neg c_1, if_pos c_2]; done) | (unfold sh_copy; simp only [if_neg c_1, if_pos c_2, hC_eq, hC_clamp]; try rfl; done)) d_X_copy_15
set_option maxHeartbeats 4000000 in
set_option maxRecDepth 100000 in
theorem c_X_drop (l : Launch) (D : va_G) (cI cP : ClassId) (a : cx_a) (κ : sh_K) (np : Nat) (σ : sh_S) (r : Int32) : cx_Met l D cI cP a κ np y_X_drop b_X_drop 3 (some .boolean) 3 63 [.ref (aXX a), .int r] σ (some (.int ((sh_drop σ r).1))) ((sh_drop σ r).2) := by
  refine cx_start (by decide) (Nat.le_of_ble_eq_true rfl) mo_drop ?_
  intro p e R s m args below meth c A ls S hr hlk hfr hlc hw hbud hl
  have hl : lv_has ls 3 [(0, .ref (aXX a)), (1, .int r)] := hl
  refine lv_aload_n S.1 S.2.1 d_X_drop_0 rfl (lv_at hl 0 rfl) ?_
  refine cx_get S hw (q0 := 0) (ci := 0) (k := 1) (v := .ref (aXM a)) (fun _ => rfl) rfl (by decide) inX tb_104 rfl rfl d_X_drop_1 ?_
  refine lv_iload_n S.1 S.2.1 d_X_drop_4 rfl (lv_at hl 1 rfl) ?_
  refine cx_rd S hw (hw.fit hbud) (As := [.int r]) (rest := []) (c_M_register l D cI cP a κ np σ r) (q0 := 2) (fun _ => rfl) rfl tb_226 tb_223 tb_224 tb_225 tb_3 hd_M_register rfl ⟨by omega, by omega⟩ hl.1 rfl (Nat.le_of_ble_eq_true rfl) d_X_drop_5 ?_
  refine lv_if_eq (tgt := 15) S.1 S.2.1 d_X_drop_8 (by decide) (fun c_1 => ?_) (fun c_1 => ?_)
  · refine lv_iconst (v := 0) S.1 S.2.1 d_X_drop_15 (by decide) ?_
    refine lv_istore_n (lv' := [(2, .int 0), (0, .ref (aXX a)), (1, .int r)]) S.1 S.2.1 d_X_drop_16 rfl hl (by decide) rfl (fun ls hl => ?_)
    refine lv_aload_n S.1 S.2.1 d_X_drop_17 rfl (lv_at hl 1 rfl) ?_
    refine cx_get S hw (q0 := 0) (ci := 0) (k := 1) (v := .ref (aXM a)) (fun _ => rfl) rfl (by decide) inX tb_104 rfl rfl d_X_drop_18 ?_
    refine lv_iload_n S.1 S.2.1 d_X_drop_21 rfl (lv_at hl 2 rfl) ?_
    refine lv_iconst (v := 0) S.1 S.2.1 d_X_drop_22 (by decide) ?_
    refine cx_call S hw hbud (As := [.int r, .int 0]) (rest := []) (c_M_setRegister l D cI cP a κ np σ r 0) (q0 := 2) (fun _ => rfl) rfl tb_202 tb_199 tb_200 tb_201 tb_3 hd_M_setRegister rfl ⟨by omega, by omega⟩ hl.1 rfl (Nat.le_of_ble_eq_true rfl) d_X_drop_23 (fun H locs hw => ?_)
    refine W.eq (g2 := F0 m 26 ls []) rfl ?_
    refine lv_iload_n S.1 S.2.1 d_X_drop_26 rfl (lv_at hl 0 rfl) ?_
    exact cx_retZ S hr hlk hw hbud (by first | (unfold sh_drop; simp only [if_pos c_1]; done) | (unfold sh_drop; dsimp only; simp only [if_pos c_1]; done) | (unfold sh_drop; simp only [if_pos c_1, hC_eq, hC_clamp]; try rfl; done)) (Or.inl rfl) (by first | (unfold sh_drop; simp only [if_pos c_1]; done) | (unfold sh_drop; dsimp only; simp only [if_pos c_1]; done) | (unfold sh_drop; simp only [if_pos c_1, hC_eq, hC_clamp]; try rfl; done)) d_X_drop_27
  · refine lv_iconst (v := 1) S.1 S.2.1 d_X_drop_11 (by decide) ?_
    refine lv_goto (tgt := 16) S.1 S.2.1 d_X_drop_12 (by decide) ?_
    refine lv_istore_n (lv' := [(2, .int 1), (0, .ref (aXX a)), (1, .int r)]) S.1 S.2.1 d_X_drop_16 rfl hl (by decide) rfl (fun ls hl => ?_)
    refine lv_aload_n S.1 S.2.1 d_X_drop_17 rfl (lv_at hl 1 rfl) ?_
    refine cx_get S hw (q0 := 0) (ci := 0) (k := 1) (v := .ref (aXM a)) (fun _ => rfl) rfl (by decide) inX tb_104 rfl rfl d_X_drop_18 ?_
    refine lv_iload_n S.1 S.2.1 d_X_drop_21 rfl (lv_at hl 2 rfl) ?_
    refine lv_iconst (v := 0) S.1 S.2.1 d_X_drop_22 (by decide) ?_
    refine cx_call S hw hbud (As := [.int r, .int 0]) (rest := []) (c_M_setRegister l D cI cP a κ np σ r 0) (q0 := 2) (fun _ => rfl) rfl tb_202 tb_199 tb_200 tb_201 tb_3 hd_M_setRegister rfl ⟨by omega, by omega⟩ hl.1 rfl (Nat.le_of_ble_eq_true rfl) d_X_drop_23 (fun H locs hw => ?_)
    refine W.eq (g2 := F0 m 26 ls []) rfl ?_
    refine lv_iload_n S.1 S.2.1 d_X_drop_26 rfl (lv_at hl 0 rfl) ?_
    exact cx_retZ S hr hlk hw hbud (by first | (unfold sh_drop; simp only [if_neg c_1]; done) | (unfold sh_drop; dsimp only; simp only [if_neg c_1]; done) | (unfold sh_drop; simp only [if_neg c_1, hC_eq, hC_clamp]; try rfl; done)) (Or.inr rfl) (by first | (unfold sh_drop; simp only [if_neg c_1]; done) | (unfold sh_drop; dsimp only; simp only [if_neg c_1]; done) | (unfold sh_drop; simp only [if_neg c_1, hC_eq, hC_clamp]; try rfl; done)) d_X_drop_27
set_option maxHeartbeats 4000000 in
set_option maxRecDepth 100000 in
theorem c_X_same (l : Launch) (D : va_G) (cI cP : ClassId) (a : cx_a) (κ : sh_K) (np : Nat) (σ : sh_S) (x y : Int32) : cx_Rd l D cI cP a κ np y_X_same b_X_same 3 (some .boolean) 3 62 [.ref (aXX a), .int x, .int y] σ (sh_same σ x y) := by
  refine cx_startR (by decide) (Nat.le_of_ble_eq_true rfl) ?_
  intro p e R s m args below meth c A ls S hr hlk hfr hlc hw hl
  have hl : lv_has ls 3 [(0, .ref (aXX a)), (1, .int x), (2, .int y)] := hl
  refine lv_iload_n S.1 S.2.1 d_X_same_0 rfl (lv_at hl 1 rfl) ?_
  refine cx_fn S (As := [.int x]) (rest := []) (c_X_isRegister l x) tb_116 tb_114 tb_115 tb_1 hdf_X_isRegister rfl ⟨by omega, by omega⟩ hl.1 rfl (Nat.le_of_ble_eq_true rfl) d_X_same_1 ⟨Nat.zero_le _, Nat.zero_le _⟩ ?_
  refine lv_if_eq (tgt := 37) S.1 S.2.1 d_X_same_4 (by decide) (fun c_1 => ?_) (fun c_1 => ?_)
  · refine lv_iconst (v := 0) S.1 S.2.1 d_X_same_37 (by decide) ?_
    exact cx_endZ S hr hlk (by first | rfl | (unfold sh_same; rfl) | (unfold sh_same; simp only [if_pos c_1]; done) | (unfold sh_same; simp only [if_pos c_1]; rfl) | (unfold sh_same; dsimp only; simp only [if_pos c_1]; done) | (unfold sh_same; simp only [if_pos c_1]; done)) (Or.inl rfl) d_X_same_38
  · refine lv_iload_n S.1 S.2.1 d_X_same_7 rfl (lv_at hl 2 rfl) ?_
    refine cx_fn S (As := [.int y]) (rest := []) (c_X_isRegister l y) tb_116 tb_114 tb_115 tb_1 hdf_X_isRegister rfl ⟨by omega, by omega⟩ hl.1 rfl (Nat.le_of_ble_eq_true rfl) d_X_same_8 ⟨Nat.zero_le _, Nat.zero_le _⟩ ?_
    refine lv_if_eq (tgt := 37) S.1 S.2.1 d_X_same_11 (by decide) (fun c_2 => ?_) (fun c_2 => ?_)
    · refine lv_iconst (v := 0) S.1 S.2.1 d_X_same_37 (by decide) ?_
      exact cx_endZ S hr hlk (by first | exact absurd c_2 c_1 | rfl | (unfold sh_same; rfl) | (unfold sh_same; simp only [if_neg c_1, if_pos c_2]; done) | (unfold sh_same; simp only [if_neg c_1, if_pos c_2]; rfl) | (unfold sh_same; dsimp only; simp only [if_neg c_1, if_pos c_2]; done) | (unfold sh_same; simp only [if_neg c_1, if_pos c_2]; done)) (Or.inl rfl) d_X_same_38
    · refine lv_aload_n S.1 S.2.1 d_X_same_14 rfl (lv_at hl 0 rfl) ?_
      refine cx_get S hw (q0 := 0) (ci := 0) (k := 1) (v := .ref (aXM a)) (fun _ => rfl) rfl (by decide) inX tb_104 rfl rfl d_X_same_15 ?_
      refine lv_iload_n S.1 S.2.1 d_X_same_18 rfl (lv_at hl 1 rfl) ?_
      refine cx_rd S hw ⟨Nat.zero_le _, Nat.zero_le _⟩ (As := [.int x]) (rest := []) (c_M_register l D cI cP a κ np σ x) (q0 := 2) (fun _ => rfl) rfl tb_226 tb_223 tb_224 tb_225 tb_3 hd_M_register rfl ⟨by omega, by omega⟩ hl.1 rfl (Nat.le_of_ble_eq_true rfl) d_X_same_19 ?_
      refine lv_aload_n S.1 S.2.1 d_X_same_22 rfl (lv_at hl 0 rfl) ?_
      refine cx_get S hw (q0 := 0) (ci := 0) (k := 1) (v := .ref (aXM a)) (fun _ => rfl) rfl (by decide) inX tb_104 rfl rfl d_X_same_23 ?_
      refine lv_iload_n S.1 S.2.1 d_X_same_26 rfl (lv_at hl 2 rfl) ?_
      refine cx_rd S hw ⟨Nat.zero_le _, Nat.zero_le _⟩ (As := [.int y]) (rest := [.int (sh_reg σ x)]) (c_M_register l D cI cP a κ np σ y) (q0 := 2) (fun _ => rfl) rfl tb_226 tb_223 tb_224 tb_225 tb_3 hd_M_register rfl ⟨by omega, by omega⟩ hl.1 rfl (Nat.le_of_ble_eq_true rfl) d_X_same_27 ?_
      refine lv_icmp_ne (tgt := 37) S.1 S.2.1 d_X_same_30 (by decide) (fun c_3 => ?_) (fun c_3 => ?_)
      · refine lv_iconst (v := 0) S.1 S.2.1 d_X_same_37 (by decide) ?_
        exact cx_endZ S hr hlk (by first | rfl | (unfold sh_same; rfl) | (unfold sh_same; simp only [if_neg c_1, if_neg c_2, if_neg c_3]; done) | (unfold sh_same; simp only [if_neg c_1, if_neg c_2, if_neg c_3]; rfl) | (unfold sh_same; dsimp only; simp only [if_neg c_1, if_neg c_2, if_neg c_3]; done) | (unfold sh_same; simp only [if_neg c_1, if_neg c_2, if_neg c_3]; done)) (Or.inl rfl) d_X_same_38
      · refine lv_iconst (v := 1) S.1 S.2.1 d_X_same_33 (by decide) ?_
        refine lv_goto (tgt := 38) S.1 S.2.1 d_X_same_34 (by decide) ?_
        exact cx_endZ S hr hlk (by first | exact absurd c_3 c_1 | exact absurd c_3 c_2 | rfl | (unfold sh_same; rfl) | (unfold sh_same; simp only [if_neg c_1, if_neg c_2, if_pos c_3]; done) | (unfold sh_same; simp only [if_neg c_1, if_neg c_2, if_pos c_3]; rfl) | (unfold sh_same; dsimp only; simp only [if_neg c_1, if_neg c_2, if_pos c_3]; done) | (unfold sh_same; simp only [if_neg c_1, if_neg c_2, if_pos c_3]; done)) (Or.inr rfl) d_X_same_38
set_option maxHeartbeats 4000000 in
set_option maxRecDepth 100000 in
theorem c_X_size (l : Launch) (D : va_G) (cI cP : ClassId) (a : cx_a) (κ : sh_K) (np : Nat) (σ : sh_S) (r w : Int32) : cx_Met l D cI cP a κ np y_X_size b_X_size 5 (some .int) 4 84 [.ref (aXX a), .int r, .int w] σ (some (.int ((sh_size κ σ r w).1))) ((sh_size κ σ r w).2) := by
  refine cx_start (by decide) (Nat.le_of_ble_eq_true rfl) mo_size ?_
  intro p e R s m args below meth c A ls S hr hlk hfr hlc hw hbud hl
  have hl : lv_has ls 5 [(0, .ref (aXX a)), (1, .int r), (2, .int w)] := hl
  refine lv_aload_n S.1 S.2.1 d_X_size_0 rfl (lv_at hl 0 rfl) ?_
  refine lv_iload_n S.1 S.2.1 d_X_size_1 rfl (lv_at hl 1 rfl) ?_
  refine cx_call S hw hbud (As := [.int r]) (rest := []) (c_X_headOf l D cI cP a κ np σ r) (q0 := 0) (fun _ => rfl) rfl tb_222 tb_219 tb_221 tp_7 tb_1 hd_X_headOf rfl ⟨by omega, by omega⟩ hl.1 rfl (Nat.le_of_ble_eq_true rfl) d_X_size_2 (fun H locs hw => ?_)
  generalize hq_1 : sh_head κ σ r = q_1 at hw ⊢
  refine W.eq (g2 := F0 m 5 ls [.int q_1.1]) rfl ?_
  refine lv_istore_n (lv' := [(3, .int q_1.1), (0, .ref (aXX a)), (1, .int r), (2, .int w)]) S.1 S.2.1 d_X_size_5 rfl hl (by decide) rfl (fun ls hl => ?_)
  refine lv_iload_n S.1 S.2.1 d_X_size_6 rfl (lv_at hl 0 rfl) ?_
  refine lv_if_ne (tgt := 12) S.1 S.2.1 d_X_size_7 (by decide) (fun c_1 => ?_) (fun c_1 => ?_)
  · refine lv_iload_n S.1 S.2.1 d_X_size_12 rfl (lv_at hl 0 rfl) ?_
    refine cx_fn S (As := [.int q_1.1]) (rest := []) (c_H_isArray l q_1.1) tb_233 tb_329 tb_232 tb_6 hdf_H_isArray rfl ⟨by omega, by omega⟩ hl.1 rfl (Nat.le_of_ble_eq_true rfl) d_X_size_13 (hw.fit hbud) ?_
    refine lv_istore (lv' := [(4, .int (hd_isArr q_1.1)), (3, .int q_1.1), (0, .ref (aXX a)), (1, .int r), (2, .int w)]) S.1 S.2.1 d_X_size_16 hl (by decide) rfl (fun ls hl => ?_)
    refine lv_iload_n S.1 S.2.1 d_X_size_18 rfl (lv_at hl 4 rfl) ?_
    by_cases c_2 : w = 0
    · refine lv_tableIn (off := 29) (tgt := 48) S.1 S.2.1 d_X_size_19 (by rw [c_2]; decide) (by rw [c_2]; decide) (by rw [c_2]; decide) (by decide) ?_
      refine lv_iload S.1 S.2.1 d_X_size_48 (lv_at hl 0 rfl) ?_
      refine lv_if_eq (tgt := 57) S.1 S.2.1 d_X_size_50 (by decide) (fun c_3 => ?_) (fun c_3 => ?_)
      · refine lv_iload_n S.1 S.2.1 d_X_size_57 rfl (lv_at hl 1 rfl) ?_
        refine cx_fn S (As := [.int q_1.1]) (rest := []) (c_H_references l q_1.1) tb_230 tb_228 tb_229 tb_6 hdf_H_references rfl ⟨by omega, by omega⟩ hl.1 rfl (Nat.le_of_ble_eq_true rfl) d_X_size_58 (hw.fit hbud) ?_
        exact cx_retI S hr hlk hw hbud (by first | exact absurd c_2 c_1 | exact absurd c_3 c_1 | (unfold sh_size; simp only [hq_1, if_neg c_1, if_pos c_2, if_pos c_3]; done) | (unfold sh_size; dsimp only; simp only [hq_1, if_neg c_1, if_pos c_2, if_pos c_3]; done) | (subst hq_1; unfold sh_size; simp only [if_neg c_1, if_pos c_2, if_pos c_3, hC_eq, hC_clamp]; try rfl; done)) (by first | exact absurd c_2 c_1 | exact absurd c_3 c_1 | (unfold sh_size; simp only [hq_1, if_neg c_1, if_pos c_2, if_pos c_3]; done) | (unfold sh_size; dsimp only; simp only [hq_1, if_neg c_1, if_pos c_2, if_pos c_3]; done) | (subst hq_1; unfold sh_size; simp only [if_neg c_1, if_pos c_2, if_pos c_3, hC_eq, hC_clamp]; try rfl; done)) d_X_size_61
      · refine lv_iconst (v := -1) S.1 S.2.1 d_X_size_53 (by decide) ?_
        refine lv_goto (tgt := 61) S.1 S.2.1 d_X_size_54 (by decide) ?_
        exact cx_retI S hr hlk hw hbud (by first | exact absurd c_2 c_1 | exact absurd c_2 c_3 | (unfold sh_size; simp only [hq_1, if_neg c_1, if_pos c_2, if_neg c_3]; done) | (unfold sh_size; dsimp only; simp only [hq_1, if_neg c_1, if_pos c_2, if_neg c_3]; done) | (subst hq_1; unfold sh_size; simp only [if_neg c_1, if_pos c_2, if_neg c_3, hC_eq, hC_clamp]; try rfl; done)) (by first | exact absurd c_2 c_1 | exact absurd c_2 c_3 | (unfold sh_size; simp only [hq_1, if_neg c_1, if_pos c_2, if_neg c_3]; done) | (unfold sh_size; dsimp only; simp only [hq_1, if_neg c_1, if_pos c_2, if_neg c_3]; done) | (subst hq_1; unfold sh_size; simp only [if_neg c_1, if_pos c_2, if_neg c_3, hC_eq, hC_clamp]; try rfl; done)) d_X_size_61
    · skip
      by_cases c_4 : w = 1
      · refine lv_tableIn (off := 43) (tgt := 62) S.1 S.2.1 d_X_size_19 (by rw [c_4]; decide) (by rw [c_4]; decide) (by rw [c_4]; decide) (by decide) ?_
        refine lv_iload S.1 S.2.1 d_X_size_62 (lv_at hl 0 rfl) ?_
        refine lv_if_eq (tgt := 71) S.1 S.2.1 d_X_size_64 (by decide) (fun c_5 => ?_) (fun c_5 => ?_)
        · refine lv_iload_n S.1 S.2.1 d_X_size_71 rfl (lv_at hl 1 rfl) ?_
          refine cx_fn S (As := [.int q_1.1]) (rest := []) (c_H_ints l q_1.1) tb_257 tb_255 tb_256 tb_6 hdf_H_ints rfl ⟨by omega, by omega⟩ hl.1 rfl (Nat.le_of_ble_eq_true rfl) d_X_size_72 (hw.fit hbud) ?_
          exact cx_retI S hr hlk hw hbud (by first | exact absurd c_4 c_1 | exact absurd c_4 c_2 | exact absurd c_5 c_1 | exact absurd c_5 c_2 | (unfold sh_size; simp only [hq_1, if_neg c_1, if_neg c_2, if_pos c_4, if_pos c_5]; done) | (unfold sh_size; dsimp only; simp only [hq_1, if_neg c_1, if_neg c_2, if_pos c_4, if_pos c_5]; done) | (subst hq_1; unfold sh_size; simp only [if_neg c_1, if_neg c_2, if_pos c_4, if_pos c_5, hC_eq, hC_clamp]; try rfl; done)) (by first | exact absurd c_4 c_1 | exact absurd c_4 c_2 | exact absurd c_5 c_1 | exact absurd c_5 c_2 | (unfold sh_size; simp only [hq_1, if_neg c_1, if_neg c_2, if_pos c_4, if_pos c_5]; done) | (unfold sh_size; dsimp only; simp only [hq_1, if_neg c_1, if_neg c_2, if_pos c_4, if_pos c_5]; done) | (subst hq_1; unfold sh_size; simp only [if_neg c_1, if_neg c_2, if_pos c_4, if_pos c_5, hC_eq, hC_clamp]; try rfl; done)) d_X_size_75
        · refine lv_iconst (v := -1) S.1 S.2.1 d_X_size_67 (by decide) ?_
          refine lv_goto (tgt := 75) S.1 S.2.1 d_X_size_68 (by decide) ?_
          exact cx_retI S hr hlk hw hbud (by first | exact absurd c_4 c_1 | exact absurd c_4 c_2 | exact absurd c_4 c_5 | (unfold sh_size; simp only [hq_1, if_neg c_1, if_neg c_2, if_pos c_4, if_neg c_5]; done) | (unfold sh_size; dsimp only; simp only [hq_1, if_neg c_1, if_neg c_2, if_pos c_4, if_neg c_5]; done) | (subst hq_1; unfold sh_size; simp only [if_neg c_1, if_neg c_2, if_pos c_4, if_neg c_5, hC_eq, hC_clamp]; try rfl; done)) (by first | exact absurd c_4 c_1 | exact absurd c_4 c_2 | exact absurd c_4 c_5 | (unfold sh_size; simp only [hq_1, if_neg c_1, if_neg c_2, if_pos c_4, if_neg c_5]; done) | (unfold sh_size; dsimp only; simp only [hq_1, if_neg c_1, if_neg c_2, if_pos c_4, if_neg c_5]; done) | (subst hq_1; unfold sh_size; simp only [if_neg c_1, if_neg c_2, if_pos c_4, if_neg c_5, hC_eq, hC_clamp]; try rfl; done)) d_X_size_75
      · skip
        by_cases c_6 : w = 2
        · refine lv_tableIn (off := 57) (tgt := 76) S.1 S.2.1 d_X_size_19 (by rw [c_6]; decide) (by rw [c_6]; decide) (by rw [c_6]; decide) (by decide) ?_
          refine lv_iload S.1 S.2.1 d_X_size_76 (lv_at hl 0 rfl) ?_
          refine lv_if_eq (tgt := 88) S.1 S.2.1 d_X_size_78 (by decide) (fun c_7 => ?_) (fun c_7 => ?_)
          · refine lv_iconst (v := -1) S.1 S.2.1 d_X_size_88 (by decide) ?_
            exact cx_retI S hr hlk hw hbud (by first | exact absurd c_6 c_1 | exact absurd c_6 c_2 | exact absurd c_6 c_4 | exact absurd c_7 c_1 | exact absurd c_7 c_2 | exact absurd c_7 c_4 | (unfold sh_size; simp only [hq_1, if_neg c_1, if_neg c_2, if_neg c_4, if_pos c_6, if_pos c_7]; done) | (unfold sh_size; dsimp only; simp only [hq_1, if_neg c_1, if_neg c_2, if_neg c_4, if_pos c_6, if_pos c_7]; done) | (subst hq_1; unfold sh_size; simp only [if_neg c_1, if_neg c_2, if_neg c_4, if_pos c_6, if_pos c_7, hC_eq, hC_clamp]; try rfl; done)) (by first | exact absurd c_6 c_1 | exact absurd c_6 c_2 | exact absurd c_6 c_4 | exact absurd c_7 c_1 | exact absurd c_7 c_2 | exact absurd c_7 c_4 | (unfold sh_size; simp only [hq_1, if_neg c_1, if_neg c_2, if_neg c_4, if_pos c_6, if_pos c_7]; done) | (unfold sh_size; dsimp only; simp only [hq_1, if_neg c_1, if_neg c_2, if_neg c_4, if_pos c_6, if_pos c_7]; done) | (subst hq_1; unfold sh_size; simp only [if_neg c_1, if_neg c_2, if_neg c_4, if_pos c_6, if_pos c_7, hC_eq, hC_clamp]; try rfl; done)) d_X_size_89
          · refine lv_iload_n S.1 S.2.1 d_X_size_81 rfl (lv_at hl 1 rfl) ?_
            refine cx_fn S (As := [.int q_1.1]) (rest := []) (c_H_length l q_1.1) tb_280 tb_330 tb_279 tb_6 hdf_H_length rfl ⟨by omega, by omega⟩ hl.1 rfl (Nat.le_of_ble_eq_true rfl) d_X_size_82 (hw.fit hbud) ?_
            refine lv_goto (tgt := 89) S.1 S.2.1 d_X_size_85 (by decide) ?_
            exact cx_retI S hr hlk hw hbud (by first | exact absurd c_6 c_1 | exact absurd c_6 c_2 | exact absurd c_6 c_4 | exact absurd c_6 c_7 | (unfold sh_size; simp only [hq_1, if_neg c_1, if_neg c_2, if_neg c_4, if_pos c_6, if_neg c_7]; done) | (unfold sh_size; dsimp only; simp only [hq_1, if_neg c_1, if_neg c_2, if_neg c_4, if_pos c_6, if_neg c_7]; done) | (subst hq_1; unfold sh_size; simp only [if_neg c_1, if_neg c_2, if_neg c_4, if_pos c_6, if_neg c_7, hC_eq, hC_clamp]; try rfl; done)) (by first | exact absurd c_6 c_1 | exact absurd c_6 c_2 | exact absurd c_6 c_4 | exact absurd c_6 c_7 | (unfold sh_size; simp only [hq_1, if_neg c_1, if_neg c_2, if_neg c_4, if_pos c_6, if_neg c_7]; done) | (unfold sh_size; dsimp only; simp only [hq_1, if_neg c_1, if_neg c_2, if_neg c_4, if_pos c_6, if_neg c_7]; done) | (subst hq_1; unfold sh_size; simp only [if_neg c_1, if_neg c_2, if_neg c_4, if_pos c_6, if_neg c_7, hC_eq, hC_clamp]; try rfl; done)) d_X_size_89
        · skip
          by_cases c_8 : w = 3
          · refine lv_tableIn (off := 71) (tgt := 90) S.1 S.2.1 d_X_size_19 (by rw [c_8]; decide) (by rw [c_8]; decide) (by rw [c_8]; decide) (by decide) ?_
            refine lv_iload_n S.1 S.2.1 d_X_size_90 rfl (lv_at hl 1 rfl) ?_
            refine cx_fn S (As := [.int q_1.1]) (rest := []) (c_H_cells l q_1.1) tb_136 tb_134 tb_135 tb_6 hdf_H_cells rfl ⟨by omega, by omega⟩ hl.1 rfl (Nat.le_of_ble_eq_true rfl) d_X_size_91 (hw.fit hbud) ?_
            exact cx_retI S hr hlk hw hbud (by first | exact absurd c_8 c_1 | exact absurd c_8 c_2 | exact absurd c_8 c_4 | exact absurd c_8 c_6 | (unfold sh_size; simp only [hq_1, if_neg c_1, if_neg c_2, if_neg c_4, if_neg c_6, if_pos c_8]; done) | (unfold sh_size; dsimp only; simp only [hq_1, if_neg c_1, if_neg c_2, if_neg c_4, if_neg c_6, if_pos c_8]; done) | (subst hq_1; unfold sh_size; simp only [if_neg c_1, if_neg c_2, if_neg c_4, if_neg c_6, if_pos c_8, hC_eq, hC_clamp]; try rfl; done)) (by first | exact absurd c_8 c_1 | exact absurd c_8 c_2 | exact absurd c_8 c_4 | exact absurd c_8 c_6 | (unfold sh_size; simp only [hq_1, if_neg c_1, if_neg c_2, if_neg c_4, if_neg c_6, if_pos c_8]; done) | (unfold sh_size; dsimp only; simp only [hq_1, if_neg c_1, if_neg c_2, if_neg c_4, if_neg c_6, if_pos c_8]; done) | (subst hq_1; unfold sh_size; simp only [if_neg c_1, if_neg c_2, if_neg c_4, if_neg c_6, if_pos c_8, hC_eq, hC_clamp]; try rfl; done)) d_X_size_94
          · skip
            refine lv_tableOut (tgt := 95) S.1 S.2.1 d_X_size_19 (by have tc_2 := lv_neT c_2 (show (0 : Int32).toInt = 0 from rfl); have tc_4 := lv_neT c_4 (show (1 : Int32).toInt = 1 from rfl); have tc_6 := lv_neT c_6 (show (2 : Int32).toInt = 2 from rfl); have tc_8 := lv_neT c_8 (show (3 : Int32).toInt = 3 from rfl); omega) (by decide) ?_
            refine lv_iconst (v := -1) S.1 S.2.1 d_X_size_95 (by decide) ?_
            exact cx_retI S hr hlk hw hbud (by first | (unfold sh_size; simp only [hq_1, if_neg c_1, if_neg c_2, if_neg c_4, if_neg c_6, if_neg c_8]; done) | (unfold sh_size; dsimp only; simp only [hq_1, if_neg c_1, if_neg c_2, if_neg c_4, if_neg c_6, if_neg c_8]; done) | (subst hq_1; unfold sh_size; simp only [if_neg c_1, if_neg c_2, if_neg c_4, if_neg c_6, if_neg c_8, hC_eq, hC_clamp]; try rfl; done)) (by first | (unfold sh_size; simp only [hq_1, if_neg c_1, if_neg c_2, if_neg c_4, if_neg c_6, if_neg c_8]; done) | (unfold sh_size; dsimp only; simp only [hq_1, if_neg c_1, if_neg c_2, if_neg c_4, if_neg c_6, if_neg c_8]; done) | (subst hq_1; unfold sh_size; simp only [if_neg c_1, if_neg c_2, if_neg c_4, if_neg c_6, if_neg c_8, hC_eq, hC_clamp]; try rfl; done)) d_X_size_96
  · refine lv_iconst (v := -1) S.1 S.2.1 d_X_size_10 (by decide) ?_
    exact cx_retI S hr hlk hw hbud (by first | (unfold sh_size; simp only [hq_1, if_pos c_1]; done) | (unfold sh_size; dsimp only; simp only [hq_1, if_pos c_1]; done) | (subst hq_1; unfold sh_size; simp only [if_pos c_1, hC_eq, hC_clamp]; try rfl; done)) (by first | (unfold sh_size; simp only [hq_1, if_pos c_1]; done) | (unfold sh_size; dsimp only; simp only [hq_1, if_pos c_1]; done) | (subst hq_1; unfold sh_size; simp only [if_pos c_1, hC_eq, hC_clamp]; try rfl; done)) d_X_size_11
set_option maxHeartbeats 4000000 in
set_option maxRecDepth 100000 in
theorem c_X_told (l : Launch) (D : va_G) (cI cP : ClassId) (a : cx_a) (κ : sh_K) (np : Nat) (σ : sh_S) (w : Int32) : cx_Rd l D cI cP a κ np y_X_told b_X_told 2 (some .int) 2 40 [.ref (aXX a), .int w] σ (sh_told κ σ w) := by
  refine cx_startR (by decide) (Nat.le_of_ble_eq_true rfl) ?_
  intro p e R s m args below meth c A ls S hr hlk hfr hlc hw hl
  have hl : lv_has ls 2 [(0, .ref (aXX a)), (1, .int w)] := hl
  refine lv_iload_n S.1 S.2.1 d_X_told_0 rfl (lv_at hl 1 rfl) ?_
  by_cases c_1 : w = 0
  · refine lv_tableIn (off := 35) (tgt := 36) S.1 S.2.1 d_X_told_1 (by rw [c_1]; decide) (by rw [c_1]; decide) (by rw [c_1]; decide) (by decide) ?_
    refine lv_aload_n S.1 S.2.1 d_X_told_36 rfl (lv_at hl 0 rfl) ?_
    refine cx_get S hw (q0 := 0) (ci := 0) (k := 1) (v := .ref (aXM a)) (fun _ => rfl) rfl (by decide) inX tb_104 rfl rfl d_X_told_37 ?_
    refine cx_getN S hw (q0 := 2) (ci := 2) (k := 6) (v := .int (sBeg σ)) (fun _ => rfl) rfl (by decide) inM nxw_4 rfl rfl d_X_told_40 ?_
    exact cx_endI S hr hlk (by first | rfl | (unfold sh_told; rfl) | (unfold sh_told; simp only [if_pos c_1]; done) | (unfold sh_told; simp only [if_pos c_1]; rfl) | (unfold sh_told; dsimp only; simp only [if_pos c_1]; done) | (unfold sh_told; simp only [if_pos c_1]; done)) d_X_told_43
  · skip
    by_cases c_2 : w = 1
    · refine lv_tableIn (off := 43) (tgt := 44) S.1 S.2.1 d_X_told_1 (by rw [c_2]; decide) (by rw [c_2]; decide) (by rw [c_2]; decide) (by decide) ?_
      refine lv_aload_n S.1 S.2.1 d_X_told_44 rfl (lv_at hl 0 rfl) ?_
      refine cx_get S hw (q0 := 0) (ci := 0) (k := 1) (v := .ref (aXM a)) (fun _ => rfl) rfl (by decide) inX tb_104 rfl rfl d_X_told_45 ?_
      refine cx_rd S hw ⟨Nat.zero_le _, Nat.zero_le _⟩ (As := []) (rest := []) (c_M_isDone l D cI cP a κ np σ ) (q0 := 2) (fun _ => rfl) rfl tb_150 tb_335 tb_148 tb_149 tb_3 hd_M_isDone rfl ⟨by omega, by omega⟩ hl.1 rfl (Nat.le_of_ble_eq_true rfl) d_X_told_48 ?_
      refine lv_if_eq (tgt := 58) S.1 S.2.1 d_X_told_51 (by decide) (fun c_3 => ?_) (fun c_3 => ?_)
      · refine lv_iconst (v := 0) S.1 S.2.1 d_X_told_58 (by decide) ?_
        exact cx_endI S hr hlk (by first | exact absurd c_2 c_1 | exact absurd c_3 c_1 | rfl | (unfold sh_told; rfl) | (unfold sh_told; simp only [if_neg c_1, if_pos c_2, if_pos c_3]; done) | (unfold sh_told; simp only [if_neg c_1, if_pos c_2, if_pos c_3]; rfl) | (unfold sh_told; dsimp only; simp only [if_neg c_1, if_pos c_2, if_pos c_3]; done) | (unfold sh_told; simp only [if_neg c_1, if_pos c_2, if_pos c_3]; done)) d_X_told_59
      · refine lv_iconst (v := 1) S.1 S.2.1 d_X_told_54 (by decide) ?_
        refine lv_goto (tgt := 59) S.1 S.2.1 d_X_told_55 (by decide) ?_
        exact cx_endI S hr hlk (by first | exact absurd c_2 c_1 | exact absurd c_2 c_3 | rfl | (unfold sh_told; rfl) | (unfold sh_told; simp only [if_neg c_1, if_pos c_2, if_neg c_3]; done) | (unfold sh_told; simp only [if_neg c_1, if_pos c_2, if_neg c_3]; rfl) | (unfold sh_told; dsimp only; simp only [if_neg c_1, if_pos c_2, if_neg c_3]; done) | (unfold sh_told; simp only [if_neg c_1, if_pos c_2, if_neg c_3]; done)) d_X_told_59
    · skip
      by_cases c_4 : w = 2
      · refine lv_tableIn (off := 59) (tgt := 60) S.1 S.2.1 d_X_told_1 (by rw [c_4]; decide) (by rw [c_4]; decide) (by rw [c_4]; decide) (by decide) ?_
        refine lv_aload_n S.1 S.2.1 d_X_told_60 rfl (lv_at hl 0 rfl) ?_
        refine cx_get S hw (q0 := 0) (ci := 0) (k := 1) (v := .ref (aXM a)) (fun _ => rfl) rfl (by decide) inX tb_104 rfl rfl d_X_told_61 ?_
        refine cx_rd S hw ⟨Nat.zero_le _, Nat.zero_le _⟩ (As := []) (rest := []) (c_M_isDone l D cI cP a κ np σ ) (q0 := 2) (fun _ => rfl) rfl tb_150 tb_335 tb_148 tb_149 tb_3 hd_M_isDone rfl ⟨by omega, by omega⟩ hl.1 rfl (Nat.le_of_ble_eq_true rfl) d_X_told_64 ?_
        refine lv_if_eq (tgt := 80) S.1 S.2.1 d_X_told_67 (by decide) (fun c_5 => ?_) (fun c_5 => ?_)
        · refine lv_iconst (v := -1) S.1 S.2.1 d_X_told_80 (by decide) ?_
          exact cx_endI S hr hlk (by first | exact absurd c_4 c_1 | exact absurd c_4 c_2 | exact absurd c_5 c_1 | exact absurd c_5 c_2 | rfl | (unfold sh_told; rfl) | (unfold sh_told; simp only [if_neg c_1, if_neg c_2, if_pos c_4, if_pos c_5]; done) | (unfold sh_told; simp only [if_neg c_1, if_neg c_2, if_pos c_4, if_pos c_5]; rfl) | (unfold sh_told; dsimp only; simp only [if_neg c_1, if_neg c_2, if_pos c_4, if_pos c_5]; done) | (unfold sh_told; simp only [if_neg c_1, if_neg c_2, if_pos c_4, if_pos c_5]; done)) d_X_told_81
        · refine lv_aload_n S.1 S.2.1 d_X_told_70 rfl (lv_at hl 0 rfl) ?_
          refine cx_get S hw (q0 := 0) (ci := 0) (k := 1) (v := .ref (aXM a)) (fun _ => rfl) rfl (by decide) inX tb_104 rfl rfl d_X_told_71 ?_
          refine cx_rd S hw ⟨Nat.zero_le _, Nat.zero_le _⟩ (As := []) (rest := []) (c_M_moved l D cI cP a κ np σ ) (q0 := 2) (fun _ => rfl) rfl tb_154 tb_336 tb_152 tb_153 tb_3 hd_M_moved rfl ⟨by omega, by omega⟩ hl.1 rfl (Nat.le_of_ble_eq_true rfl) d_X_told_74 ?_
          refine lv_goto (tgt := 81) S.1 S.2.1 d_X_told_77 (by decide) ?_
          exact cx_endI S hr hlk (by first | exact absurd c_4 c_1 | exact absurd c_4 c_2 | exact absurd c_4 c_5 | rfl | (unfold sh_told; rfl) | (unfold sh_told; simp only [if_neg c_1, if_neg c_2, if_pos c_4, if_neg c_5]; done) | (unfold sh_told; simp only [if_neg c_1, if_neg c_2, if_pos c_4, if_neg c_5]; rfl) | (unfold sh_told; dsimp only; simp only [if_neg c_1, if_neg c_2, if_pos c_4, if_neg c_5]; done) | (unfold sh_told; simp only [if_neg c_1, if_neg c_2, if_pos c_4, if_neg c_5]; done)) d_X_told_81
      · skip
        by_cases c_6 : w = 3
        · refine lv_tableIn (off := 81) (tgt := 82) S.1 S.2.1 d_X_told_1 (by rw [c_6]; decide) (by rw [c_6]; decide) (by rw [c_6]; decide) (by decide) ?_
          refine lv_aload_n S.1 S.2.1 d_X_told_82 rfl (lv_at hl 0 rfl) ?_
          refine cx_get S hw (q0 := 0) (ci := 0) (k := 1) (v := .ref (aXM a)) (fun _ => rfl) rfl (by decide) inX tb_104 rfl rfl d_X_told_83 ?_
          refine cx_getN S hw (q0 := 2) (ci := 2) (k := 5) (v := .int (sMade σ)) (fun _ => rfl) rfl (by decide) inM nxw_3 rfl rfl d_X_told_86 ?_
          exact cx_endI S hr hlk (by first | exact absurd c_6 c_1 | exact absurd c_6 c_2 | exact absurd c_6 c_4 | rfl | (unfold sh_told; rfl) | (unfold sh_told; simp only [if_neg c_1, if_neg c_2, if_neg c_4, if_pos c_6]; done) | (unfold sh_told; simp only [if_neg c_1, if_neg c_2, if_neg c_4, if_pos c_6]; rfl) | (unfold sh_told; dsimp only; simp only [if_neg c_1, if_neg c_2, if_neg c_4, if_pos c_6]; done) | (unfold sh_told; simp only [if_neg c_1, if_neg c_2, if_neg c_4, if_pos c_6]; done)) d_X_told_89
        · skip
          by_cases c_7 : w = 4
          · refine lv_tableIn (off := 89) (tgt := 90) S.1 S.2.1 d_X_told_1 (by rw [c_7]; decide) (by rw [c_7]; decide) (by rw [c_7]; decide) (by decide) ?_
            refine lv_aload_n S.1 S.2.1 d_X_told_90 rfl (lv_at hl 0 rfl) ?_
            refine cx_get S hw (q0 := 0) (ci := 0) (k := 1) (v := .ref (aXM a)) (fun _ => rfl) rfl (by decide) inX tb_104 rfl rfl d_X_told_91 ?_
            refine cx_getN S hw (q0 := 2) (ci := 2) (k := 3) (v := .int (kLim κ)) (fun _ => rfl) rfl (by decide) inM nxw_2 rfl rfl d_X_told_94 ?_
            exact cx_endI S hr hlk (by first | exact absurd c_7 c_1 | exact absurd c_7 c_2 | exact absurd c_7 c_4 | exact absurd c_7 c_6 | rfl | (unfold sh_told; rfl) | (unfold sh_told; simp only [if_neg c_1, if_neg c_2, if_neg c_4, if_neg c_6, if_pos c_7]; done) | (unfold sh_told; simp only [if_neg c_1, if_neg c_2, if_neg c_4, if_neg c_6, if_pos c_7]; rfl) | (unfold sh_told; dsimp only; simp only [if_neg c_1, if_neg c_2, if_neg c_4, if_neg c_6, if_pos c_7]; done) | (unfold sh_told; simp only [if_neg c_1, if_neg c_2, if_neg c_4, if_neg c_6, if_pos c_7]; done)) d_X_told_97
          · skip
            refine lv_tableOut (tgt := 98) S.1 S.2.1 d_X_told_1 (by have tc_1 := lv_neT c_1 (show (0 : Int32).toInt = 0 from rfl); have tc_2 := lv_neT c_2 (show (1 : Int32).toInt = 1 from rfl); have tc_4 := lv_neT c_4 (show (2 : Int32).toInt = 2 from rfl); have tc_6 := lv_neT c_6 (show (3 : Int32).toInt = 3 from rfl); have tc_7 := lv_neT c_7 (show (4 : Int32).toInt = 4 from rfl); omega) (by decide) ?_
            refine lv_iconst (v := -1) S.1 S.2.1 d_X_told_98 (by decide) ?_
            exact cx_endI S hr hlk (by first | rfl | (unfold sh_told; rfl) | (unfold sh_told; simp only [if_neg c_1, if_neg c_2, if_neg c_4, if_neg c_6, if_neg c_7]; done) | (unfold sh_told; simp only [if_neg c_1, if_neg c_2, if_neg c_4, if_neg c_6, if_neg c_7]; rfl) | (unfold sh_told; dsimp only; simp only [if_neg c_1, if_neg c_2, if_neg c_4, if_neg c_6, if_neg c_7]; done) | (unfold sh_told; simp only [if_neg c_1, if_neg c_2, if_neg c_4, if_neg c_6, if_neg c_7]; done)) d_X_told_99
