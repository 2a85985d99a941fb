/-! ===== THE FACE: contracts ===== -/
set_option maxHeartbeats 4000000 in
set_option maxRecDepth 100000 in
theorem c_X_getItem (l : Launch) (D : va_G) (cI cP : ClassId) (a : cx_a) (κ : sh_K) (np : Nat) (σ : sh_S) (t o i : Int32) : cx_Met l D cI cP a κ np y_X_getItem b_X_getItem 6 (some .boolean) 6 127 [.ref (aXX a), .int t, .int o, .int i] σ (some (.int ((sh_getItem κ σ t o i).1))) ((sh_getItem κ σ t o i).2) := by
  refine cx_start (by decide) (Nat.le_of_ble_eq_true rfl) mo_getItem ?_
  intro p e R s m args below meth c A ls S hr hlk hfr hlc hw hbud hl
  have hl : lv_has ls 6 [(0, .ref (aXX a)), (1, .int t), (2, .int o), (3, .int i)] := hl
  refine lv_aload_n S.1 S.2.1 d_X_getItem_0 rfl (lv_at hl 0 rfl) ?_
  refine lv_iload_n S.1 S.2.1 d_X_getItem_1 rfl (lv_at hl 2 rfl) ?_
  refine cx_call S hw hbud (As := [.int o]) (rest := []) (c_X_headOf l D cI cP a κ np σ o) (q0 := 0) (fun _ => rfl) rfl tb_222 tb_219 tb_221 tp_7 tb_1 hd_X_headOf rfl ⟨by omega, by omega⟩ hl.1 rfl (Nat.le_of_ble_eq_true rfl) d_X_getItem_2 (fun H locs hw => ?_)
  generalize hq_1 : sh_head κ σ o = q_1 at hw ⊢
  refine W.eq (g2 := F0 m 5 ls [.int q_1.1]) rfl ?_
  refine lv_istore (lv' := [(4, .int q_1.1), (0, .ref (aXX a)), (1, .int t), (2, .int o), (3, .int i)]) S.1 S.2.1 d_X_getItem_5 hl (by decide) rfl (fun ls hl => ?_)
  refine lv_iload_n S.1 S.2.1 d_X_getItem_7 rfl (lv_at hl 2 rfl) ?_
  refine cx_fn S (As := [.int t]) (rest := []) (c_X_isRegister l t) tb_116 tb_114 tb_115 tb_1 hdf_X_isRegister rfl ⟨by omega, by omega⟩ hl.1 rfl (Nat.le_of_ble_eq_true rfl) d_X_getItem_8 (hw.fit hbud) ?_
  refine lv_if_eq (tgt := 27) S.1 S.2.1 d_X_getItem_11 (by decide) (fun c_1 => ?_) (fun c_1 => ?_)
  · refine lv_iconst (v := 0) S.1 S.2.1 d_X_getItem_27 (by decide) ?_
    exact cx_retZ S hr hlk hw hbud (by first | (unfold sh_getItem; simp only [hq_1, if_pos c_1]; done) | (unfold sh_getItem; dsimp only; simp only [hq_1, if_pos c_1]; done) | (subst hq_1; unfold sh_getItem; simp only [if_pos c_1, hC_eq, hC_clamp]; try rfl; done)) (Or.inl rfl) (by first | (unfold sh_getItem; simp only [hq_1, if_pos c_1]; done) | (unfold sh_getItem; dsimp only; simp only [hq_1, if_pos c_1]; done) | (subst hq_1; unfold sh_getItem; simp only [if_pos c_1, hC_eq, hC_clamp]; try rfl; done)) d_X_getItem_28
  · refine lv_iload_n S.1 S.2.1 d_X_getItem_14 rfl (lv_at hl 4 rfl) ?_
    refine lv_iload S.1 S.2.1 d_X_getItem_15 (lv_at hl 0 rfl) ?_
    refine lv_iconst (v := 1) S.1 S.2.1 d_X_getItem_17 (by decide) ?_
    refine cx_fn S (As := [.int q_1.1, .int 1]) (rest := [.int i]) (c_H_items l q_1.1 1) tb_274 tb_272 tb_273 tb_6 hdf_H_items rfl ⟨by omega, by omega⟩ hl.1 rfl (Nat.le_of_ble_eq_true rfl) d_X_getItem_18 (hw.fit hbud) ?_
    refine cx_fn S (As := [.int i, .int (hd_items q_1.1 1)]) (rest := []) (c_X_isBelow l i (hd_items q_1.1 1)) tb_119 tb_117 tb_118 tb_1 hdf_X_isBelow rfl ⟨by omega, by omega⟩ hl.1 rfl (Nat.le_of_ble_eq_true rfl) d_X_getItem_21 (hw.fit hbud) ?_
    refine lv_if_ne (tgt := 29) S.1 S.2.1 d_X_getItem_24 (by decide) (fun c_2 => ?_) (fun c_2 => ?_)
    · refine lv_aload_n S.1 S.2.1 d_X_getItem_29 rfl (lv_at hl 1 rfl) ?_
      refine lv_iload_n S.1 S.2.1 d_X_getItem_30 rfl (lv_at hl 3 rfl) ?_
      refine lv_iload S.1 S.2.1 d_X_getItem_31 (lv_at hl 0 rfl) ?_
      refine lv_iload_n S.1 S.2.1 d_X_getItem_33 rfl (lv_at hl 4 rfl) ?_
      refine cx_call S hw hbud (As := [.int o, .int q_1.1, .int i]) (rest := []) (c_X_levelOfGap l D cI cP a κ np q_1.2 o q_1.1 i) (q0 := 0) (fun _ => rfl) rfl tb_284 tb_281 tb_283 tp_10 tb_1 hd_X_levelOfGap rfl ⟨by omega, by omega⟩ hl.1 rfl (Nat.le_of_ble_eq_true rfl) d_X_getItem_34 (fun H locs hw => ?_)
      generalize hq_2 : sh_gap κ q_1.2 o q_1.1 i = q_2 at hw ⊢
      refine W.eq (g2 := F0 m 37 ls [.int q_2.1]) rfl ?_
      refine lv_if_ne (tgt := 44) S.1 S.2.1 d_X_getItem_37 (by decide) (fun c_3 => ?_) (fun c_3 => ?_)
      · refine lv_iconst (v := 0) S.1 S.2.1 d_X_getItem_44 (by decide) ?_
        refine lv_istore (lv' := [(5, .int 0), (4, .int q_1.1), (0, .ref (aXX a)), (1, .int t), (2, .int o), (3, .int i)]) S.1 S.2.1 d_X_getItem_45 hl (by decide) rfl (fun ls hl => ?_)
        refine lv_aload_n S.1 S.2.1 d_X_getItem_47 rfl (lv_at hl 2 rfl) ?_
        refine cx_get S hw (q0 := 0) (ci := 0) (k := 1) (v := .ref (aXM a)) (fun _ => rfl) rfl (by decide) inX tb_104 rfl rfl d_X_getItem_48 ?_
        refine lv_iload_n S.1 S.2.1 d_X_getItem_51 rfl (lv_at hl 3 rfl) ?_
        refine lv_iload S.1 S.2.1 d_X_getItem_52 (lv_at hl 0 rfl) ?_
        refine lv_if_eq (tgt := 76) S.1 S.2.1 d_X_getItem_54 (by decide) (fun c_4 => ?_) (fun c_4 => absurd c_4 (by decide))
        refine lv_iconst (v := 0) S.1 S.2.1 d_X_getItem_76 (by decide) ?_
        refine cx_call S hw hbud (As := [.int t, .int 0]) (rest := []) (c_M_setRegister l D cI cP a κ np q_2.2 t 0) (q0 := 2) (fun _ => rfl) rfl tb_202 tb_199 tb_200 tb_201 tb_3 hd_M_setRegister rfl ⟨by omega, by omega⟩ hl.1 rfl (Nat.le_of_ble_eq_true rfl) d_X_getItem_77 (fun H locs hw => ?_)
        refine W.eq (g2 := F0 m 80 ls []) rfl ?_
        refine lv_iconst (v := 1) S.1 S.2.1 d_X_getItem_80 (by decide) ?_
        exact cx_retZ S hr hlk hw hbud (by first | (unfold sh_getItem; simp only [hq_1, if_neg c_1, if_neg c_2, hq_2, if_neg c_3]; done) | (unfold sh_getItem; dsimp only; simp only [hq_1, if_neg c_1, if_neg c_2, hq_2, if_neg c_3]; done) | (subst hq_2; subst hq_1; unfold sh_getItem; simp only [if_neg c_1, if_neg c_2, if_neg c_3, hC_eq, hC_clamp]; try rfl; done)) (Or.inr rfl) (by first | (unfold sh_getItem; simp only [hq_1, if_neg c_1, if_neg c_2, hq_2, if_neg c_3]; done) | (unfold sh_getItem; dsimp only; simp only [hq_1, if_neg c_1, if_neg c_2, hq_2, if_neg c_3]; done) | (subst hq_2; subst hq_1; unfold sh_getItem; simp only [if_neg c_1, if_neg c_2, if_neg c_3, hC_eq, hC_clamp]; try rfl; done)) d_X_getItem_81
      · refine lv_iconst (v := 1) S.1 S.2.1 d_X_getItem_40 (by decide) ?_
        refine lv_goto (tgt := 45) S.1 S.2.1 d_X_getItem_41 (by decide) ?_
        refine lv_istore (lv' := [(5, .int 1), (4, .int q_1.1), (0, .ref (aXX a)), (1, .int t), (2, .int o), (3, .int i)]) S.1 S.2.1 d_X_getItem_45 hl (by decide) rfl (fun ls hl => ?_)
        refine lv_aload_n S.1 S.2.1 d_X_getItem_47 rfl (lv_at hl 2 rfl) ?_
        refine cx_get S hw (q0 := 0) (ci := 0) (k := 1) (v := .ref (aXM a)) (fun _ => rfl) rfl (by decide) inX tb_104 rfl rfl d_X_getItem_48 ?_
        refine lv_iload_n S.1 S.2.1 d_X_getItem_51 rfl (lv_at hl 3 rfl) ?_
        refine lv_iload S.1 S.2.1 d_X_getItem_52 (lv_at hl 0 rfl) ?_
        refine lv_if_eq (tgt := 76) S.1 S.2.1 d_X_getItem_54 (by decide) (fun c_5 => absurd c_5 (by decide)) (fun c_5 => ?_)
        refine lv_aload_n S.1 S.2.1 d_X_getItem_57 rfl (lv_at hl 2 rfl) ?_
        refine cx_get S hw (q0 := 0) (ci := 0) (k := 1) (v := .ref (aXM a)) (fun _ => rfl) rfl (by decide) inX tb_104 rfl rfl d_X_getItem_58 ?_
        refine lv_aload_n S.1 S.2.1 d_X_getItem_61 rfl (lv_at hl 2 rfl) ?_
        refine lv_iload_n S.1 S.2.1 d_X_getItem_62 rfl (lv_at hl 4 rfl) ?_
        refine lv_iload S.1 S.2.1 d_X_getItem_63 (lv_at hl 1 rfl) ?_
        refine lv_iload_n S.1 S.2.1 d_X_getItem_65 rfl (lv_at hl 5 rfl) ?_
        refine lv_iconst (v := 0) S.1 S.2.1 d_X_getItem_66 (by decide) ?_
        refine cx_call S hw hbud (As := [.int o, .int q_1.1, .int i, .int 0]) (rest := [.ref (aXM a), .int t, .ref (aXM a)]) (c_X_cellOnWay l D cI cP a κ np q_2.2 o q_1.1 i 0 (by decide)) (q0 := 0) (fun _ => rfl) rfl tb_294 tb_291 tb_293 tp_11 tb_1 hd_X_cellOnWay rfl ⟨by omega, by omega⟩ hl.1 rfl (Nat.le_of_ble_eq_true rfl) d_X_getItem_67 (fun H locs hw => ?_)
        generalize hq_3 : sh_way κ q_2.2 o q_1.1 i 0 = q_3 at hw ⊢
        refine W.eq (g2 := F0 m 70 ls [.int q_3.1, .ref (aXM a), .int t, .ref (aXM a)]) rfl ?_
        refine cx_call S hw hbud (As := [.int q_3.1]) (rest := [.int t, .ref (aXM a)]) (c_M_follow l D cI cP a κ np q_3.2 q_3.1) (q0 := 2) (fun _ => rfl) rfl tb_241 tb_238 tb_239 tb_240 tb_3 hd_M_follow rfl ⟨by omega, by omega⟩ hl.1 rfl (Nat.le_of_ble_eq_true rfl) d_X_getItem_70 (fun H locs hw => ?_)
        generalize hq_4 : sh_follow κ q_3.2 q_3.1 = q_4 at hw ⊢
        refine W.eq (g2 := F0 m 73 ls [.int q_4.1, .int t, .ref (aXM a)]) rfl ?_
        refine lv_goto (tgt := 77) S.1 S.2.1 d_X_getItem_73 (by decide) ?_
        refine cx_call S hw hbud (As := [.int t, .int q_4.1]) (rest := []) (c_M_setRegister l D cI cP a κ np q_4.2 t q_4.1) (q0 := 2) (fun _ => rfl) rfl tb_202 tb_199 tb_200 tb_201 tb_3 hd_M_setRegister rfl ⟨by omega, by omega⟩ hl.1 rfl (Nat.le_of_ble_eq_true rfl) d_X_getItem_77 (fun H locs hw => ?_)
        refine W.eq (g2 := F0 m 80 ls []) rfl ?_
        refine lv_iconst (v := 1) S.1 S.2.1 d_X_getItem_80 (by decide) ?_
        exact cx_retZ S hr hlk hw hbud (by first | exact absurd c_3 c_1 | exact absurd c_3 c_2 | (unfold sh_getItem; simp only [hq_1, if_neg c_1, if_neg c_2, hq_2, if_pos c_3, hq_3, hq_4]; done) | (unfold sh_getItem; dsimp only; simp only [hq_1, if_neg c_1, if_neg c_2, hq_2, if_pos c_3, hq_3, hq_4]; done) | (subst hq_4; subst hq_3; subst hq_2; subst hq_1; unfold sh_getItem; simp only [if_neg c_1, if_neg c_2, if_pos c_3, hC_eq, hC_clamp]; try rfl; done)) (Or.inr rfl) (by first | exact absurd c_3 c_1 | exact absurd c_3 c_2 | (unfold sh_getItem; simp only [hq_1, if_neg c_1, if_neg c_2, hq_2, if_pos c_3, hq_3, hq_4]; done) | (unfold sh_getItem; dsimp only; simp only [hq_1, if_neg c_1, if_neg c_2, hq_2, if_pos c_3, hq_3, hq_4]; done) | (subst hq_4; subst hq_3; subst hq_2; subst hq_1; unfold sh_getItem; simp only [if_neg c_1, if_neg c_2, if_pos c_3, hC_eq, hC_clamp]; try rfl; done)) d_X_getItem_81
    · refine lv_iconst (v := 0) S.1 S.2.1 d_X_getItem_27 (by decide) ?_
      exact cx_retZ S hr hlk hw hbud (by first | exact absurd c_2 c_1 | (unfold sh_getItem; simp only [hq_1, if_neg c_1, if_pos c_2]; done) | (unfold sh_getItem; dsimp only; simp only [hq_1, if_neg c_1, if_pos c_2]; done) | (subst hq_1; unfold sh_getItem; simp only [if_neg c_1, if_pos c_2, hC_eq, hC_clamp]; try rfl; done)) (Or.inl rfl) (by first | exact absurd c_2 c_1 | (unfold sh_getItem; simp only [hq_1, if_neg c_1, if_pos c_2]; done) | (unfold sh_getItem; dsimp only; simp only [hq_1, if_neg c_1, if_pos c_2]; done) | (subst hq_1; unfold sh_getItem; simp only [if_neg c_1, if_pos c_2, hC_eq, hC_clamp]; try rfl; done)) d_X_getItem_28
set_option maxHeartbeats 4000000 in
set_option maxRecDepth 100000 in
theorem c_X_putItem (l : Launch) (D : va_G) (cI cP : ClassId) (a : cx_a) (κ : sh_K) (np : Nat) (σ : sh_S) (o i r : Int32) : cx_Met l D cI cP a κ np y_X_putItem b_X_putItem 6 (some .int) 7 152 [.ref (aXX a), .int o, .int i, .int r] σ (some (.int ((sh_putItem κ σ o i r).1))) ((sh_putItem κ σ o i r).2) := by
  refine cx_start (by decide) (Nat.le_of_ble_eq_true rfl) mo_putItem ?_
  intro p e R s m args below meth c A ls S hr hlk hfr hlc hw hbud hl
  have hl : lv_has ls 6 [(0, .ref (aXX a)), (1, .int o), (2, .int i), (3, .int r)] := hl
  refine lv_aload_n S.1 S.2.1 d_X_putItem_0 rfl (lv_at hl 0 rfl) ?_
  refine lv_iload_n S.1 S.2.1 d_X_putItem_1 rfl (lv_at hl 1 rfl) ?_
  refine cx_call S hw hbud (As := [.int o]) (rest := []) (c_X_headOf l D cI cP a κ np σ o) (q0 := 0) (fun _ => rfl) rfl tb_222 tb_219 tb_221 tp_7 tb_1 hd_X_headOf rfl ⟨by omega, by omega⟩ hl.1 rfl (Nat.le_of_ble_eq_true rfl) d_X_putItem_2 (fun H locs hw => ?_)
  generalize hq_1 : sh_head κ σ o = q_1 at hw ⊢
  refine W.eq (g2 := F0 m 5 ls [.int q_1.1]) rfl ?_
  refine lv_istore (lv' := [(4, .int q_1.1), (0, .ref (aXX a)), (1, .int o), (2, .int i), (3, .int r)]) S.1 S.2.1 d_X_putItem_5 hl (by decide) rfl (fun ls hl => ?_)
  refine lv_iload_n S.1 S.2.1 d_X_putItem_7 rfl (lv_at hl 4 rfl) ?_
  refine cx_fn S (As := [.int r]) (rest := []) (c_X_isRegister l r) tb_116 tb_114 tb_115 tb_1 hdf_X_isRegister rfl ⟨by omega, by omega⟩ hl.1 rfl (Nat.le_of_ble_eq_true rfl) d_X_putItem_8 (hw.fit hbud) ?_
  refine lv_if_eq (tgt := 27) S.1 S.2.1 d_X_putItem_11 (by decide) (fun c_1 => ?_) (fun c_1 => ?_)
  · refine lv_iconst (v := -1) S.1 S.2.1 d_X_putItem_27 (by decide) ?_
    exact cx_retI S hr hlk hw hbud (by first | (unfold sh_putItem; simp only [hq_1, if_pos c_1]; done) | (unfold sh_putItem; dsimp only; simp only [hq_1, if_pos c_1]; done) | (subst hq_1; unfold sh_putItem; simp only [if_pos c_1, hC_eq, hC_clamp]; try rfl; done)) (by first | (unfold sh_putItem; simp only [hq_1, if_pos c_1]; done) | (unfold sh_putItem; dsimp only; simp only [hq_1, if_pos c_1]; done) | (subst hq_1; unfold sh_putItem; simp only [if_pos c_1, hC_eq, hC_clamp]; try rfl; done)) d_X_putItem_28
  · refine lv_iload_n S.1 S.2.1 d_X_putItem_14 rfl (lv_at hl 3 rfl) ?_
    refine lv_iload S.1 S.2.1 d_X_putItem_15 (lv_at hl 0 rfl) ?_
    refine lv_iconst (v := 1) S.1 S.2.1 d_X_putItem_17 (by decide) ?_
    refine cx_fn S (As := [.int q_1.1, .int 1]) (rest := [.int i]) (c_H_items l q_1.1 1) tb_274 tb_272 tb_273 tb_6 hdf_H_items rfl ⟨by omega, by omega⟩ hl.1 rfl (Nat.le_of_ble_eq_true rfl) d_X_putItem_18 (hw.fit hbud) ?_
    refine cx_fn S (As := [.int i, .int (hd_items q_1.1 1)]) (rest := []) (c_X_isBelow l i (hd_items q_1.1 1)) tb_119 tb_117 tb_118 tb_1 hdf_X_isBelow rfl ⟨by omega, by omega⟩ hl.1 rfl (Nat.le_of_ble_eq_true rfl) d_X_putItem_21 (hw.fit hbud) ?_
    refine lv_if_ne (tgt := 29) S.1 S.2.1 d_X_putItem_24 (by decide) (fun c_2 => ?_) (fun c_2 => ?_)
    · refine lv_aload_n S.1 S.2.1 d_X_putItem_29 rfl (lv_at hl 1 rfl) ?_
      refine lv_iload_n S.1 S.2.1 d_X_putItem_30 rfl (lv_at hl 2 rfl) ?_
      refine lv_iload S.1 S.2.1 d_X_putItem_31 (lv_at hl 0 rfl) ?_
      refine lv_iload_n S.1 S.2.1 d_X_putItem_33 rfl (lv_at hl 3 rfl) ?_
      refine cx_call S hw hbud (As := [.int o, .int q_1.1, .int i]) (rest := []) (c_X_openWay l D cI cP a κ np q_1.2 o q_1.1 i) (q0 := 0) (fun _ => rfl) rfl tb_302 tb_299 tb_301 tp_12 tb_1 hd_X_openWay rfl ⟨by omega, by omega⟩ hl.1 rfl (Nat.le_of_ble_eq_true rfl) d_X_putItem_34 (fun H locs hw => ?_)
      generalize hq_2 : sh_open κ q_1.2 o q_1.1 i = q_2 at hw ⊢
      refine W.eq (g2 := F0 m 37 ls [.int q_2.1]) rfl ?_
      refine lv_istore (lv' := [(5, .int q_2.1), (4, .int q_1.1), (0, .ref (aXX a)), (1, .int o), (2, .int i), (3, .int r)]) S.1 S.2.1 d_X_putItem_37 hl (by decide) rfl (fun ls hl => ?_)
      refine lv_iload S.1 S.2.1 d_X_putItem_39 (lv_at hl 0 rfl) ?_
      refine lv_iconst (v := 1) S.1 S.2.1 d_X_putItem_41 (by decide) ?_
      refine lv_icmp_ne (tgt := 69) S.1 S.2.1 d_X_putItem_42 (by decide) (fun c_3 => ?_) (fun c_3 => ?_)
      · refine lv_iload S.1 S.2.1 d_X_putItem_69 (lv_at hl 0 rfl) ?_
        exact cx_retI S hr hlk hw hbud (by first | (unfold sh_putItem; simp only [hq_1, if_neg c_1, if_neg c_2, hq_2, if_neg c_3]; done) | (unfold sh_putItem; dsimp only; simp only [hq_1, if_neg c_1, if_neg c_2, hq_2, if_neg c_3]; done) | (subst hq_2; subst hq_1; unfold sh_putItem; simp only [if_neg c_1, if_neg c_2, if_neg c_3, hC_eq, hC_clamp]; try rfl; done)) (by first | (unfold sh_putItem; simp only [hq_1, if_neg c_1, if_neg c_2, hq_2, if_neg c_3]; done) | (unfold sh_putItem; dsimp only; simp only [hq_1, if_neg c_1, if_neg c_2, hq_2, if_neg c_3]; done) | (subst hq_2; subst hq_1; unfold sh_putItem; simp only [if_neg c_1, if_neg c_2, if_neg c_3, hC_eq, hC_clamp]; try rfl; done)) d_X_putItem_71
      · refine lv_aload_n S.1 S.2.1 d_X_putItem_45 rfl (lv_at hl 2 rfl) ?_
        refine cx_get S hw (q0 := 0) (ci := 0) (k := 1) (v := .ref (aXM a)) (fun _ => rfl) rfl (by decide) inX tb_104 rfl rfl d_X_putItem_46 ?_
        refine lv_aload_n S.1 S.2.1 d_X_putItem_49 rfl (lv_at hl 2 rfl) ?_
        refine lv_iload_n S.1 S.2.1 d_X_putItem_50 rfl (lv_at hl 3 rfl) ?_
        refine lv_iload S.1 S.2.1 d_X_putItem_51 (lv_at hl 1 rfl) ?_
        refine lv_iload_n S.1 S.2.1 d_X_putItem_53 rfl (lv_at hl 4 rfl) ?_
        refine lv_iconst (v := 0) S.1 S.2.1 d_X_putItem_54 (by decide) ?_
        refine cx_call S hw hbud (As := [.int o, .int q_1.1, .int i, .int 0]) (rest := [.ref (aXM a)]) (c_X_cellOnWay l D cI cP a κ np q_2.2 o q_1.1 i 0 (by decide)) (q0 := 0) (fun _ => rfl) rfl tb_294 tb_291 tb_293 tp_11 tb_1 hd_X_cellOnWay rfl ⟨by omega, by omega⟩ hl.1 rfl (Nat.le_of_ble_eq_true rfl) d_X_putItem_55 (fun H locs hw => ?_)
        generalize hq_3 : sh_way κ q_2.2 o q_1.1 i 0 = q_3 at hw ⊢
        refine W.eq (g2 := F0 m 58 ls [.int q_3.1, .ref (aXM a)]) rfl ?_
        refine lv_aload_n S.1 S.2.1 d_X_putItem_58 rfl (lv_at hl 2 rfl) ?_
        refine cx_get S hw (q0 := 0) (ci := 0) (k := 1) (v := .ref (aXM a)) (fun _ => rfl) rfl (by decide) inX tb_104 rfl rfl d_X_putItem_59 ?_
        refine lv_iload_n S.1 S.2.1 d_X_putItem_62 rfl (lv_at hl 5 rfl) ?_
        refine cx_rd S hw (hw.fit hbud) (As := [.int r]) (rest := [.int q_3.1, .ref (aXM a)]) (c_M_register l D cI cP a κ np q_3.2 r) (q0 := 2) (fun _ => rfl) rfl tb_226 tb_223 tb_224 tb_225 tb_3 hd_M_register rfl ⟨by omega, by omega⟩ hl.1 rfl (Nat.le_of_ble_eq_true rfl) d_X_putItem_63 ?_
        refine cx_call S hw hbud (As := [.int q_3.1, .int (sh_reg q_3.2 r)]) (rest := []) (c_M_link l D cI cP a κ np q_3.2 q_3.1 (sh_reg q_3.2 r)) (q0 := 2) (fun _ => rfl) rfl tb_249 tb_246 tb_247 tb_248 tb_3 hd_M_link rfl ⟨by omega, by omega⟩ hl.1 rfl (Nat.le_of_ble_eq_true rfl) d_X_putItem_66 (fun H locs hw => ?_)
        generalize hq_4 : sh_link κ q_3.2 q_3.1 (sh_reg q_3.2 r) = q_4 at hw ⊢
        refine W.eq (g2 := F0 m 69 ls []) rfl ?_
        refine lv_iload S.1 S.2.1 d_X_putItem_69 (lv_at hl 0 rfl) ?_
        exact cx_retI S hr hlk hw hbud (by first | exact absurd c_3 c_1 | exact absurd c_3 c_2 | (unfold sh_putItem; simp only [hq_1, if_neg c_1, if_neg c_2, hq_2, if_pos c_3, hq_3, hq_4]; done) | (unfold sh_putItem; dsimp only; simp only [hq_1, if_neg c_1, if_neg c_2, hq_2, if_pos c_3, hq_3, hq_4]; done) | (subst hq_4; subst hq_3; subst hq_2; subst hq_1; unfold sh_putItem; simp only [if_neg c_1, if_neg c_2, if_pos c_3, hC_eq, hC_clamp]; try rfl; done)) (by first | exact absurd c_3 c_1 | exact absurd c_3 c_2 | (unfold sh_putItem; simp only [hq_1, if_neg c_1, if_neg c_2, hq_2, if_pos c_3, hq_3, hq_4]; done) | (unfold sh_putItem; dsimp only; simp only [hq_1, if_neg c_1, if_neg c_2, hq_2, if_pos c_3, hq_3, hq_4]; done) | (subst hq_4; subst hq_3; subst hq_2; subst hq_1; unfold sh_putItem; simp only [if_neg c_1, if_neg c_2, if_pos c_3, hC_eq, hC_clamp]; try rfl; done)) d_X_putItem_71
    · refine lv_iconst (v := -1) S.1 S.2.1 d_X_putItem_27 (by decide) ?_
      exact cx_retI S hr hlk hw hbud (by first | exact absurd c_2 c_1 | (unfold sh_putItem; simp only [hq_1, if_neg c_1, if_pos c_2]; done) | (unfold sh_putItem; dsimp only; simp only [hq_1, if_neg c_1, if_pos c_2]; done) | (subst hq_1; unfold sh_putItem; simp only [if_neg c_1, if_pos c_2, hC_eq, hC_clamp]; try rfl; done)) (by first | exact absurd c_2 c_1 | (unfold sh_putItem; simp only [hq_1, if_neg c_1, if_pos c_2]; done) | (unfold sh_putItem; dsimp only; simp only [hq_1, if_neg c_1, if_pos c_2]; done) | (subst hq_1; unfold sh_putItem; simp only [if_neg c_1, if_pos c_2, hC_eq, hC_clamp]; try rfl; done)) d_X_putItem_28
set_option maxHeartbeats 4000000 in
set_option maxRecDepth 100000 in
theorem c_X_lookItem (l : Launch) (D : va_G) (cI cP : ClassId) (a : cx_a) (κ : sh_K) (np : Nat) (σ : sh_S) (o i : Int32) : cx_Met l D cI cP a κ np y_X_lookItem b_X_lookItem 5 (some .long) 6 127 [.ref (aXX a), .int o, .int i] σ (some (.long ((sh_lookItem κ σ o i).1))) ((sh_lookItem κ σ o i).2) := by
  refine cx_start (by decide) (Nat.le_of_ble_eq_true rfl) mo_lookItem ?_
  intro p e R s m args below meth c A ls S hr hlk hfr hlc hw hbud hl
  have hl : lv_has ls 5 [(0, .ref (aXX a)), (1, .int o), (2, .int i)] := hl
  refine lv_aload_n S.1 S.2.1 d_X_lookItem_0 rfl (lv_at hl 0 rfl) ?_
  refine lv_iload_n S.1 S.2.1 d_X_lookItem_1 rfl (lv_at hl 1 rfl) ?_
  refine cx_call S hw hbud (As := [.int o]) (rest := []) (c_X_headOf l D cI cP a κ np σ o) (q0 := 0) (fun _ => rfl) rfl tb_222 tb_219 tb_221 tp_7 tb_1 hd_X_headOf rfl ⟨by omega, by omega⟩ hl.1 rfl (Nat.le_of_ble_eq_true rfl) d_X_lookItem_2 (fun H locs hw => ?_)
  generalize hq_1 : sh_head κ σ o = q_1 at hw ⊢
  refine W.eq (g2 := F0 m 5 ls [.int q_1.1]) rfl ?_
  refine lv_istore_n (lv' := [(3, .int q_1.1), (0, .ref (aXX a)), (1, .int o), (2, .int i)]) S.1 S.2.1 d_X_lookItem_5 rfl hl (by decide) rfl (fun ls hl => ?_)
  refine lv_iload_n S.1 S.2.1 d_X_lookItem_6 rfl (lv_at hl 3 rfl) ?_
  refine lv_iload_n S.1 S.2.1 d_X_lookItem_7 rfl (lv_at hl 0 rfl) ?_
  refine lv_iconst (v := 0) S.1 S.2.1 d_X_lookItem_8 (by decide) ?_
  refine cx_fn S (As := [.int q_1.1, .int 0]) (rest := [.int i]) (c_H_items l q_1.1 0) tb_274 tb_272 tb_273 tb_6 hdf_H_items rfl ⟨by omega, by omega⟩ hl.1 rfl (Nat.le_of_ble_eq_true rfl) d_X_lookItem_9 (hw.fit hbud) ?_
  refine cx_fn S (As := [.int i, .int (hd_items q_1.1 0)]) (rest := []) (c_X_isBelow l i (hd_items q_1.1 0)) tb_119 tb_117 tb_118 tb_1 hdf_X_isBelow rfl ⟨by omega, by omega⟩ hl.1 rfl (Nat.le_of_ble_eq_true rfl) d_X_lookItem_12 (hw.fit hbud) ?_
  refine lv_if_ne (tgt := 22) S.1 S.2.1 d_X_lookItem_15 (by decide) (fun c_1 => ?_) (fun c_1 => ?_)
  · refine lv_aload_n S.1 S.2.1 d_X_lookItem_22 rfl (lv_at hl 1 rfl) ?_
    refine lv_iload_n S.1 S.2.1 d_X_lookItem_23 rfl (lv_at hl 2 rfl) ?_
    refine lv_iload_n S.1 S.2.1 d_X_lookItem_24 rfl (lv_at hl 0 rfl) ?_
    refine lv_iload_n S.1 S.2.1 d_X_lookItem_25 rfl (lv_at hl 3 rfl) ?_
    refine cx_call S hw hbud (As := [.int o, .int q_1.1, .int i]) (rest := []) (c_X_levelOfGap l D cI cP a κ np q_1.2 o q_1.1 i) (q0 := 0) (fun _ => rfl) rfl tb_284 tb_281 tb_283 tp_10 tb_1 hd_X_levelOfGap rfl ⟨by omega, by omega⟩ hl.1 rfl (Nat.le_of_ble_eq_true rfl) d_X_lookItem_26 (fun H locs hw => ?_)
    generalize hq_2 : sh_gap κ q_1.2 o q_1.1 i = q_2 at hw ⊢
    refine W.eq (g2 := F0 m 29 ls [.int q_2.1]) rfl ?_
    refine lv_if_ne (tgt := 36) S.1 S.2.1 d_X_lookItem_29 (by decide) (fun c_2 => ?_) (fun c_2 => ?_)
    · refine lv_iconst (v := 0) S.1 S.2.1 d_X_lookItem_36 (by decide) ?_
      refine lv_istore (lv' := [(4, .int 0), (3, .int q_1.1), (0, .ref (aXX a)), (1, .int o), (2, .int i)]) S.1 S.2.1 d_X_lookItem_37 hl (by decide) rfl (fun ls hl => ?_)
      refine lv_iload S.1 S.2.1 d_X_lookItem_39 (lv_at hl 0 rfl) ?_
      refine lv_if_eq (tgt := 63) S.1 S.2.1 d_X_lookItem_41 (by decide) (fun c_3 => ?_) (fun c_3 => absurd c_3 (by decide))
      refine lv_lconst (v := 0) S.1 S.2.1 d_X_lookItem_63 (by decide) ?_
      exact cx_retL S hr hlk hw hbud (by first | (unfold sh_lookItem; simp only [hq_1, if_neg c_1, hq_2, if_neg c_2]; done) | (unfold sh_lookItem; dsimp only; simp only [hq_1, if_neg c_1, hq_2, if_neg c_2]; done) | (subst hq_2; subst hq_1; unfold sh_lookItem; simp only [if_neg c_1, if_neg c_2, hC_eq, hC_clamp]; try rfl; done)) (by first | (unfold sh_lookItem; simp only [hq_1, if_neg c_1, hq_2, if_neg c_2]; done) | (unfold sh_lookItem; dsimp only; simp only [hq_1, if_neg c_1, hq_2, if_neg c_2]; done) | (subst hq_2; subst hq_1; unfold sh_lookItem; simp only [if_neg c_1, if_neg c_2, hC_eq, hC_clamp]; try rfl; done)) d_X_lookItem_64
    · refine lv_iconst (v := 1) S.1 S.2.1 d_X_lookItem_32 (by decide) ?_
      refine lv_goto (tgt := 37) S.1 S.2.1 d_X_lookItem_33 (by decide) ?_
      refine lv_istore (lv' := [(4, .int 1), (3, .int q_1.1), (0, .ref (aXX a)), (1, .int o), (2, .int i)]) S.1 S.2.1 d_X_lookItem_37 hl (by decide) rfl (fun ls hl => ?_)
      refine lv_iload S.1 S.2.1 d_X_lookItem_39 (lv_at hl 0 rfl) ?_
      refine lv_if_eq (tgt := 63) S.1 S.2.1 d_X_lookItem_41 (by decide) (fun c_4 => absurd c_4 (by decide)) (fun c_4 => ?_)
      refine lv_aload_n S.1 S.2.1 d_X_lookItem_44 rfl (lv_at hl 2 rfl) ?_
      refine cx_get S hw (q0 := 0) (ci := 0) (k := 0) (v := .ref (aXC a)) (fun _ => rfl) rfl (by decide) inX tb_103 rfl rfl d_X_lookItem_45 ?_
      refine lv_aload_n S.1 S.2.1 d_X_lookItem_48 rfl (lv_at hl 2 rfl) ?_
      refine lv_iload_n S.1 S.2.1 d_X_lookItem_49 rfl (lv_at hl 3 rfl) ?_
      refine lv_iload_n S.1 S.2.1 d_X_lookItem_50 rfl (lv_at hl 1 rfl) ?_
      refine lv_iload_n S.1 S.2.1 d_X_lookItem_51 rfl (lv_at hl 4 rfl) ?_
      refine lv_iconst (v := 0) S.1 S.2.1 d_X_lookItem_52 (by decide) ?_
      refine cx_call S hw hbud (As := [.int o, .int q_1.1, .int i, .int 0]) (rest := [.ref (aXC a)]) (c_X_cellOnWay l D cI cP a κ np q_2.2 o q_1.1 i 0 (by decide)) (q0 := 0) (fun _ => rfl) rfl tb_294 tb_291 tb_293 tp_11 tb_1 hd_X_cellOnWay rfl ⟨by omega, by omega⟩ hl.1 rfl (Nat.le_of_ble_eq_true rfl) d_X_lookItem_53 (fun H locs hw => ?_)
      generalize hq_3 : sh_way κ q_2.2 o q_1.1 i 0 = q_3 at hw ⊢
      refine W.eq (g2 := F0 m 56 ls [.int q_3.1, .ref (aXC a)]) rfl ?_
      refine cx_call S hw hbud (As := [.int q_3.1]) (rest := []) (c_C_read l D cI cP a κ np q_3.2 q_3.1) (q0 := 1) (fun _ => rfl) rfl tb_170 tb_227 tb_168 tb_169 tb_4 hd_C_read rfl ⟨by omega, by omega⟩ hl.1 rfl (Nat.le_of_ble_eq_true rfl) d_X_lookItem_56 (fun H locs hw => ?_)
      refine W.eq (g2 := F0 m 59 ls [.int (sh_val κ (q_3.2).1 q_3.1)]) rfl ?_
      refine lv_i2l S.1 S.2.1 d_X_lookItem_59 rfl ?_
      refine lv_goto (tgt := 64) S.1 S.2.1 d_X_lookItem_60 (by decide) ?_
      exact cx_retL S hr hlk hw hbud (by first | exact absurd c_2 c_1 | (unfold sh_lookItem; simp only [hq_1, if_neg c_1, hq_2, if_pos c_2, hq_3]; done) | (unfold sh_lookItem; dsimp only; simp only [hq_1, if_neg c_1, hq_2, if_pos c_2, hq_3]; done) | (subst hq_3; subst hq_2; subst hq_1; unfold sh_lookItem; simp only [if_neg c_1, if_pos c_2, hC_eq, hC_clamp]; try rfl; done)) (by first | exact absurd c_2 c_1 | (unfold sh_lookItem; simp only [hq_1, if_neg c_1, hq_2, if_pos c_2, hq_3]; done) | (unfold sh_lookItem; dsimp only; simp only [hq_1, if_neg c_1, hq_2, if_pos c_2, hq_3]; done) | (subst hq_3; subst hq_2; subst hq_1; unfold sh_lookItem; simp only [if_neg c_1, if_pos c_2, hC_eq, hC_clamp]; try rfl; done)) d_X_lookItem_64
  · refine lv_ldc2 (v := -9223372036854775808) S.1 S.2.1 S.2.2.2.1 (S.2.2.2.2 _ (List.mem_cons_of_mem _ tb_258)) d_X_lookItem_18 ?_
    exact cx_retL S hr hlk hw hbud (by first | (unfold sh_lookItem; simp only [hq_1, if_pos c_1]; done) | (unfold sh_lookItem; dsimp only; simp only [hq_1, if_pos c_1]; done) | (subst hq_1; unfold sh_lookItem; simp only [if_pos c_1, hC_eq, hC_clamp]; try rfl; done)) (by first | (unfold sh_lookItem; simp only [hq_1, if_pos c_1]; done) | (unfold sh_lookItem; dsimp only; simp only [hq_1, if_pos c_1]; done) | (subst hq_1; unfold sh_lookItem; simp only [if_pos c_1, hC_eq, hC_clamp]; try rfl; done)) d_X_lookItem_21
set_option maxHeartbeats 4000000 in
set_option maxRecDepth 100000 in
theorem c_X_setItem (l : Launch) (D : va_G) (cI cP : ClassId) (a : cx_a) (κ : sh_K) (np : Nat) (σ : sh_S) (o i v : Int32) : cx_Met l D cI cP a κ np y_X_setItem b_X_setItem 6 (some .int) 7 152 [.ref (aXX a), .int o, .int i, .int v] σ (some (.int ((sh_setItem κ σ o i v).1))) ((sh_setItem κ σ o i v).2) := by
  refine cx_start (by decide) (Nat.le_of_ble_eq_true rfl) mo_setItem ?_
  intro p e R s m args below meth c A ls S hr hlk hfr hlc hw hbud hl
  have hl : lv_has ls 6 [(0, .ref (aXX a)), (1, .int o), (2, .int i), (3, .int v)] := hl
  refine lv_aload_n S.1 S.2.1 d_X_setItem_0 rfl (lv_at hl 0 rfl) ?_
  refine lv_iload_n S.1 S.2.1 d_X_setItem_1 rfl (lv_at hl 1 rfl) ?_
  refine cx_call S hw hbud (As := [.int o]) (rest := []) (c_X_headOf l D cI cP a κ np σ o) (q0 := 0) (fun _ => rfl) rfl tb_222 tb_219 tb_221 tp_7 tb_1 hd_X_headOf rfl ⟨by omega, by omega⟩ hl.1 rfl (Nat.le_of_ble_eq_true rfl) d_X_setItem_2 (fun H locs hw => ?_)
  generalize hq_1 : sh_head κ σ o = q_1 at hw ⊢
  refine W.eq (g2 := F0 m 5 ls [.int q_1.1]) rfl ?_
  refine lv_istore (lv' := [(4, .int q_1.1), (0, .ref (aXX a)), (1, .int o), (2, .int i), (3, .int v)]) S.1 S.2.1 d_X_setItem_5 hl (by decide) rfl (fun ls hl => ?_)
  refine lv_iload_n S.1 S.2.1 d_X_setItem_7 rfl (lv_at hl 3 rfl) ?_
  refine lv_iload S.1 S.2.1 d_X_setItem_8 (lv_at hl 0 rfl) ?_
  refine lv_iconst (v := 0) S.1 S.2.1 d_X_setItem_10 (by decide) ?_
  refine cx_fn S (As := [.int q_1.1, .int 0]) (rest := [.int i]) (c_H_items l q_1.1 0) tb_274 tb_272 tb_273 tb_6 hdf_H_items rfl ⟨by omega, by omega⟩ hl.1 rfl (Nat.le_of_ble_eq_true rfl) d_X_setItem_11 (hw.fit hbud) ?_
  refine cx_fn S (As := [.int i, .int (hd_items q_1.1 0)]) (rest := []) (c_X_isBelow l i (hd_items q_1.1 0)) tb_119 tb_117 tb_118 tb_1 hdf_X_isBelow rfl ⟨by omega, by omega⟩ hl.1 rfl (Nat.le_of_ble_eq_true rfl) d_X_setItem_14 (hw.fit hbud) ?_
  refine lv_if_ne (tgt := 22) S.1 S.2.1 d_X_setItem_17 (by decide) (fun c_1 => ?_) (fun c_1 => ?_)
  · refine lv_aload_n S.1 S.2.1 d_X_setItem_22 rfl (lv_at hl 1 rfl) ?_
    refine lv_iload_n S.1 S.2.1 d_X_setItem_23 rfl (lv_at hl 2 rfl) ?_
    refine lv_iload S.1 S.2.1 d_X_setItem_24 (lv_at hl 0 rfl) ?_
    refine lv_iload_n S.1 S.2.1 d_X_setItem_26 rfl (lv_at hl 3 rfl) ?_
    refine cx_call S hw hbud (As := [.int o, .int q_1.1, .int i]) (rest := []) (c_X_openWay l D cI cP a κ np q_1.2 o q_1.1 i) (q0 := 0) (fun _ => rfl) rfl tb_302 tb_299 tb_301 tp_12 tb_1 hd_X_openWay rfl ⟨by omega, by omega⟩ hl.1 rfl (Nat.le_of_ble_eq_true rfl) d_X_setItem_27 (fun H locs hw => ?_)
    generalize hq_2 : sh_open κ q_1.2 o q_1.1 i = q_2 at hw ⊢
    refine W.eq (g2 := F0 m 30 ls [.int q_2.1]) rfl ?_
    refine lv_istore (lv' := [(5, .int q_2.1), (4, .int q_1.1), (0, .ref (aXX a)), (1, .int o), (2, .int i), (3, .int v)]) S.1 S.2.1 d_X_setItem_30 hl (by decide) rfl (fun ls hl => ?_)
    refine lv_iload S.1 S.2.1 d_X_setItem_32 (lv_at hl 0 rfl) ?_
    refine lv_iconst (v := 1) S.1 S.2.1 d_X_setItem_34 (by decide) ?_
    refine lv_icmp_ne (tgt := 55) S.1 S.2.1 d_X_setItem_35 (by decide) (fun c_2 => ?_) (fun c_2 => ?_)
    · refine lv_iload S.1 S.2.1 d_X_setItem_55 (lv_at hl 0 rfl) ?_
      exact cx_retI S hr hlk hw hbud (by first | (unfold sh_setItem; simp only [hq_1, if_neg c_1, hq_2, if_neg c_2]; done) | (unfold sh_setItem; dsimp only; simp only [hq_1, if_neg c_1, hq_2, if_neg c_2]; done) | (subst hq_2; subst hq_1; unfold sh_setItem; simp only [if_neg c_1, if_neg c_2, hC_eq, hC_clamp]; try rfl; done)) (by first | (unfold sh_setItem; simp only [hq_1, if_neg c_1, hq_2, if_neg c_2]; done) | (unfold sh_setItem; dsimp only; simp only [hq_1, if_neg c_1, hq_2, if_neg c_2]; done) | (subst hq_2; subst hq_1; unfold sh_setItem; simp only [if_neg c_1, if_neg c_2, hC_eq, hC_clamp]; try rfl; done)) d_X_setItem_57
    · refine lv_aload_n S.1 S.2.1 d_X_setItem_38 rfl (lv_at hl 2 rfl) ?_
      refine cx_get S hw (q0 := 0) (ci := 0) (k := 0) (v := .ref (aXC a)) (fun _ => rfl) rfl (by decide) inX tb_103 rfl rfl d_X_setItem_39 ?_
      refine lv_aload_n S.1 S.2.1 d_X_setItem_42 rfl (lv_at hl 2 rfl) ?_
      refine lv_iload_n S.1 S.2.1 d_X_setItem_43 rfl (lv_at hl 3 rfl) ?_
      refine lv_iload S.1 S.2.1 d_X_setItem_44 (lv_at hl 1 rfl) ?_
      refine lv_iload_n S.1 S.2.1 d_X_setItem_46 rfl (lv_at hl 4 rfl) ?_
      refine lv_iconst (v := 0) S.1 S.2.1 d_X_setItem_47 (by decide) ?_
      refine cx_call S hw hbud (As := [.int o, .int q_1.1, .int i, .int 0]) (rest := [.ref (aXC a)]) (c_X_cellOnWay l D cI cP a κ np q_2.2 o q_1.1 i 0 (by decide)) (q0 := 0) (fun _ => rfl) rfl tb_294 tb_291 tb_293 tp_11 tb_1 hd_X_cellOnWay rfl ⟨by omega, by omega⟩ hl.1 rfl (Nat.le_of_ble_eq_true rfl) d_X_setItem_48 (fun H locs hw => ?_)
      generalize hq_3 : sh_way κ q_2.2 o q_1.1 i 0 = q_3 at hw ⊢
      refine W.eq (g2 := F0 m 51 ls [.int q_3.1, .ref (aXC a)]) rfl ?_
      refine lv_iload_n S.1 S.2.1 d_X_setItem_51 rfl (lv_at hl 5 rfl) ?_
      refine cx_call S hw hbud (As := [.int q_3.1, .int v]) (rest := []) (c_C_write l D cI cP a κ np q_3.2 q_3.1 v) (q0 := 1) (fun _ => rfl) rfl tb_179 tb_267 tb_177 tb_178 tb_4 hd_C_write rfl ⟨by omega, by omega⟩ hl.1 rfl (Nat.le_of_ble_eq_true rfl) d_X_setItem_52 (fun H locs hw => ?_)
      generalize hq_4 : sh_write κ (q_3.2).1 q_3.1 v = q_4 at hw ⊢
      refine W.eq (g2 := F0 m 55 ls []) rfl ?_
      refine lv_iload S.1 S.2.1 d_X_setItem_55 (lv_at hl 0 rfl) ?_
      exact cx_retI S hr hlk hw hbud (by first | exact absurd c_2 c_1 | (unfold sh_setItem; simp only [hq_1, if_neg c_1, hq_2, if_pos c_2, hq_3, hq_4]; done) | (unfold sh_setItem; dsimp only; simp only [hq_1, if_neg c_1, hq_2, if_pos c_2, hq_3, hq_4]; done) | (subst hq_4; subst hq_3; subst hq_2; subst hq_1; unfold sh_setItem; simp only [if_neg c_1, if_pos c_2, hC_eq, hC_clamp]; try rfl; done)) (by first | exact absurd c_2 c_1 | (unfold sh_setItem; simp only [hq_1, if_neg c_1, hq_2, if_pos c_2, hq_3, hq_4]; done) | (unfold sh_setItem; dsimp only; simp only [hq_1, if_neg c_1, hq_2, if_pos c_2, hq_3, hq_4]; done) | (subst hq_4; subst hq_3; subst hq_2; subst hq_1; unfold sh_setItem; simp only [if_neg c_1, if_pos c_2, hC_eq, hC_clamp]; try rfl; done)) d_X_setItem_57
  · refine lv_iconst (v := -1) S.1 S.2.1 d_X_setItem_20 (by decide) ?_
    exact cx_retI S hr hlk hw hbud (by first | (unfold sh_setItem; simp only [hq_1, if_pos c_1]; done) | (unfold sh_setItem; dsimp only; simp only [hq_1, if_pos c_1]; done) | (subst hq_1; unfold sh_setItem; simp only [if_pos c_1, hC_eq, hC_clamp]; try rfl; done)) (by first | (unfold sh_setItem; simp only [hq_1, if_pos c_1]; done) | (unfold sh_setItem; dsimp only; simp only [hq_1, if_pos c_1]; done) | (subst hq_1; unfold sh_setItem; simp only [if_pos c_1, hC_eq, hC_clamp]; try rfl; done)) d_X_setItem_21
