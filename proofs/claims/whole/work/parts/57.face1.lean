/-! ===== THE FACE: contracts ===== -/
set_option maxHeartbeats 4000000 in
set_option maxRecDepth 100000 in
theorem c_X_make (l : Launch) (D : va_G) (cI cP : ClassId) (a : cx_a) (κ : sh_K) (np : Nat) (σ : sh_S) (r n i : Int32) : cx_Met l D cI cP a κ np y_X_make b_X_make 4 (some .int) 7 149 [.ref (aXX a), .int r, .int n, .int i] σ (some (.int ((sh_make κ σ r n i).1))) ((sh_make κ σ r n i).2) := by
  refine cx_start (by decide) (Nat.le_of_ble_eq_true rfl) mo_make ?_
  intro p e R s m args below meth c A ls S hr hlk hfr hlc hw hbud hl
  have hl : lv_has ls 4 [(0, .ref (aXX a)), (1, .int r), (2, .int n), (3, .int i)] := hl
  refine lv_iload_n S.1 S.2.1 d_X_make_0 rfl (lv_at hl 1 rfl) ?_
  refine cx_fn S (As := [.int r]) (rest := []) (c_X_isRegister l r) tb_116 tb_114 tb_115 tb_1 hdf_X_isRegister rfl ⟨by omega, by omega⟩ hl.1 rfl (Nat.le_of_ble_eq_true rfl) d_X_make_1 (hw.fit hbud) ?_
  refine lv_if_eq (tgt := 15) S.1 S.2.1 d_X_make_4 (by decide) (fun c_1 => ?_) (fun c_1 => ?_)
  · refine lv_iconst (v := -1) S.1 S.2.1 d_X_make_15 (by decide) ?_
    exact cx_retI S hr hlk hw hbud (by first | (unfold sh_make; simp only [if_pos c_1]; done) | (unfold sh_make; dsimp only; simp only [if_pos c_1]; done) | (unfold sh_make; simp only [if_pos c_1, hC_eq, hC_clamp]; try rfl; done)) (by first | (unfold sh_make; simp only [if_pos c_1]; done) | (unfold sh_make; dsimp only; simp only [if_pos c_1]; done) | (unfold sh_make; simp only [if_pos c_1, hC_eq, hC_clamp]; try rfl; done)) d_X_make_16
  · refine lv_iload_n S.1 S.2.1 d_X_make_7 rfl (lv_at hl 2 rfl) ?_
    refine lv_iload_n S.1 S.2.1 d_X_make_8 rfl (lv_at hl 3 rfl) ?_
    refine cx_fn S (As := [.int n, .int i]) (rest := []) (c_X_isShape l n i) tb_122 tb_120 tb_121 tb_1 hdf_X_isShape rfl ⟨by omega, by omega⟩ hl.1 rfl (Nat.le_of_ble_eq_true rfl) d_X_make_9 (hw.fit hbud) ?_
    refine lv_if_ne (tgt := 17) S.1 S.2.1 d_X_make_12 (by decide) (fun c_2 => ?_) (fun c_2 => ?_)
    · refine lv_aload_n S.1 S.2.1 d_X_make_17 rfl (lv_at hl 0 rfl) ?_
      refine lv_iload_n S.1 S.2.1 d_X_make_18 rfl (lv_at hl 1 rfl) ?_
      refine lv_iload_n S.1 S.2.1 d_X_make_19 rfl (lv_at hl 2 rfl) ?_
      refine lv_iload_n S.1 S.2.1 d_X_make_20 rfl (lv_at hl 3 rfl) ?_
      refine cx_fn S (As := [.int n, .int i]) (rest := [.int r, .ref (aXX a)]) (c_H_ofObject l n i) tb_125 tb_123 tb_124 tb_6 hdf_H_ofObject rfl ⟨by omega, by omega⟩ hl.1 rfl (Nat.le_of_ble_eq_true rfl) d_X_make_21 (hw.fit hbud) ?_
      refine cx_call S hw hbud (As := [.int r, .int (hd_obj n i)]) (rest := []) (c_X_fillRegister l D cI cP a κ np σ r (hd_obj n i)) (q0 := 0) (fun _ => rfl) rfl tb_129 tb_126 tb_128 tp_1 tb_1 hd_X_fillRegister rfl ⟨by omega, by omega⟩ hl.1 rfl (Nat.le_of_ble_eq_true rfl) d_X_make_24 (fun H locs hw => ?_)
      generalize hq_1 : sh_fill κ σ r (hd_obj n i) = q_1 at hw ⊢
      refine W.eq (g2 := F0 m 27 ls [.int q_1.1]) rfl ?_
      exact cx_retI S hr hlk hw hbud (by first | (unfold sh_make; simp only [if_neg c_1, if_neg c_2, hq_1]; done) | (unfold sh_make; dsimp only; simp only [if_neg c_1, if_neg c_2, hq_1]; done) | (subst hq_1; unfold sh_make; simp only [if_neg c_1, if_neg c_2, hC_eq, hC_clamp]; try rfl; done)) (by first | (unfold sh_make; simp only [if_neg c_1, if_neg c_2, hq_1]; done) | (unfold sh_make; dsimp only; simp only [if_neg c_1, if_neg c_2, hq_1]; done) | (subst hq_1; unfold sh_make; simp only [if_neg c_1, if_neg c_2, hC_eq, hC_clamp]; try rfl; done)) d_X_make_27
    · refine lv_iconst (v := -1) S.1 S.2.1 d_X_make_15 (by decide) ?_
      exact cx_retI S hr hlk hw hbud (by first | exact absurd c_2 c_1 | (unfold sh_make; simp only [if_neg c_1, if_pos c_2]; done) | (unfold sh_make; dsimp only; simp only [if_neg c_1, if_pos c_2]; done) | (unfold sh_make; simp only [if_neg c_1, if_pos c_2, hC_eq, hC_clamp]; try rfl; done)) (by first | exact absurd c_2 c_1 | (unfold sh_make; simp only [if_neg c_1, if_pos c_2]; done) | (unfold sh_make; dsimp only; simp only [if_neg c_1, if_pos c_2]; done) | (unfold sh_make; simp only [if_neg c_1, if_pos c_2, hC_eq, hC_clamp]; try rfl; done)) d_X_make_16
set_option maxHeartbeats 4000000 in
set_option maxRecDepth 100000 in
theorem c_X_array (l : Launch) (D : va_G) (cI cP : ClassId) (a : cx_a) (κ : sh_K) (np : Nat) (σ : sh_S) (r n b : Int32) : cx_Met l D cI cP a κ np y_X_array b_X_array 4 (some .int) 7 149 [.ref (aXX a), .int r, .int n, .int b] σ (some (.int ((sh_array κ σ r n b).1))) ((sh_array κ σ r n b).2) := by
  refine cx_start (by decide) (Nat.le_of_ble_eq_true rfl) mo_array ?_
  intro p e R s m args below meth c A ls S hr hlk hfr hlc hw hbud hl
  have hl : lv_has ls 4 [(0, .ref (aXX a)), (1, .int r), (2, .int n), (3, .int b)] := hl
  refine lv_iload_n S.1 S.2.1 d_X_array_0 rfl (lv_at hl 1 rfl) ?_
  refine cx_fn S (As := [.int r]) (rest := []) (c_X_isRegister l r) tb_116 tb_114 tb_115 tb_1 hdf_X_isRegister rfl ⟨by omega, by omega⟩ hl.1 rfl (Nat.le_of_ble_eq_true rfl) d_X_array_1 (hw.fit hbud) ?_
  refine lv_if_eq (tgt := 18) S.1 S.2.1 d_X_array_4 (by decide) (fun c_1 => ?_) (fun c_1 => ?_)
  · refine lv_iconst (v := -1) S.1 S.2.1 d_X_array_18 (by decide) ?_
    exact cx_retI S hr hlk hw hbud (by first | (unfold sh_array; simp only [if_pos c_1]; done) | (unfold sh_array; dsimp only; simp only [if_pos c_1]; done) | (unfold sh_array; simp only [if_pos c_1, hC_eq, hC_clamp]; try rfl; done)) (by first | (unfold sh_array; simp only [if_pos c_1]; done) | (unfold sh_array; dsimp only; simp only [if_pos c_1]; done) | (unfold sh_array; simp only [if_pos c_1, hC_eq, hC_clamp]; try rfl; done)) d_X_array_19
  · refine lv_iload_n S.1 S.2.1 d_X_array_7 rfl (lv_at hl 2 rfl) ?_
    refine lv_if_lt (tgt := 18) S.1 S.2.1 d_X_array_8 (by decide) (fun c_2 => ?_) (fun c_2 => ?_)
    · refine lv_iconst (v := -1) S.1 S.2.1 d_X_array_18 (by decide) ?_
      exact cx_retI S hr hlk hw hbud (by first | exact absurd c_2 c_1 | (unfold sh_array; simp only [if_neg c_1, if_pos c_2]; done) | (unfold sh_array; dsimp only; simp only [if_neg c_1, if_pos c_2]; done) | (unfold sh_array; simp only [if_neg c_1, if_pos c_2, hC_eq, hC_clamp]; try rfl; done)) (by first | exact absurd c_2 c_1 | (unfold sh_array; simp only [if_neg c_1, if_pos c_2]; done) | (unfold sh_array; dsimp only; simp only [if_neg c_1, if_pos c_2]; done) | (unfold sh_array; simp only [if_neg c_1, if_pos c_2, hC_eq, hC_clamp]; try rfl; done)) d_X_array_19
    · refine lv_iload_n S.1 S.2.1 d_X_array_11 rfl (lv_at hl 2 rfl) ?_
      refine lv_sipush (v := 3375) S.1 S.2.1 d_X_array_12 (by decide) ?_
      refine lv_icmp_le (tgt := 20) S.1 S.2.1 d_X_array_15 (by decide) (fun c_3 => ?_) (fun c_3 => ?_)
      · refine lv_aload_n S.1 S.2.1 d_X_array_20 rfl (lv_at hl 0 rfl) ?_
        refine lv_iload_n S.1 S.2.1 d_X_array_21 rfl (lv_at hl 1 rfl) ?_
        refine lv_iload_n S.1 S.2.1 d_X_array_22 rfl (lv_at hl 2 rfl) ?_
        refine lv_iload_n S.1 S.2.1 d_X_array_23 rfl (lv_at hl 3 rfl) ?_
        refine cx_fn S (As := [.int n, .int b]) (rest := [.int r, .ref (aXX a)]) (c_H_ofArray l n b) tb_210 tb_208 tb_209 tb_6 hdf_H_ofArray rfl ⟨by omega, by omega⟩ hl.1 rfl (Nat.le_of_ble_eq_true rfl) d_X_array_24 (hw.fit hbud) ?_
        refine cx_call S hw hbud (As := [.int r, .int (hd_arr n b)]) (rest := []) (c_X_fillRegister l D cI cP a κ np σ r (hd_arr n b)) (q0 := 0) (fun _ => rfl) rfl tb_129 tb_126 tb_128 tp_1 tb_1 hd_X_fillRegister rfl ⟨by omega, by omega⟩ hl.1 rfl (Nat.le_of_ble_eq_true rfl) d_X_array_27 (fun H locs hw => ?_)
        generalize hq_1 : sh_fill κ σ r (hd_arr n b) = q_1 at hw ⊢
        refine W.eq (g2 := F0 m 30 ls [.int q_1.1]) rfl ?_
        exact cx_retI S hr hlk hw hbud (by first | exact absurd c_3 c_1 | exact absurd c_3 c_2 | (unfold sh_array; simp only [if_neg c_1, if_neg c_2, if_pos c_3, hq_1]; done) | (unfold sh_array; dsimp only; simp only [if_neg c_1, if_neg c_2, if_pos c_3, hq_1]; done) | (subst hq_1; unfold sh_array; simp only [if_neg c_1, if_neg c_2, if_pos c_3, hC_eq, hC_clamp]; try rfl; done)) (by first | exact absurd c_3 c_1 | exact absurd c_3 c_2 | (unfold sh_array; simp only [if_neg c_1, if_neg c_2, if_pos c_3, hq_1]; done) | (unfold sh_array; dsimp only; simp only [if_neg c_1, if_neg c_2, if_pos c_3, hq_1]; done) | (subst hq_1; unfold sh_array; simp only [if_neg c_1, if_neg c_2, if_pos c_3, hC_eq, hC_clamp]; try rfl; done)) d_X_array_30
      · refine lv_iconst (v := -1) S.1 S.2.1 d_X_array_18 (by decide) ?_
        exact cx_retI S hr hlk hw hbud (by first | (unfold sh_array; simp only [if_neg c_1, if_neg c_2, if_neg c_3]; done) | (unfold sh_array; dsimp only; simp only [if_neg c_1, if_neg c_2, if_neg c_3]; done) | (unfold sh_array; simp only [if_neg c_1, if_neg c_2, if_neg c_3, hC_eq, hC_clamp]; try rfl; done)) (by first | (unfold sh_array; simp only [if_neg c_1, if_neg c_2, if_neg c_3]; done) | (unfold sh_array; dsimp only; simp only [if_neg c_1, if_neg c_2, if_neg c_3]; done) | (unfold sh_array; simp only [if_neg c_1, if_neg c_2, if_neg c_3, hC_eq, hC_clamp]; try rfl; done)) d_X_array_19
set_option maxHeartbeats 4000000 in
set_option maxRecDepth 100000 in
theorem c_X_get (l : Launch) (D : va_G) (cI cP : ClassId) (a : cx_a) (κ : sh_K) (np : Nat) (σ : sh_S) (t o f : Int32) : cx_Met l D cI cP a κ np y_X_get b_X_get 5 (some .boolean) 5 101 [.ref (aXX a), .int t, .int o, .int f] σ (some (.int ((sh_get κ σ t o f).1))) ((sh_get κ σ t o f).2) := by
  refine cx_start (by decide) (Nat.le_of_ble_eq_true rfl) mo_get ?_
  intro p e R s m args below meth c A ls S hr hlk hfr hlc hw hbud hl
  have hl : lv_has ls 5 [(0, .ref (aXX a)), (1, .int t), (2, .int o), (3, .int f)] := hl
  refine lv_aload_n S.1 S.2.1 d_X_get_0 rfl (lv_at hl 0 rfl) ?_
  refine lv_iload_n S.1 S.2.1 d_X_get_1 rfl (lv_at hl 2 rfl) ?_
  refine cx_call S hw hbud (As := [.int o]) (rest := []) (c_X_headOf l D cI cP a κ np σ o) (q0 := 0) (fun _ => rfl) rfl tb_222 tb_219 tb_221 tp_7 tb_1 hd_X_headOf rfl ⟨by omega, by omega⟩ hl.1 rfl (Nat.le_of_ble_eq_true rfl) d_X_get_2 (fun H locs hw => ?_)
  generalize hq_1 : sh_head κ σ o = q_1 at hw ⊢
  refine W.eq (g2 := F0 m 5 ls [.int q_1.1]) rfl ?_
  refine lv_istore (lv' := [(4, .int q_1.1), (0, .ref (aXX a)), (1, .int t), (2, .int o), (3, .int f)]) S.1 S.2.1 d_X_get_5 hl (by decide) rfl (fun ls hl => ?_)
  refine lv_iload_n S.1 S.2.1 d_X_get_7 rfl (lv_at hl 2 rfl) ?_
  refine cx_fn S (As := [.int t]) (rest := []) (c_X_isRegister l t) tb_116 tb_114 tb_115 tb_1 hdf_X_isRegister rfl ⟨by omega, by omega⟩ hl.1 rfl (Nat.le_of_ble_eq_true rfl) d_X_get_8 (hw.fit hbud) ?_
  refine lv_if_eq (tgt := 26) S.1 S.2.1 d_X_get_11 (by decide) (fun c_1 => ?_) (fun c_1 => ?_)
  · refine lv_iconst (v := 0) S.1 S.2.1 d_X_get_26 (by decide) ?_
    exact cx_retZ S hr hlk hw hbud (by first | (unfold sh_get; simp only [hq_1, if_pos c_1]; done) | (unfold sh_get; dsimp only; simp only [hq_1, if_pos c_1]; done) | (subst hq_1; unfold sh_get; simp only [if_pos c_1, hC_eq, hC_clamp]; try rfl; done)) (Or.inl rfl) (by first | (unfold sh_get; simp only [hq_1, if_pos c_1]; done) | (unfold sh_get; dsimp only; simp only [hq_1, if_pos c_1]; done) | (subst hq_1; unfold sh_get; simp only [if_pos c_1, hC_eq, hC_clamp]; try rfl; done)) d_X_get_27
  · refine lv_iload_n S.1 S.2.1 d_X_get_14 rfl (lv_at hl 4 rfl) ?_
    refine lv_iload S.1 S.2.1 d_X_get_15 (lv_at hl 0 rfl) ?_
    refine cx_fn S (As := [.int q_1.1]) (rest := [.int f]) (c_H_references l q_1.1) tb_230 tb_228 tb_229 tb_6 hdf_H_references rfl ⟨by omega, by omega⟩ hl.1 rfl (Nat.le_of_ble_eq_true rfl) d_X_get_17 (hw.fit hbud) ?_
    refine cx_fn S (As := [.int f, .int (hd_refs q_1.1)]) (rest := []) (c_X_isBelow l f (hd_refs q_1.1)) tb_119 tb_117 tb_118 tb_1 hdf_X_isBelow rfl ⟨by omega, by omega⟩ hl.1 rfl (Nat.le_of_ble_eq_true rfl) d_X_get_20 (hw.fit hbud) ?_
    refine lv_if_ne (tgt := 28) S.1 S.2.1 d_X_get_23 (by decide) (fun c_2 => ?_) (fun c_2 => ?_)
    · refine lv_aload_n S.1 S.2.1 d_X_get_28 rfl (lv_at hl 1 rfl) ?_
      refine cx_get S hw (q0 := 0) (ci := 0) (k := 1) (v := .ref (aXM a)) (fun _ => rfl) rfl (by decide) inX tb_104 rfl rfl d_X_get_29 ?_
      refine lv_iload_n S.1 S.2.1 d_X_get_32 rfl (lv_at hl 2 rfl) ?_
      refine lv_aload_n S.1 S.2.1 d_X_get_33 rfl (lv_at hl 1 rfl) ?_
      refine cx_get S hw (q0 := 0) (ci := 0) (k := 1) (v := .ref (aXM a)) (fun _ => rfl) rfl (by decide) inX tb_104 rfl rfl d_X_get_34 ?_
      refine lv_aload_n S.1 S.2.1 d_X_get_37 rfl (lv_at hl 1 rfl) ?_
      refine lv_iload_n S.1 S.2.1 d_X_get_38 rfl (lv_at hl 3 rfl) ?_
      refine lv_iload_n S.1 S.2.1 d_X_get_39 rfl (lv_at hl 4 rfl) ?_
      refine cx_rd S hw (hw.fit hbud) (As := [.int o, .int f]) (rest := [.ref (aXM a), .int t, .ref (aXM a)]) (c_X_referenceCell l D cI cP a κ np q_1.2 o f) (q0 := 0) (fun _ => rfl) rfl tb_237 tb_234 tb_236 tp_8 tb_1 hd_X_referenceCell rfl ⟨by omega, by omega⟩ hl.1 rfl (Nat.le_of_ble_eq_true rfl) d_X_get_40 ?_
      refine cx_call S hw hbud (As := [.int (sh_reg q_1.2 o + 1 + f)]) (rest := [.int t, .ref (aXM a)]) (c_M_follow l D cI cP a κ np q_1.2 (sh_reg q_1.2 o + 1 + f)) (q0 := 2) (fun _ => rfl) rfl tb_241 tb_238 tb_239 tb_240 tb_3 hd_M_follow rfl ⟨by omega, by omega⟩ hl.1 rfl (Nat.le_of_ble_eq_true rfl) d_X_get_43 (fun H locs hw => ?_)
      generalize hq_2 : sh_follow κ q_1.2 (sh_reg q_1.2 o + 1 + f) = q_2 at hw ⊢
      refine W.eq (g2 := F0 m 46 ls [.int q_2.1, .int t, .ref (aXM a)]) rfl ?_
      refine cx_call S hw hbud (As := [.int t, .int q_2.1]) (rest := []) (c_M_setRegister l D cI cP a κ np q_2.2 t q_2.1) (q0 := 2) (fun _ => rfl) rfl tb_202 tb_199 tb_200 tb_201 tb_3 hd_M_setRegister rfl ⟨by omega, by omega⟩ hl.1 rfl (Nat.le_of_ble_eq_true rfl) d_X_get_46 (fun H locs hw => ?_)
      refine W.eq (g2 := F0 m 49 ls []) rfl ?_
      refine lv_iconst (v := 1) S.1 S.2.1 d_X_get_49 (by decide) ?_
      exact cx_retZ S hr hlk hw hbud (by first | (unfold sh_get; simp only [hq_1, if_neg c_1, if_neg c_2, hq_2]; done) | (unfold sh_get; dsimp only; simp only [hq_1, if_neg c_1, if_neg c_2, hq_2]; done) | (subst hq_2; subst hq_1; unfold sh_get; simp only [if_neg c_1, if_neg c_2, hC_eq, hC_clamp]; try rfl; done)) (Or.inr rfl) (by first | (unfold sh_get; simp only [hq_1, if_neg c_1, if_neg c_2, hq_2]; done) | (unfold sh_get; dsimp only; simp only [hq_1, if_neg c_1, if_neg c_2, hq_2]; done) | (subst hq_2; subst hq_1; unfold sh_get; simp only [if_neg c_1, if_neg c_2, hC_eq, hC_clamp]; try rfl; done)) d_X_get_50
    · refine lv_iconst (v := 0) S.1 S.2.1 d_X_get_26 (by decide) ?_
      exact cx_retZ S hr hlk hw hbud (by first | exact absurd c_2 c_1 | (unfold sh_get; simp only [hq_1, if_neg c_1, if_pos c_2]; done) | (unfold sh_get; dsimp only; simp only [hq_1, if_neg c_1, if_pos c_2]; done) | (subst hq_1; unfold sh_get; simp only [if_neg c_1, if_pos c_2, hC_eq, hC_clamp]; try rfl; done)) (Or.inl rfl) (by first | exact absurd c_2 c_1 | (unfold sh_get; simp only [hq_1, if_neg c_1, if_pos c_2]; done) | (unfold sh_get; dsimp only; simp only [hq_1, if_neg c_1, if_pos c_2]; done) | (subst hq_1; unfold sh_get; simp only [if_neg c_1, if_pos c_2, hC_eq, hC_clamp]; try rfl; done)) d_X_get_27
set_option maxHeartbeats 4000000 in
set_option maxRecDepth 100000 in
theorem c_X_put (l : Launch) (D : va_G) (cI cP : ClassId) (a : cx_a) (κ : sh_K) (np : Nat) (σ : sh_S) (o f r : Int32) : cx_Met l D cI cP a κ np y_X_put b_X_put 5 (some .boolean) 6 123 [.ref (aXX a), .int o, .int f, .int r] σ (some (.int ((sh_putF κ σ o f r).1))) ((sh_putF κ σ o f r).2) := by
  refine cx_start (by decide) (Nat.le_of_ble_eq_true rfl) mo_putF ?_
  intro p e R s m args below meth c A ls S hr hlk hfr hlc hw hbud hl
  have hl : lv_has ls 5 [(0, .ref (aXX a)), (1, .int o), (2, .int f), (3, .int r)] := hl
  refine lv_aload_n S.1 S.2.1 d_X_put_0 rfl (lv_at hl 0 rfl) ?_
  refine lv_iload_n S.1 S.2.1 d_X_put_1 rfl (lv_at hl 1 rfl) ?_
  refine cx_call S hw hbud (As := [.int o]) (rest := []) (c_X_headOf l D cI cP a κ np σ o) (q0 := 0) (fun _ => rfl) rfl tb_222 tb_219 tb_221 tp_7 tb_1 hd_X_headOf rfl ⟨by omega, by omega⟩ hl.1 rfl (Nat.le_of_ble_eq_true rfl) d_X_put_2 (fun H locs hw => ?_)
  generalize hq_1 : sh_head κ σ o = q_1 at hw ⊢
  refine W.eq (g2 := F0 m 5 ls [.int q_1.1]) rfl ?_
  refine lv_istore (lv' := [(4, .int q_1.1), (0, .ref (aXX a)), (1, .int o), (2, .int f), (3, .int r)]) S.1 S.2.1 d_X_put_5 hl (by decide) rfl (fun ls hl => ?_)
  refine lv_iload_n S.1 S.2.1 d_X_put_7 rfl (lv_at hl 4 rfl) ?_
  refine cx_fn S (As := [.int r]) (rest := []) (c_X_isRegister l r) tb_116 tb_114 tb_115 tb_1 hdf_X_isRegister rfl ⟨by omega, by omega⟩ hl.1 rfl (Nat.le_of_ble_eq_true rfl) d_X_put_8 (hw.fit hbud) ?_
  refine lv_if_eq (tgt := 26) S.1 S.2.1 d_X_put_11 (by decide) (fun c_1 => ?_) (fun c_1 => ?_)
  · refine lv_iconst (v := 0) S.1 S.2.1 d_X_put_26 (by decide) ?_
    exact cx_retZ S hr hlk hw hbud (by first | (unfold sh_putF; simp only [hq_1, if_pos c_1]; done) | (unfold sh_putF; dsimp only; simp only [hq_1, if_pos c_1]; done) | (subst hq_1; unfold sh_putF; simp only [if_pos c_1, hC_eq, hC_clamp]; try rfl; done)) (Or.inl rfl) (by first | (unfold sh_putF; simp only [hq_1, if_pos c_1]; done) | (unfold sh_putF; dsimp only; simp only [hq_1, if_pos c_1]; done) | (subst hq_1; unfold sh_putF; simp only [if_pos c_1, hC_eq, hC_clamp]; try rfl; done)) d_X_put_27
  · refine lv_iload_n S.1 S.2.1 d_X_put_14 rfl (lv_at hl 3 rfl) ?_
    refine lv_iload S.1 S.2.1 d_X_put_15 (lv_at hl 0 rfl) ?_
    refine cx_fn S (As := [.int q_1.1]) (rest := [.int f]) (c_H_references l q_1.1) tb_230 tb_228 tb_229 tb_6 hdf_H_references rfl ⟨by omega, by omega⟩ hl.1 rfl (Nat.le_of_ble_eq_true rfl) d_X_put_17 (hw.fit hbud) ?_
    refine cx_fn S (As := [.int f, .int (hd_refs q_1.1)]) (rest := []) (c_X_isBelow l f (hd_refs q_1.1)) tb_119 tb_117 tb_118 tb_1 hdf_X_isBelow rfl ⟨by omega, by omega⟩ hl.1 rfl (Nat.le_of_ble_eq_true rfl) d_X_put_20 (hw.fit hbud) ?_
    refine lv_if_ne (tgt := 28) S.1 S.2.1 d_X_put_23 (by decide) (fun c_2 => ?_) (fun c_2 => ?_)
    · refine lv_aload_n S.1 S.2.1 d_X_put_28 rfl (lv_at hl 1 rfl) ?_
      refine cx_get S hw (q0 := 0) (ci := 0) (k := 1) (v := .ref (aXM a)) (fun _ => rfl) rfl (by decide) inX tb_104 rfl rfl d_X_put_29 ?_
      refine lv_aload_n S.1 S.2.1 d_X_put_32 rfl (lv_at hl 1 rfl) ?_
      refine lv_iload_n S.1 S.2.1 d_X_put_33 rfl (lv_at hl 2 rfl) ?_
      refine lv_iload_n S.1 S.2.1 d_X_put_34 rfl (lv_at hl 3 rfl) ?_
      refine cx_rd S hw (hw.fit hbud) (As := [.int o, .int f]) (rest := [.ref (aXM a)]) (c_X_referenceCell l D cI cP a κ np q_1.2 o f) (q0 := 0) (fun _ => rfl) rfl tb_237 tb_234 tb_236 tp_8 tb_1 hd_X_referenceCell rfl ⟨by omega, by omega⟩ hl.1 rfl (Nat.le_of_ble_eq_true rfl) d_X_put_35 ?_
      refine lv_aload_n S.1 S.2.1 d_X_put_38 rfl (lv_at hl 1 rfl) ?_
      refine cx_get S hw (q0 := 0) (ci := 0) (k := 1) (v := .ref (aXM a)) (fun _ => rfl) rfl (by decide) inX tb_104 rfl rfl d_X_put_39 ?_
      refine lv_iload_n S.1 S.2.1 d_X_put_42 rfl (lv_at hl 4 rfl) ?_
      refine cx_rd S hw (hw.fit hbud) (As := [.int r]) (rest := [.int (sh_reg q_1.2 o + 1 + f), .ref (aXM a)]) (c_M_register l D cI cP a κ np q_1.2 r) (q0 := 2) (fun _ => rfl) rfl tb_226 tb_223 tb_224 tb_225 tb_3 hd_M_register rfl ⟨by omega, by omega⟩ hl.1 rfl (Nat.le_of_ble_eq_true rfl) d_X_put_43 ?_
      refine cx_call S hw hbud (As := [.int (sh_reg q_1.2 o + 1 + f), .int (sh_reg q_1.2 r)]) (rest := []) (c_M_link l D cI cP a κ np q_1.2 (sh_reg q_1.2 o + 1 + f) (sh_reg q_1.2 r)) (q0 := 2) (fun _ => rfl) rfl tb_249 tb_246 tb_247 tb_248 tb_3 hd_M_link rfl ⟨by omega, by omega⟩ hl.1 rfl (Nat.le_of_ble_eq_true rfl) d_X_put_46 (fun H locs hw => ?_)
      generalize hq_2 : sh_link κ q_1.2 (sh_reg q_1.2 o + 1 + f) (sh_reg q_1.2 r) = q_2 at hw ⊢
      refine W.eq (g2 := F0 m 49 ls []) rfl ?_
      refine lv_iconst (v := 1) S.1 S.2.1 d_X_put_49 (by decide) ?_
      exact cx_retZ S hr hlk hw hbud (by first | (unfold sh_putF; simp only [hq_1, if_neg c_1, if_neg c_2, hq_2]; done) | (unfold sh_putF; dsimp only; simp only [hq_1, if_neg c_1, if_neg c_2, hq_2]; done) | (subst hq_2; subst hq_1; unfold sh_putF; simp only [if_neg c_1, if_neg c_2, hC_eq, hC_clamp]; try rfl; done)) (Or.inr rfl) (by first | (unfold sh_putF; simp only [hq_1, if_neg c_1, if_neg c_2, hq_2]; done) | (unfold sh_putF; dsimp only; simp only [hq_1, if_neg c_1, if_neg c_2, hq_2]; done) | (subst hq_2; subst hq_1; unfold sh_putF; simp only [if_neg c_1, if_neg c_2, hC_eq, hC_clamp]; try rfl; done)) d_X_put_50
    · refine lv_iconst (v := 0) S.1 S.2.1 d_X_put_26 (by decide) ?_
      exact cx_retZ S hr hlk hw hbud (by first | exact absurd c_2 c_1 | (unfold sh_putF; simp only [hq_1, if_neg c_1, if_pos c_2]; done) | (unfold sh_putF; dsimp only; simp only [hq_1, if_neg c_1, if_pos c_2]; done) | (subst hq_1; unfold sh_putF; simp only [if_neg c_1, if_pos c_2, hC_eq, hC_clamp]; try rfl; done)) (Or.inl rfl) (by first | exact absurd c_2 c_1 | (unfold sh_putF; simp only [hq_1, if_neg c_1, if_pos c_2]; done) | (unfold sh_putF; dsimp only; simp only [hq_1, if_neg c_1, if_pos c_2]; done) | (subst hq_1; unfold sh_putF; simp only [if_neg c_1, if_pos c_2, hC_eq, hC_clamp]; try rfl; done)) d_X_put_27
set_option maxHeartbeats 4000000 in
set_option maxRecDepth 100000 in
theorem c_X_look (l : Launch) (D : va_G) (cI cP : ClassId) (a : cx_a) (κ : sh_K) (np : Nat) (σ : sh_S) (o f : Int32) : cx_Met l D cI cP a κ np y_X_look b_X_look 4 (some .long) 4 85 [.ref (aXX a), .int o, .int f] σ (some (.long ((sh_look κ σ o f).1))) ((sh_look κ σ o f).2) := by
  refine cx_start (by decide) (Nat.le_of_ble_eq_true rfl) mo_look ?_
  intro p e R s m args below meth c A ls S hr hlk hfr hlc hw hbud hl
  have hl : lv_has ls 4 [(0, .ref (aXX a)), (1, .int o), (2, .int f)] := hl
  refine lv_aload_n S.1 S.2.1 d_X_look_0 rfl (lv_at hl 0 rfl) ?_
  refine lv_iload_n S.1 S.2.1 d_X_look_1 rfl (lv_at hl 1 rfl) ?_
  refine cx_call S hw hbud (As := [.int o]) (rest := []) (c_X_headOf l D cI cP a κ np σ o) (q0 := 0) (fun _ => rfl) rfl tb_222 tb_219 tb_221 tp_7 tb_1 hd_X_headOf rfl ⟨by omega, by omega⟩ hl.1 rfl (Nat.le_of_ble_eq_true rfl) d_X_look_2 (fun H locs hw => ?_)
  generalize hq_1 : sh_head κ σ o = q_1 at hw ⊢
  refine W.eq (g2 := F0 m 5 ls [.int q_1.1]) rfl ?_
  refine lv_istore_n (lv' := [(3, .int q_1.1), (0, .ref (aXX a)), (1, .int o), (2, .int f)]) S.1 S.2.1 d_X_look_5 rfl hl (by decide) rfl (fun ls hl => ?_)
  refine lv_iload_n S.1 S.2.1 d_X_look_6 rfl (lv_at hl 3 rfl) ?_
  refine lv_iload_n S.1 S.2.1 d_X_look_7 rfl (lv_at hl 0 rfl) ?_
  refine cx_fn S (As := [.int q_1.1]) (rest := [.int f]) (c_H_ints l q_1.1) tb_257 tb_255 tb_256 tb_6 hdf_H_ints rfl ⟨by omega, by omega⟩ hl.1 rfl (Nat.le_of_ble_eq_true rfl) d_X_look_8 (hw.fit hbud) ?_
  refine cx_fn S (As := [.int f, .int (hd_ints q_1.1)]) (rest := []) (c_X_isBelow l f (hd_ints q_1.1)) tb_119 tb_117 tb_118 tb_1 hdf_X_isBelow rfl ⟨by omega, by omega⟩ hl.1 rfl (Nat.le_of_ble_eq_true rfl) d_X_look_11 (hw.fit hbud) ?_
  refine lv_if_ne (tgt := 21) S.1 S.2.1 d_X_look_14 (by decide) (fun c_1 => ?_) (fun c_1 => ?_)
  · refine lv_aload_n S.1 S.2.1 d_X_look_21 rfl (lv_at hl 1 rfl) ?_
    refine cx_get S hw (q0 := 0) (ci := 0) (k := 0) (v := .ref (aXC a)) (fun _ => rfl) rfl (by decide) inX tb_103 rfl rfl d_X_look_22 ?_
    refine lv_aload_n S.1 S.2.1 d_X_look_25 rfl (lv_at hl 1 rfl) ?_
    refine lv_iload_n S.1 S.2.1 d_X_look_26 rfl (lv_at hl 2 rfl) ?_
    refine lv_iload_n S.1 S.2.1 d_X_look_27 rfl (lv_at hl 0 rfl) ?_
    refine lv_iload_n S.1 S.2.1 d_X_look_28 rfl (lv_at hl 3 rfl) ?_
    refine cx_rd S hw (hw.fit hbud) (As := [.int o, .int q_1.1, .int f]) (rest := [.ref (aXC a)]) (c_X_intCell l D cI cP a κ np q_1.2 o q_1.1 f) (q0 := 0) (fun _ => rfl) rfl tb_262 tb_259 tb_261 tp_9 tb_1 hd_X_intCell rfl ⟨by omega, by omega⟩ hl.1 rfl (Nat.le_of_ble_eq_true rfl) d_X_look_29 ?_
    refine cx_call S hw hbud (As := [.int (sh_reg q_1.2 o + 1 + hd_refs q_1.1 + f)]) (rest := []) (c_C_read l D cI cP a κ np q_1.2 (sh_reg q_1.2 o + 1 + hd_refs q_1.1 + f)) (q0 := 1) (fun _ => rfl) rfl tb_170 tb_227 tb_168 tb_169 tb_4 hd_C_read rfl ⟨by omega, by omega⟩ hl.1 rfl (Nat.le_of_ble_eq_true rfl) d_X_look_32 (fun H locs hw => ?_)
    refine W.eq (g2 := F0 m 35 ls [.int (sh_val κ (q_1.2).1 (sh_reg q_1.2 o + 1 + hd_refs q_1.1 + f))]) rfl ?_
    refine lv_i2l S.1 S.2.1 d_X_look_35 rfl ?_
    exact cx_retL S hr hlk hw hbud (by first | (unfold sh_look; simp only [hq_1, if_neg c_1]; done) | (unfold sh_look; dsimp only; simp only [hq_1, if_neg c_1]; done) | (subst hq_1; unfold sh_look; simp only [if_neg c_1, hC_eq, hC_clamp]; try rfl; done)) (by first | (unfold sh_look; simp only [hq_1, if_neg c_1]; done) | (unfold sh_look; dsimp only; simp only [hq_1, if_neg c_1]; done) | (subst hq_1; unfold sh_look; simp only [if_neg c_1, hC_eq, hC_clamp]; try rfl; done)) d_X_look_36
  · refine lv_ldc2 (v := -9223372036854775808) S.1 S.2.1 S.2.2.2.1 (S.2.2.2.2 _ (List.mem_cons_of_mem _ tb_258)) d_X_look_17 ?_
    exact cx_retL S hr hlk hw hbud (by first | (unfold sh_look; simp only [hq_1, if_pos c_1]; done) | (unfold sh_look; dsimp only; simp only [hq_1, if_pos c_1]; done) | (subst hq_1; unfold sh_look; simp only [if_pos c_1, hC_eq, hC_clamp]; try rfl; done)) (by first | (unfold sh_look; simp only [hq_1, if_pos c_1]; done) | (unfold sh_look; dsimp only; simp only [hq_1, if_pos c_1]; done) | (subst hq_1; unfold sh_look; simp only [if_pos c_1, hC_eq, hC_clamp]; try rfl; done)) d_X_look_20
set_option maxHeartbeats 4000000 in
set_option maxRecDepth 100000 in
theorem c_X_set (l : Launch) (D : va_G) (cI cP : ClassId) (a : cx_a) (κ : sh_K) (np : Nat) (σ : sh_S) (o f v : Int32) : cx_Met l D cI cP a κ np y_X_set b_X_set 5 (some .boolean) 4 85 [.ref (aXX a), .int o, .int f, .int v] σ (some (.int ((sh_set κ σ o f v).1))) ((sh_set κ σ o f v).2) := by
  refine cx_start (by decide) (Nat.le_of_ble_eq_true rfl) mo_set ?_
  intro p e R s m args below meth c A ls S hr hlk hfr hlc hw hbud hl
  have hl : lv_has ls 5 [(0, .ref (aXX a)), (1, .int o), (2, .int f), (3, .int v)] := hl
  refine lv_aload_n S.1 S.2.1 d_X_set_0 rfl (lv_at hl 0 rfl) ?_
  refine lv_iload_n S.1 S.2.1 d_X_set_1 rfl (lv_at hl 1 rfl) ?_
  refine cx_call S hw hbud (As := [.int o]) (rest := []) (c_X_headOf l D cI cP a κ np σ o) (q0 := 0) (fun _ => rfl) rfl tb_222 tb_219 tb_221 tp_7 tb_1 hd_X_headOf rfl ⟨by omega, by omega⟩ hl.1 rfl (Nat.le_of_ble_eq_true rfl) d_X_set_2 (fun H locs hw => ?_)
  generalize hq_1 : sh_head κ σ o = q_1 at hw ⊢
  refine W.eq (g2 := F0 m 5 ls [.int q_1.1]) rfl ?_
  refine lv_istore (lv' := [(4, .int q_1.1), (0, .ref (aXX a)), (1, .int o), (2, .int f), (3, .int v)]) S.1 S.2.1 d_X_set_5 hl (by decide) rfl (fun ls hl => ?_)
  refine lv_iload_n S.1 S.2.1 d_X_set_7 rfl (lv_at hl 3 rfl) ?_
  refine lv_iload S.1 S.2.1 d_X_set_8 (lv_at hl 0 rfl) ?_
  refine cx_fn S (As := [.int q_1.1]) (rest := [.int f]) (c_H_ints l q_1.1) tb_257 tb_255 tb_256 tb_6 hdf_H_ints rfl ⟨by omega, by omega⟩ hl.1 rfl (Nat.le_of_ble_eq_true rfl) d_X_set_10 (hw.fit hbud) ?_
  refine cx_fn S (As := [.int f, .int (hd_ints q_1.1)]) (rest := []) (c_X_isBelow l f (hd_ints q_1.1)) tb_119 tb_117 tb_118 tb_1 hdf_X_isBelow rfl ⟨by omega, by omega⟩ hl.1 rfl (Nat.le_of_ble_eq_true rfl) d_X_set_13 (hw.fit hbud) ?_
  refine lv_if_ne (tgt := 21) S.1 S.2.1 d_X_set_16 (by decide) (fun c_1 => ?_) (fun c_1 => ?_)
  · refine lv_aload_n S.1 S.2.1 d_X_set_21 rfl (lv_at hl 1 rfl) ?_
    refine cx_get S hw (q0 := 0) (ci := 0) (k := 0) (v := .ref (aXC a)) (fun _ => rfl) rfl (by decide) inX tb_103 rfl rfl d_X_set_22 ?_
    refine lv_aload_n S.1 S.2.1 d_X_set_25 rfl (lv_at hl 1 rfl) ?_
    refine lv_iload_n S.1 S.2.1 d_X_set_26 rfl (lv_at hl 2 rfl) ?_
    refine lv_iload S.1 S.2.1 d_X_set_27 (lv_at hl 0 rfl) ?_
    refine lv_iload_n S.1 S.2.1 d_X_set_29 rfl (lv_at hl 3 rfl) ?_
    refine cx_rd S hw (hw.fit hbud) (As := [.int o, .int q_1.1, .int f]) (rest := [.ref (aXC a)]) (c_X_intCell l D cI cP a κ np q_1.2 o q_1.1 f) (q0 := 0) (fun _ => rfl) rfl tb_262 tb_259 tb_261 tp_9 tb_1 hd_X_intCell rfl ⟨by omega, by omega⟩ hl.1 rfl (Nat.le_of_ble_eq_true rfl) d_X_set_30 ?_
    refine lv_iload_n S.1 S.2.1 d_X_set_33 rfl (lv_at hl 4 rfl) ?_
    refine cx_call S hw hbud (As := [.int (sh_reg q_1.2 o + 1 + hd_refs q_1.1 + f), .int v]) (rest := []) (c_C_write l D cI cP a κ np q_1.2 (sh_reg q_1.2 o + 1 + hd_refs q_1.1 + f) v) (q0 := 1) (fun _ => rfl) rfl tb_179 tb_267 tb_177 tb_178 tb_4 hd_C_write rfl ⟨by omega, by omega⟩ hl.1 rfl (Nat.le_of_ble_eq_true rfl) d_X_set_34 (fun H locs hw => ?_)
    generalize hq_2 : sh_write κ (q_1.2).1 (sh_reg q_1.2 o + 1 + hd_refs q_1.1 + f) v = q_2 at hw ⊢
    refine W.eq (g2 := F0 m 37 ls []) rfl ?_
    refine lv_iconst (v := 1) S.1 S.2.1 d_X_set_37 (by decide) ?_
    exact cx_retZ S hr hlk hw hbud (by first | (unfold sh_set; simp only [hq_1, if_neg c_1, hq_2]; done) | (unfold sh_set; dsimp only; simp only [hq_1, if_neg c_1, hq_2]; done) | (subst hq_2; subst hq_1; unfold sh_set; simp only [if_neg c_1, hC_eq, hC_clamp]; try rfl; done)) (Or.inr rfl) (by first | (unfold sh_set; simp only [hq_1, if_neg c_1, hq_2]; done) | (unfold sh_set; dsimp only; simp only [hq_1, if_neg c_1, hq_2]; done) | (subst hq_2; subst hq_1; unfold sh_set; simp only [if_neg c_1, hC_eq, hC_clamp]; try rfl; done)) d_X_set_38
  · refine lv_iconst (v := 0) S.1 S.2.1 d_X_set_19 (by decide) ?_
    exact cx_retZ S hr hlk hw hbud (by first | (unfold sh_set; simp only [hq_1, if_pos c_1]; done) | (unfold sh_set; dsimp only; simp only [hq_1, if_pos c_1]; done) | (subst hq_1; unfold sh_set; simp only [if_pos c_1, hC_eq, hC_clamp]; try rfl; done)) (Or.inl rfl) (by first | (unfold sh_set; simp only [hq_1, if_pos c_1]; done) | (unfold sh_set; dsimp only; simp only [hq_1, if_pos c_1]; done) | (subst hq_1; unfold sh_set; simp only [if_pos c_1, hC_eq, hC_clamp]; try rfl; done)) d_X_set_20
