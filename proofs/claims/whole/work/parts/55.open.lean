/-! ===== StepHeap: cellOnWay, openWay ===== -/
theorem gp_pos {κ : sh_K} {i : Int32} : ∀ (n : Nat) (σ : sh_S) (nd lv : Int32), 0 ≤ (sh_gapN κ σ i nd lv n).1.toInt
  | 0, _, _, _ => by rw [sh_gapN]; exact Int.le_refl 0
  | n + 1, σ, nd, lv => by
    rw [sh_gapN]
    generalize sh_follow κ σ (nd + 1 + sh_slot i lv) = q
    by_cases h : lv ≤ 0
    · simp only [if_pos h]; exact Int.le_refl 0
    · simp only [if_neg h]
      by_cases h2 : q.1 = 0
      · simp only [if_pos h2]
        rw [Int32.le_iff_toInt_le, Int32.toInt_zero] at h
        omega
      · simp only [if_neg h2]
        exact gp_pos n _ _ _
theorem gp_pos2 {κ : sh_K} {σ : sh_S} {o h i : Int32} : -1 ≤ (sh_gap κ σ o h i).1.toInt := by
  have := gp_pos (κ := κ) (i := i) 3 σ (sh_reg σ o) (hd_height h)
  unfold sh_gap
  omega
theorem wy_h {h v : Int32} (hv : -1 ≤ v.toInt) : (hd_height h).toInt ≤ v.toInt + (3 : Nat) := by
  rcases (gp_height h).2 with e | e | e <;> rw [e]
  · rw [show (0 : Int32).toInt = 0 from rfl]; omega
  · rw [show (1 : Int32).toInt = 1 from rfl]; omega
  · rw [show (2 : Int32).toInt = 2 from rfl]; omega
theorem z1_refIt {h : Int32} (hz : ¬ hd_refIt h = 0) : hd_refIt h = 1 := (z_refIt h).resolve_left hz
set_option maxHeartbeats 4000000 in
set_option maxRecDepth 100000 in
theorem c_X_cellOnWay (l : Launch) (D : va_G) (cI cP : ClassId) (a : cx_a) (κ : sh_K) (np : Nat) (σ : sh_S) (o h i v : Int32) (hv : -1 ≤ v.toInt) : cx_Met l D cI cP a κ np y_X_cellOnWay b_X_cellOnWay 7 (some .int) 5 101 [.ref (aXX a), .int o, .int h, .int i, .int v] σ (some (.int ((sh_way κ σ o h i v).1))) ((sh_way κ σ o h i v).2) := by
  refine cx_start (by decide) (Nat.le_of_ble_eq_true rfl) mo_way ?_
  intro p e R s m args below meth c A ls S hr hlk hfr hlc hw hbud hl
  have hl : lv_has ls 7 [(0, .ref (aXX a)), (1, .int o), (2, .int h), (3, .int i), (4, .int v)] := hl
  refine lv_aload_n S.1 S.2.1 d_X_cellOnWay_0 rfl (lv_at hl 0 rfl) ?_
  refine cx_get S hw (q0 := 0) (ci := 0) (k := 1) (v := .ref (aXM a)) (fun _ => rfl) rfl (by decide) inX tb_104 rfl rfl d_X_cellOnWay_1 ?_
  refine lv_iload_n S.1 S.2.1 d_X_cellOnWay_4 rfl (lv_at hl 1 rfl) ?_
  refine cx_rd S hw (hw.fit hbud) (As := [.int o]) (rest := []) (c_M_register l D cI cP a κ np σ o) (q0 := 2) (fun _ => rfl) rfl tb_226 tb_223 tb_224 tb_225 tb_3 hd_M_register rfl ⟨by omega, by omega⟩ hl.1 rfl (Nat.le_of_ble_eq_true rfl) d_X_cellOnWay_5 ?_
  refine lv_istore (lv' := [(5, .int (sh_reg σ o)), (0, .ref (aXX a)), (1, .int o), (2, .int h), (3, .int i), (4, .int v)]) S.1 S.2.1 d_X_cellOnWay_8 hl (by decide) rfl (fun ls hl => ?_)
  refine lv_iload_n S.1 S.2.1 d_X_cellOnWay_10 rfl (lv_at hl 3 rfl) ?_
  refine cx_fn S (As := [.int h]) (rest := []) (c_H_height l h) tb_287 tb_285 tb_286 tb_6 hdf_H_height rfl ⟨by omega, by omega⟩ hl.1 rfl (Nat.le_of_ble_eq_true rfl) d_X_cellOnWay_11 (hw.fit hbud) ?_
  refine lv_istore (lv' := [(6, .int (hd_height h)), (5, .int (sh_reg σ o)), (0, .ref (aXX a)), (1, .int o), (2, .int h), (3, .int i), (4, .int v)]) S.1 S.2.1 d_X_cellOnWay_14 hl (by decide) rfl (fun ls hl => ?_)
  refine lp_way S hbud (by omega) (by omega) hv 3 σ (sh_reg σ o) (hd_height h) _ _ ls (wy_h hv) hw (lv_sub hl [0, 1, 2, 3, 4, 5, 6] rfl) (fun H locs ls ab hw hl => ?_)
  generalize hq_1 : sh_wayN κ σ i v (sh_reg σ o) (hd_height h) 3 = q_1 at hw hl ⊢
  refine lv_iload S.1 S.2.1 d_X_cellOnWay_49 (lv_at hl 1 rfl) ?_
  refine lv_iconst (v := 1) S.1 S.2.1 d_X_cellOnWay_51 (by decide) ?_
  refine lv_iadd S.1 S.2.1 d_X_cellOnWay_52 ?_
  refine lv_iload_n S.1 S.2.1 d_X_cellOnWay_53 rfl (lv_at hl 5 rfl) ?_
  refine lv_iload S.1 S.2.1 d_X_cellOnWay_54 (lv_at hl 6 rfl) ?_
  refine cx_fn S (As := [.int i, .int v]) (rest := [.int (q_1.1 + 1)]) (c_X_slot l i v) tb_290 tb_288 tb_289 tb_1 hdf_X_slot rfl ⟨by omega, by omega⟩ hl.1 rfl (Nat.le_of_ble_eq_true rfl) d_X_cellOnWay_56 (hw.fit hbud) ?_
  refine lv_iadd S.1 S.2.1 d_X_cellOnWay_59 ?_
  exact cx_retI S hr hlk hw hbud (by unfold sh_way; simp only [hq_1]) (by unfold sh_way; simp only [hq_1]) d_X_cellOnWay_60
set_option maxHeartbeats 4000000 in
set_option maxRecDepth 100000 in
theorem c_X_openWay (l : Launch) (D : va_G) (cI cP : ClassId) (a : cx_a) (κ : sh_K) (np : Nat) (σ : sh_S) (o h i : Int32) : cx_Met l D cI cP a κ np y_X_openWay b_X_openWay 6 (some .int) 6 127 [.ref (aXX a), .int o, .int h, .int i] σ (some (.int ((sh_open κ σ o h i).1))) ((sh_open κ σ o h i).2) := by
  refine cx_start (by decide) (Nat.le_of_ble_eq_true rfl) mo_open ?_
  intro p e R s m args below meth c A ls S hr hlk hfr hlc hw hbud hl
  have hl : lv_has ls 6 [(0, .ref (aXX a)), (1, .int o), (2, .int h), (3, .int i)] := hl
  refine lv_aload_n S.1 S.2.1 d_X_openWay_0 rfl (lv_at hl 0 rfl) ?_
  refine lv_iload_n S.1 S.2.1 d_X_openWay_1 rfl (lv_at hl 1 rfl) ?_
  refine lv_iload_n S.1 S.2.1 d_X_openWay_2 rfl (lv_at hl 2 rfl) ?_
  refine lv_iload_n S.1 S.2.1 d_X_openWay_3 rfl (lv_at hl 3 rfl) ?_
  refine cx_call S hw hbud (As := [.int o, .int h, .int i]) (rest := []) (c_X_levelOfGap l D cI cP a κ np σ o h i) (q0 := 0) (fun _ => rfl) rfl tb_284 tb_281 tb_283 tp_10 tb_1 hd_X_levelOfGap rfl ⟨by omega, by omega⟩ hl.1 rfl (Nat.le_of_ble_eq_true rfl) d_X_openWay_4 (fun H locs hw => ?_)
  generalize hq_1 : sh_gap κ σ o h i = q_1 at hw ⊢
  refine W.eq (g2 := F0 m 7 ls [.int q_1.1]) rfl ?_
  refine lv_istore (lv' := [(4, .int q_1.1), (0, .ref (aXX a)), (1, .int o), (2, .int h), (3, .int i)]) S.1 S.2.1 d_X_openWay_7 hl (by decide) rfl (fun ls hl => ?_)
  refine lv_iload S.1 S.2.1 d_X_openWay_9 (lv_at hl 0 rfl) ?_
  refine lv_if_ne (tgt := 16) S.1 S.2.1 d_X_openWay_11 (by decide) (fun c_1 => ?_) (fun c_1 => ?_)
  · refine lv_aload_n S.1 S.2.1 d_X_openWay_16 rfl (lv_at hl 1 rfl) ?_
    refine cx_get S hw (q0 := 0) (ci := 0) (k := 1) (v := .ref (aXM a)) (fun _ => rfl) rfl (by decide) inX tb_104 rfl rfl d_X_openWay_17 ?_
    refine lv_bipush (v := 16) S.1 S.2.1 d_X_openWay_20 (by decide) ?_
    refine cx_call S hw hbud (As := [.int 16]) (rest := []) (c_M_hasRoom l D cI cP a κ np q_1.2 16) (q0 := 2) (fun _ => rfl) rfl tb_146 tb_143 tb_144 tb_145 tb_3 hd_M_hasRoom rfl ⟨by omega, by omega⟩ hl.1 rfl (Nat.le_of_ble_eq_true rfl) d_X_openWay_22 (fun H locs hw => ?_)
    generalize hq_2 : sh_room κ q_1.2 16 = q_2 at hw ⊢
    refine W.eq (g2 := F0 m 25 ls [.int q_2.1]) rfl ?_
    refine lv_if_ne (tgt := 30) S.1 S.2.1 d_X_openWay_25 (by decide) (fun c_2 => ?_) (fun c_2 => ?_)
    · refine lv_aload_n S.1 S.2.1 d_X_openWay_30 rfl (lv_at hl 1 rfl) ?_
      refine cx_get S hw (q0 := 0) (ci := 0) (k := 1) (v := .ref (aXM a)) (fun _ => rfl) rfl (by decide) inX tb_104 rfl rfl d_X_openWay_31 ?_
      refine lv_iload S.1 S.2.1 d_X_openWay_34 (lv_at hl 0 rfl) ?_
      refine lv_iconst (v := 1) S.1 S.2.1 d_X_openWay_36 (by decide) ?_
      refine lv_icmp_gt (tgt := 47) S.1 S.2.1 d_X_openWay_37 (by decide) (fun c_3 => ?_) (fun c_3 => ?_)
      · have c_3n := i32_nle c_3
        refine lv_iconst (v := 1) S.1 S.2.1 d_X_openWay_47 (by decide) ?_
        refine lv_goto (tgt := 52) S.1 S.2.1 d_X_openWay_48 (by decide) ?_
        refine cx_fn S (As := [.int 1]) (rest := [.ref (aXM a)]) (c_H_ofNode l 1) tb_213 tb_304 tb_212 tb_6 hdf_H_ofNode rfl ⟨by omega, by omega⟩ hl.1 rfl (Nat.le_of_ble_eq_true rfl) d_X_openWay_52 (hw.fit hbud) ?_
        refine cx_call S hw hbud (As := [.int (hd_node 1)]) (rest := []) (c_M_place l D cI cP a κ np q_2.2 (hd_node 1)) (q0 := 2) (fun _ => rfl) rfl tb_193 tb_190 tb_191 tb_192 tb_3 hd_M_place rfl ⟨by omega, by omega⟩ hl.1 rfl (Nat.le_of_ble_eq_true rfl) d_X_openWay_55 (fun H locs hw => ?_)
        generalize hq_3 : sh_place κ q_2.2 (hd_node 1) = q_3 at hw ⊢
        refine W.eq (g2 := F0 m 58 ls [.int q_3.1]) rfl ?_
        refine lv_istore (lv' := [(5, .int q_3.1), (4, .int q_1.1), (0, .ref (aXX a)), (1, .int o), (2, .int h), (3, .int i)]) S.1 S.2.1 d_X_openWay_58 hl (by decide) rfl (fun ls hl => ?_)
        refine lv_aload_n S.1 S.2.1 d_X_openWay_60 rfl (lv_at hl 2 rfl) ?_
        refine cx_get S hw (q0 := 0) (ci := 0) (k := 1) (v := .ref (aXM a)) (fun _ => rfl) rfl (by decide) inX tb_104 rfl rfl d_X_openWay_61 ?_
        refine lv_aload_n S.1 S.2.1 d_X_openWay_64 rfl (lv_at hl 2 rfl) ?_
        refine lv_iload_n S.1 S.2.1 d_X_openWay_65 rfl (lv_at hl 3 rfl) ?_
        refine lv_iload_n S.1 S.2.1 d_X_openWay_66 rfl (lv_at hl 4 rfl) ?_
        refine lv_iload_n S.1 S.2.1 d_X_openWay_67 rfl (lv_at hl 5 rfl) ?_
        refine lv_iload S.1 S.2.1 d_X_openWay_68 (lv_at hl 1 rfl) ?_
        refine cx_call S hw hbud (As := [.int o, .int h, .int i, .int q_1.1]) (rest := [.ref (aXM a)]) (c_X_cellOnWay l D cI cP a κ np q_3.2 o h i q_1.1 (by rw [← hq_1]; exact gp_pos2)) (q0 := 0) (fun _ => rfl) rfl tb_294 tb_291 tb_293 tp_11 tb_1 hd_X_cellOnWay rfl ⟨by omega, by omega⟩ hl.1 rfl (Nat.le_of_ble_eq_true rfl) d_X_openWay_70 (fun H locs hw => ?_)
        generalize hq_4 : sh_way κ q_3.2 o h i q_1.1 = q_4 at hw ⊢
        refine W.eq (g2 := F0 m 73 ls [.int q_4.1, .ref (aXM a)]) rfl ?_
        refine lv_iload S.1 S.2.1 d_X_openWay_73 (lv_at hl 0 rfl) ?_
        refine cx_call S hw hbud (As := [.int q_4.1, .int q_3.1]) (rest := []) (c_M_link l D cI cP a κ np q_4.2 q_4.1 q_3.1) (q0 := 2) (fun _ => rfl) rfl tb_249 tb_246 tb_247 tb_248 tb_3 hd_M_link rfl ⟨by omega, by omega⟩ hl.1 rfl (Nat.le_of_ble_eq_true rfl) d_X_openWay_75 (fun H locs hw => ?_)
        generalize hq_5 : sh_link κ q_4.2 q_4.1 q_3.1 = q_5 at hw ⊢
        refine W.eq (g2 := F0 m 78 ls []) rfl ?_
        refine lv_iconst (v := 2) S.1 S.2.1 d_X_openWay_78 (by decide) ?_
        exact cx_retI S hr hlk hw hbud (by first | (unfold sh_open; simp only [hq_1, if_neg c_1, hq_2, if_neg c_2, if_pos c_3, if_neg c_3n, hq_3, hq_4, hq_5]; done)) (by first | (unfold sh_open; simp only [hq_1, if_neg c_1, hq_2, if_neg c_2, if_pos c_3, if_neg c_3n, hq_3, hq_4, hq_5]; done)) d_X_openWay_79
      · have c_3n := i32_le c_3
        refine lv_iload_n S.1 S.2.1 d_X_openWay_40 rfl (lv_at hl 3 rfl) ?_
        refine cx_fn S (As := [.int h]) (rest := [.ref (aXM a)]) (c_H_hasReferenceItems l h) tb_277 tb_303 tb_276 tb_6 hdf_H_hasReferenceItems rfl ⟨by omega, by omega⟩ hl.1 rfl (Nat.le_of_ble_eq_true rfl) d_X_openWay_41 (hw.fit hbud) ?_
        refine lv_if_eq (tgt := 51) S.1 S.2.1 d_X_openWay_44 (by decide) (fun c_4 => ?_) (fun c_4 => ?_)
        · refine lv_iconst (v := 0) S.1 S.2.1 d_X_openWay_51 (by decide) ?_
          refine cx_fn S (As := [.int 0]) (rest := [.ref (aXM a)]) (c_H_ofNode l 0) tb_213 tb_304 tb_212 tb_6 hdf_H_ofNode rfl ⟨by omega, by omega⟩ hl.1 rfl (Nat.le_of_ble_eq_true rfl) d_X_openWay_52 (hw.fit hbud) ?_
          refine cx_call S hw hbud (As := [.int (hd_node 0)]) (rest := []) (c_M_place l D cI cP a κ np q_2.2 (hd_node 0)) (q0 := 2) (fun _ => rfl) rfl tb_193 tb_190 tb_191 tb_192 tb_3 hd_M_place rfl ⟨by omega, by omega⟩ hl.1 rfl (Nat.le_of_ble_eq_true rfl) d_X_openWay_55 (fun H locs hw => ?_)
          generalize hq_6 : sh_place κ q_2.2 (hd_node 0) = q_6 at hw ⊢
          refine W.eq (g2 := F0 m 58 ls [.int q_6.1]) rfl ?_
          refine lv_istore (lv' := [(5, .int q_6.1), (4, .int q_1.1), (0, .ref (aXX a)), (1, .int o), (2, .int h), (3, .int i)]) S.1 S.2.1 d_X_openWay_58 hl (by decide) rfl (fun ls hl => ?_)
          refine lv_aload_n S.1 S.2.1 d_X_openWay_60 rfl (lv_at hl 2 rfl) ?_
          refine cx_get S hw (q0 := 0) (ci := 0) (k := 1) (v := .ref (aXM a)) (fun _ => rfl) rfl (by decide) inX tb_104 rfl rfl d_X_openWay_61 ?_
          refine lv_aload_n S.1 S.2.1 d_X_openWay_64 rfl (lv_at hl 2 rfl) ?_
          refine lv_iload_n S.1 S.2.1 d_X_openWay_65 rfl (lv_at hl 3 rfl) ?_
          refine lv_iload_n S.1 S.2.1 d_X_openWay_66 rfl (lv_at hl 4 rfl) ?_
          refine lv_iload_n S.1 S.2.1 d_X_openWay_67 rfl (lv_at hl 5 rfl) ?_
          refine lv_iload S.1 S.2.1 d_X_openWay_68 (lv_at hl 1 rfl) ?_
          refine cx_call S hw hbud (As := [.int o, .int h, .int i, .int q_1.1]) (rest := [.ref (aXM a)]) (c_X_cellOnWay l D cI cP a κ np q_6.2 o h i q_1.1 (by rw [← hq_1]; exact gp_pos2)) (q0 := 0) (fun _ => rfl) rfl tb_294 tb_291 tb_293 tp_11 tb_1 hd_X_cellOnWay rfl ⟨by omega, by omega⟩ hl.1 rfl (Nat.le_of_ble_eq_true rfl) d_X_openWay_70 (fun H locs hw => ?_)
          generalize hq_7 : sh_way κ q_6.2 o h i q_1.1 = q_7 at hw ⊢
          refine W.eq (g2 := F0 m 73 ls [.int q_7.1, .ref (aXM a)]) rfl ?_
          refine lv_iload S.1 S.2.1 d_X_openWay_73 (lv_at hl 0 rfl) ?_
          refine cx_call S hw hbud (As := [.int q_7.1, .int q_6.1]) (rest := []) (c_M_link l D cI cP a κ np q_7.2 q_7.1 q_6.1) (q0 := 2) (fun _ => rfl) rfl tb_249 tb_246 tb_247 tb_248 tb_3 hd_M_link rfl ⟨by omega, by omega⟩ hl.1 rfl (Nat.le_of_ble_eq_true rfl) d_X_openWay_75 (fun H locs hw => ?_)
          generalize hq_8 : sh_link κ q_7.2 q_7.1 q_6.1 = q_8 at hw ⊢
          refine W.eq (g2 := F0 m 78 ls []) rfl ?_
          refine lv_iconst (v := 2) S.1 S.2.1 d_X_openWay_78 (by decide) ?_
          exact cx_retI S hr hlk hw hbud (by first | (unfold sh_open; simp only [hq_1, if_neg c_1, hq_2, if_neg c_2, if_neg c_3, if_pos c_3n, hq_6, hq_7, hq_8, c_4]; done) | (unfold sh_open; simp only [hq_1, if_neg c_1, hq_2, if_neg c_2, if_neg c_3, if_pos c_3n, if_pos c_4, hq_6, hq_7, hq_8]; done)) (by first | (unfold sh_open; simp only [hq_1, if_neg c_1, hq_2, if_neg c_2, if_neg c_3, if_pos c_3n, hq_6, hq_7, hq_8, c_4]; done) | (unfold sh_open; simp only [hq_1, if_neg c_1, hq_2, if_neg c_2, if_neg c_3, if_pos c_3n, if_pos c_4, hq_6, hq_7, hq_8]; done)) d_X_openWay_79
        · refine lv_iconst (v := 1) S.1 S.2.1 d_X_openWay_47 (by decide) ?_
          refine lv_goto (tgt := 52) S.1 S.2.1 d_X_openWay_48 (by decide) ?_
          refine cx_fn S (As := [.int 1]) (rest := [.ref (aXM a)]) (c_H_ofNode l 1) tb_213 tb_304 tb_212 tb_6 hdf_H_ofNode rfl ⟨by omega, by omega⟩ hl.1 rfl (Nat.le_of_ble_eq_true rfl) d_X_openWay_52 (hw.fit hbud) ?_
          refine cx_call S hw hbud (As := [.int (hd_node 1)]) (rest := []) (c_M_place l D cI cP a κ np q_2.2 (hd_node 1)) (q0 := 2) (fun _ => rfl) rfl tb_193 tb_190 tb_191 tb_192 tb_3 hd_M_place rfl ⟨by omega, by omega⟩ hl.1 rfl (Nat.le_of_ble_eq_true rfl) d_X_openWay_55 (fun H locs hw => ?_)
          generalize hq_9 : sh_place κ q_2.2 (hd_node 1) = q_9 at hw ⊢
          refine W.eq (g2 := F0 m 58 ls [.int q_9.1]) rfl ?_
          refine lv_istore (lv' := [(5, .int q_9.1), (4, .int q_1.1), (0, .ref (aXX a)), (1, .int o), (2, .int h), (3, .int i)]) S.1 S.2.1 d_X_openWay_58 hl (by decide) rfl (fun ls hl => ?_)
          refine lv_aload_n S.1 S.2.1 d_X_openWay_60 rfl (lv_at hl 2 rfl) ?_
          refine cx_get S hw (q0 := 0) (ci := 0) (k := 1) (v := .ref (aXM a)) (fun _ => rfl) rfl (by decide) inX tb_104 rfl rfl d_X_openWay_61 ?_
          refine lv_aload_n S.1 S.2.1 d_X_openWay_64 rfl (lv_at hl 2 rfl) ?_
          refine lv_iload_n S.1 S.2.1 d_X_openWay_65 rfl (lv_at hl 3 rfl) ?_
          refine lv_iload_n S.1 S.2.1 d_X_openWay_66 rfl (lv_at hl 4 rfl) ?_
          refine lv_iload_n S.1 S.2.1 d_X_openWay_67 rfl (lv_at hl 5 rfl) ?_
          refine lv_iload S.1 S.2.1 d_X_openWay_68 (lv_at hl 1 rfl) ?_
          refine cx_call S hw hbud (As := [.int o, .int h, .int i, .int q_1.1]) (rest := [.ref (aXM a)]) (c_X_cellOnWay l D cI cP a κ np q_9.2 o h i q_1.1 (by rw [← hq_1]; exact gp_pos2)) (q0 := 0) (fun _ => rfl) rfl tb_294 tb_291 tb_293 tp_11 tb_1 hd_X_cellOnWay rfl ⟨by omega, by omega⟩ hl.1 rfl (Nat.le_of_ble_eq_true rfl) d_X_openWay_70 (fun H locs hw => ?_)
          generalize hq_10 : sh_way κ q_9.2 o h i q_1.1 = q_10 at hw ⊢
          refine W.eq (g2 := F0 m 73 ls [.int q_10.1, .ref (aXM a)]) rfl ?_
          refine lv_iload S.1 S.2.1 d_X_openWay_73 (lv_at hl 0 rfl) ?_
          refine cx_call S hw hbud (As := [.int q_10.1, .int q_9.1]) (rest := []) (c_M_link l D cI cP a κ np q_10.2 q_10.1 q_9.1) (q0 := 2) (fun _ => rfl) rfl tb_249 tb_246 tb_247 tb_248 tb_3 hd_M_link rfl ⟨by omega, by omega⟩ hl.1 rfl (Nat.le_of_ble_eq_true rfl) d_X_openWay_75 (fun H locs hw => ?_)
          generalize hq_11 : sh_link κ q_10.2 q_10.1 q_9.1 = q_11 at hw ⊢
          refine W.eq (g2 := F0 m 78 ls []) rfl ?_
          refine lv_iconst (v := 2) S.1 S.2.1 d_X_openWay_78 (by decide) ?_
          exact cx_retI S hr hlk hw hbud (by first | (unfold sh_open; simp only [hq_1, if_neg c_1, hq_2, if_neg c_2, if_neg c_3, if_pos c_3n, hq_9, hq_10, hq_11, z1_refIt c_4]; done) | (unfold sh_open; simp only [hq_1, if_neg c_1, hq_2, if_neg c_2, if_neg c_3, if_pos c_3n, if_neg c_4, hq_9, hq_10, hq_11]; done)) (by first | (unfold sh_open; simp only [hq_1, if_neg c_1, hq_2, if_neg c_2, if_neg c_3, if_pos c_3n, hq_9, hq_10, hq_11, z1_refIt c_4]; done) | (unfold sh_open; simp only [hq_1, if_neg c_1, hq_2, if_neg c_2, if_neg c_3, if_pos c_3n, if_neg c_4, hq_9, hq_10, hq_11]; done)) d_X_openWay_79
    · refine lv_iconst (v := 0) S.1 S.2.1 d_X_openWay_28 (by decide) ?_
      exact cx_retI S hr hlk hw hbud (by first | (unfold sh_open; simp only [hq_1, if_neg c_1, hq_2, if_pos c_2]; done)) (by first | (unfold sh_open; simp only [hq_1, if_neg c_1, hq_2, if_pos c_2]; done)) d_X_openWay_29
  · refine lv_iconst (v := 1) S.1 S.2.1 d_X_openWay_14 (by decide) ?_
    exact cx_retI S hr hlk hw hbud (by first | (unfold sh_open; simp only [hq_1, if_pos c_1]; done)) (by first | (unfold sh_open; simp only [hq_1, if_pos c_1]; done)) d_X_openWay_15
