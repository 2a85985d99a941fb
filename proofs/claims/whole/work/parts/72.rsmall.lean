/-! ===== THE REFERENCE: its small methods ===== -/
set_option maxHeartbeats 4000000 in
set_option maxRecDepth 100000 in
theorem c_R_isRegister (l : Launch) (r : Int32) : cx_Fn l y_R_isRegister b_R_isRegister 1 (some .boolean) 0 0 [.int r] (sh_isReg r) := by
  refine cx_startF (by decide) (Nat.le_of_ble_eq_true rfl) ?_
  intro p e R s m args below meth c ls S hr hlk hfr hlc hl
  have hl : lv_has ls 1 [(0, .int r)] := hl
  refine lv_iload_n S.1 S.2.1 d_R_isRegister_0 rfl (lv_at hl 0 rfl) ?_
  refine lv_if_lt (tgt := 14) S.1 S.2.1 d_R_isRegister_1 (by decide) (fun c_1 => ?_) (fun c_1 => ?_)
  · refine lv_iconst (v := 0) S.1 S.2.1 d_R_isRegister_14 (by decide) ?_
    exact cx_endZ S hr hlk (by first | (unfold sh_isReg sh_below; simp only [if_pos c_1]; done) | (unfold sh_isReg sh_below; simp only [if_pos c_1]; rfl) | (unfold sh_isReg sh_below; rfl) | rfl) (Or.inl rfl) d_R_isRegister_15
  · refine lv_iload_n S.1 S.2.1 d_R_isRegister_4 rfl (lv_at hl 0 rfl) ?_
    refine lv_bipush (v := 8) S.1 S.2.1 d_R_isRegister_5 (by decide) ?_
    refine lv_icmp_ge (tgt := 14) S.1 S.2.1 d_R_isRegister_7 (by decide) (fun c_2 => ?_) (fun c_2 => ?_)
    · have c_2n := i32_nlt c_2
      refine lv_iconst (v := 0) S.1 S.2.1 d_R_isRegister_14 (by decide) ?_
      exact cx_endZ S hr hlk (by first | exact absurd c_2 c_1 | exact absurd c_2 c_2n | (unfold sh_isReg sh_below; simp only [if_neg c_1, if_pos c_2, if_neg c_2n]; done) | (unfold sh_isReg sh_below; simp only [if_neg c_1, if_pos c_2, if_neg c_2n]; rfl) | (unfold sh_isReg sh_below; rfl) | rfl) (Or.inl rfl) d_R_isRegister_15
    · have c_2n := i32_lt c_2
      refine lv_iconst (v := 1) S.1 S.2.1 d_R_isRegister_10 (by decide) ?_
      refine lv_goto (tgt := 15) S.1 S.2.1 d_R_isRegister_11 (by decide) ?_
      exact cx_endZ S hr hlk (by first | exact absurd c_2n c_1 | exact absurd c_2n c_2 | (unfold sh_isReg sh_below; simp only [if_neg c_1, if_neg c_2, if_pos c_2n]; done) | (unfold sh_isReg sh_below; simp only [if_neg c_1, if_neg c_2, if_pos c_2n]; rfl) | (unfold sh_isReg sh_below; rfl) | rfl) (Or.inr rfl) d_R_isRegister_15
set_option maxHeartbeats 4000000 in
set_option maxRecDepth 100000 in
theorem c_R_levels (l : Launch) (n : Int32) : cx_Fn l y_R_levels b_R_levels 1 (some .int) 0 0 [.int n] (rm_levels n) := by
  refine cx_startF (by decide) (Nat.le_of_ble_eq_true rfl) ?_
  intro p e R s m args below meth c ls S hr hlk hfr hlc hl
  have hl : lv_has ls 1 [(0, .int n)] := hl
  refine lv_iload_n S.1 S.2.1 d_R_levels_0 rfl (lv_at hl 0 rfl) ?_
  refine lv_bipush (v := 15) S.1 S.2.1 d_R_levels_1 (by decide) ?_
  refine lv_icmp_gt (tgt := 10) S.1 S.2.1 d_R_levels_3 (by decide) (fun c_1 => ?_) (fun c_1 => ?_)
  · have c_1n := i32_nle c_1
    refine lv_iload_n S.1 S.2.1 d_R_levels_10 rfl (lv_at hl 0 rfl) ?_
    refine lv_sipush (v := 225) S.1 S.2.1 d_R_levels_11 (by decide) ?_
    refine lv_icmp_gt (tgt := 21) S.1 S.2.1 d_R_levels_14 (by decide) (fun c_2 => ?_) (fun c_2 => ?_)
    · have c_2n := i32_nle c_2
      refine lv_iconst (v := 3) S.1 S.2.1 d_R_levels_21 (by decide) ?_
      exact cx_endI S hr hlk (by first | exact absurd c_1 c_1n | exact absurd c_1 c_2n | exact absurd c_2 c_1n | exact absurd c_2 c_2n | (unfold rm_levels; simp only [if_pos c_1, if_neg c_1n, if_pos c_2, if_neg c_2n]; done) | (unfold rm_levels; simp only [if_pos c_1, if_neg c_1n, if_pos c_2, if_neg c_2n]; rfl) | (unfold rm_levels; rfl) | rfl) d_R_levels_22
    · have c_2n := i32_le c_2
      refine lv_iconst (v := 2) S.1 S.2.1 d_R_levels_17 (by decide) ?_
      refine lv_goto (tgt := 22) S.1 S.2.1 d_R_levels_18 (by decide) ?_
      exact cx_endI S hr hlk (by first | exact absurd c_1 c_1n | exact absurd c_1 c_2 | exact absurd c_2n c_1n | exact absurd c_2n c_2 | (unfold rm_levels; simp only [if_pos c_1, if_neg c_1n, if_neg c_2, if_pos c_2n]; done) | (unfold rm_levels; simp only [if_pos c_1, if_neg c_1n, if_neg c_2, if_pos c_2n]; rfl) | (unfold rm_levels; rfl) | rfl) d_R_levels_22
  · have c_1n := i32_le c_1
    refine lv_iconst (v := 1) S.1 S.2.1 d_R_levels_6 (by decide) ?_
    refine lv_goto (tgt := 22) S.1 S.2.1 d_R_levels_7 (by decide) ?_
    exact cx_endI S hr hlk (by first | exact absurd c_1n c_1 | (unfold rm_levels; simp only [if_neg c_1, if_pos c_1n]; done) | (unfold rm_levels; simp only [if_neg c_1, if_pos c_1n]; rfl) | (unfold rm_levels; rfl) | rfl) d_R_levels_22
set_option maxHeartbeats 4000000 in
set_option maxRecDepth 100000 in
theorem c_R_cells (l : Launch) (D : va_G) (cs : rx_c) (b : rx_a) (k lim : Int32) (ρ : rm_S) (o : Int32) (ho : vp_in o 120064) : rx_Rd l D cs b k lim y_R_cells b_R_cells 2 (some .int) 0 0 [.ref (bO b), .int o] ρ (rm_cells ρ o) := by
  refine rx_startR (by decide) (Nat.le_of_ble_eq_true rfl) ?_
  intro p e R s m args below meth c A ls S hr hlk hfr hlc hw hl
  have hl : lv_has ls 2 [(0, .ref (bO b)), (1, .int o)] := hl
  refine lv_aload_n S.1 S.2.1 d_R_cells_0 rfl (lv_at hl 0 rfl) ?_
  refine rx_get S hw (j := 2) (v := .ref (bKind b)) (by decide) tb_355 rfl rfl d_R_cells_1 ?_
  refine lv_iload_n S.1 S.2.1 d_R_cells_4 rfl (lv_at hl 1 rfl) ?_
  refine rx_ldKind S hw (i := o) (ho) d_R_cells_5 ?_
  refine lv_iconst (v := 1) S.1 S.2.1 d_R_cells_6 (by decide) ?_
  refine lv_icmp_ne (tgt := 28) S.1 S.2.1 d_R_cells_7 (by decide) (fun c_1 => ?_) (fun c_1 => ?_)
  · refine lv_bipush (v := 16) S.1 S.2.1 d_R_cells_28 (by decide) ?_
    exact cx_endI S hr hlk (by first | (unfold rm_cells; simp only [if_neg c_1]; done) | (unfold rm_cells; simp only [if_neg c_1]; rfl) | (unfold rm_cells; rfl) | rfl) d_R_cells_30
  · refine lv_iconst (v := 1) S.1 S.2.1 d_R_cells_10 (by decide) ?_
    refine lv_aload_n S.1 S.2.1 d_R_cells_11 rfl (lv_at hl 0 rfl) ?_
    refine rx_get S hw (j := 3) (v := .ref (bRefs b)) (by decide) tb_356 rfl rfl d_R_cells_12 ?_
    refine lv_iload_n S.1 S.2.1 d_R_cells_15 rfl (lv_at hl 1 rfl) ?_
    refine rx_ldRefs S hw (i := o) (ho) d_R_cells_16 ?_
    refine lv_iadd S.1 S.2.1 d_R_cells_17 ?_
    refine lv_aload_n S.1 S.2.1 d_R_cells_18 rfl (lv_at hl 0 rfl) ?_
    refine rx_get S hw (j := 4) (v := .ref (bInts b)) (by decide) tb_357 rfl rfl d_R_cells_19 ?_
    refine lv_iload_n S.1 S.2.1 d_R_cells_22 rfl (lv_at hl 1 rfl) ?_
    refine rx_ldInts S hw (i := o) (ho) d_R_cells_23 ?_
    refine lv_iadd S.1 S.2.1 d_R_cells_24 ?_
    refine lv_goto (tgt := 30) S.1 S.2.1 d_R_cells_25 (by decide) ?_
    exact cx_endI S hr hlk (by first | (unfold rm_cells; simp only [if_pos c_1]; done) | (unfold rm_cells; simp only [if_pos c_1]; rfl) | (unfold rm_cells; rfl) | rfl) d_R_cells_30
set_option maxHeartbeats 4000000 in
set_option maxRecDepth 100000 in
theorem c_R_isDone (l : Launch) (D : va_G) (cs : rx_c) (b : rx_a) (k lim : Int32) (ρ : rm_S) : rx_Rd l D cs b k lim y_R_isDone b_R_isDone 1 (some .boolean) 0 0 [.ref (bO b)] ρ (rm_done k ρ) := by
  refine rx_startR (by decide) (Nat.le_of_ble_eq_true rfl) ?_
  intro p e R s m args below meth c A ls S hr hlk hfr hlc hw hl
  have hl : lv_has ls 1 [(0, .ref (bO b))] := hl
  refine lv_aload_n S.1 S.2.1 d_R_isDone_0 rfl (lv_at hl 0 rfl) ?_
  refine rx_get S hw (j := 0) (v := .int k) (by decide) tb_353 rfl rfl d_R_isDone_1 ?_
  refine lv_i2l S.1 S.2.1 d_R_isDone_4 rfl ?_
  refine lv_aload_n S.1 S.2.1 d_R_isDone_5 rfl (lv_at hl 0 rfl) ?_
  refine rx_get S hw (j := 14) (v := .long (rMade ρ)) (by decide) tb_367 rfl rfl d_R_isDone_6 ?_
  refine lv_lmul S.1 S.2.1 d_R_isDone_9 ?_
  refine lv_aload_n S.1 S.2.1 d_R_isDone_10 rfl (lv_at hl 0 rfl) ?_
  refine rx_get S hw (j := 13) (v := .int (rRea ρ)) (by decide) tb_366 rfl rfl d_R_isDone_11 ?_
  refine lv_i2l S.1 S.2.1 d_R_isDone_14 rfl ?_
  refine W.lcmp S.1 S.2.1 d_R_isDone_15 ?_
  refine lv_if_lt (tgt := 23) S.1 S.2.1 d_R_isDone_16 (by decide) (fun c_1 => ?_) (fun c_1 => ?_)
  · refine lv_iconst (v := 0) S.1 S.2.1 d_R_isDone_23 (by decide) ?_
    exact cx_endZ S hr hlk (by first | (unfold rm_done; simp only [if_pos c_1]; done) | (unfold rm_done; simp only [if_pos c_1]; rfl) | (unfold rm_done; rfl) | rfl) (Or.inl rfl) d_R_isDone_24
  · refine lv_iconst (v := 1) S.1 S.2.1 d_R_isDone_19 (by decide) ?_
    refine lv_goto (tgt := 24) S.1 S.2.1 d_R_isDone_20 (by decide) ?_
    exact cx_endZ S hr hlk (by first | (unfold rm_done; simp only [if_neg c_1]; done) | (unfold rm_done; simp only [if_neg c_1]; rfl) | (unfold rm_done; rfl) | rfl) (Or.inr rfl) d_R_isDone_24
set_option maxHeartbeats 4000000 in
set_option maxRecDepth 100000 in
theorem c_R_field (l : Launch) (D : va_G) (cs : rx_c) (b : rx_a) (k lim : Int32) (ρ : rm_S) (r f x : Int32) {ob : Nat} (hok : rm_ok ρ ob) : rx_Rd l D cs b k lim y_R_field b_R_field 5 (some .int) 1 20 [.ref (bO b), .int r, .int f, .int x] ρ (rm_field ρ r f x) := by
  refine rx_startR (by decide) (Nat.le_of_ble_eq_true rfl) ?_
  intro p e R s m args below meth c A ls S hr hlk hfr hlc hw hl
  have hl : lv_has ls 5 [(0, .ref (bO b)), (1, .int r), (2, .int f), (3, .int x)] := hl
  refine lv_iload_n S.1 S.2.1 d_R_field_0 rfl (lv_at hl 1 rfl) ?_
  refine cx_fn S (As := [.int r]) (rest := []) (c_R_isRegister l r) tb_423 tb_421 tb_422 tb_5 hdf_R_isRegister rfl ⟨by omega, by omega⟩ hl.1 rfl (Nat.le_of_ble_eq_true rfl) d_R_field_1 ⟨Nat.zero_le _, Nat.zero_le _⟩ ?_
  refine lv_if_eq (tgt := 33) S.1 S.2.1 d_R_field_4 (by decide) (fun c_1 => ?_) (fun c_1 => ?_)
  · refine lv_iconst (v := -1) S.1 S.2.1 d_R_field_33 (by decide) ?_
    exact cx_endI S hr hlk (by first | (unfold rm_field; simp only [if_pos c_1]; done) | (unfold rm_field; simp only [if_pos c_1]; rfl) | (unfold rm_field; rfl) | rfl) d_R_field_34
  · refine lv_aload_n S.1 S.2.1 d_R_field_7 rfl (lv_at hl 0 rfl) ?_
    refine rx_get S hw (j := 11) (v := .ref (bReg b)) (by decide) tb_364 rfl rfl d_R_field_8 ?_
    refine lv_iload_n S.1 S.2.1 d_R_field_11 rfl (lv_at hl 1 rfl) ?_
    refine rx_ldReg S hw (i := r) (in8 c_1) d_R_field_12 ?_
    refine lv_if_eq (tgt := 33) S.1 S.2.1 d_R_field_13 (by decide) (fun c_2 => ?_) (fun c_2 => ?_)
    · refine lv_iconst (v := -1) S.1 S.2.1 d_R_field_33 (by decide) ?_
      exact cx_endI S hr hlk (by first | exact absurd c_2 c_1 | (unfold rm_field; simp only [if_neg c_1, if_pos c_2]; done) | (unfold rm_field; simp only [if_neg c_1, if_pos c_2]; rfl) | (unfold rm_field; rfl) | rfl) d_R_field_34
    · refine lv_aload_n S.1 S.2.1 d_R_field_16 rfl (lv_at hl 0 rfl) ?_
      refine rx_get S hw (j := 2) (v := .ref (bKind b)) (by decide) tb_355 rfl rfl d_R_field_17 ?_
      refine lv_aload_n S.1 S.2.1 d_R_field_20 rfl (lv_at hl 0 rfl) ?_
      refine rx_get S hw (j := 11) (v := .ref (bReg b)) (by decide) tb_364 rfl rfl d_R_field_21 ?_
      refine lv_iload_n S.1 S.2.1 d_R_field_24 rfl (lv_at hl 1 rfl) ?_
      refine rx_ldReg S hw (i := r) (in8 c_1) d_R_field_25 ?_
      refine lv_iconst (v := 1) S.1 S.2.1 d_R_field_26 (by decide) ?_
      refine lv_isub S.1 S.2.1 d_R_field_27 ?_
      refine rx_ldKind S hw (i := (rReg ρ (r).toNatClampNeg) - 1) (ri_in hok c_1 c_2) d_R_field_28 ?_
      refine lv_iconst (v := 1) S.1 S.2.1 d_R_field_29 (by decide) ?_
      refine lv_icmp_eq (tgt := 35) S.1 S.2.1 d_R_field_30 (by decide) (fun c_3 => ?_) (fun c_3 => ?_)
      · refine lv_aload_n S.1 S.2.1 d_R_field_35 rfl (lv_at hl 0 rfl) ?_
        refine rx_get S hw (j := 11) (v := .ref (bReg b)) (by decide) tb_364 rfl rfl d_R_field_36 ?_
        refine lv_iload_n S.1 S.2.1 d_R_field_39 rfl (lv_at hl 1 rfl) ?_
        refine rx_ldReg S hw (i := r) (in8 c_1) d_R_field_40 ?_
        refine lv_iconst (v := 1) S.1 S.2.1 d_R_field_41 (by decide) ?_
        refine lv_isub S.1 S.2.1 d_R_field_42 ?_
        refine lv_istore (lv' := [(4, .int ((rReg ρ (r).toNatClampNeg) - 1)), (0, .ref (bO b)), (1, .int r), (2, .int f), (3, .int x)]) S.1 S.2.1 d_R_field_43 hl (by decide) rfl (fun ls hl => ?_)
        refine lv_iload_n S.1 S.2.1 d_R_field_45 rfl (lv_at hl 3 rfl) ?_
        refine lv_if_lt (tgt := 74) S.1 S.2.1 d_R_field_46 (by decide) (fun c_4 => ?_) (fun c_4 => ?_)
        · refine lv_iconst (v := -1) S.1 S.2.1 d_R_field_74 (by decide) ?_
          exact cx_endI S hr hlk (by first | exact absurd c_3 c_1 | exact absurd c_3 c_2 | exact absurd c_4 c_1 | exact absurd c_4 c_2 | (unfold rm_field; simp only [if_neg c_1, if_neg c_2, if_pos c_3, if_pos c_4]; done) | (unfold rm_field; simp only [if_neg c_1, if_neg c_2, if_pos c_3, if_pos c_4]; rfl) | (unfold rm_field; rfl) | rfl) d_R_field_75
        · refine lv_iload_n S.1 S.2.1 d_R_field_49 rfl (lv_at hl 3 rfl) ?_
          refine lv_iload_n S.1 S.2.1 d_R_field_50 rfl (lv_at hl 4 rfl) ?_
          refine lv_if_eq (tgt := 64) S.1 S.2.1 d_R_field_51 (by decide) (fun c_5 => ?_) (fun c_5 => ?_)
          · refine lv_aload_n S.1 S.2.1 d_R_field_64 rfl (lv_at hl 1 rfl) ?_
            refine rx_get S hw (j := 4) (v := .ref (bInts b)) (by decide) tb_357 rfl rfl d_R_field_65 ?_
            refine lv_iload S.1 S.2.1 d_R_field_68 (lv_at hl 0 rfl) ?_
            refine rx_ldInts S hw (i := (rReg ρ (r).toNatClampNeg) - 1) (ri_in hok c_1 c_2) d_R_field_70 ?_
            refine lv_icmp_lt (tgt := 76) S.1 S.2.1 d_R_field_71 (by decide) (fun c_6 => ?_) (fun c_6 => ?_)
            · refine lv_iload S.1 S.2.1 d_R_field_76 (lv_at hl 0 rfl) ?_
              refine lv_bipush (v := 16) S.1 S.2.1 d_R_field_78 (by decide) ?_
              refine lv_imul S.1 S.2.1 d_R_field_80 ?_
              refine lv_iload_n S.1 S.2.1 d_R_field_81 rfl (lv_at hl 4 rfl) ?_
              refine lv_if_eq (tgt := 89) S.1 S.2.1 d_R_field_82 (by decide) (fun c_7 => ?_) (fun c_7 => ?_)
              · refine lv_aload_n S.1 S.2.1 d_R_field_89 rfl (lv_at hl 1 rfl) ?_
                refine rx_get S hw (j := 3) (v := .ref (bRefs b)) (by decide) tb_356 rfl rfl d_R_field_90 ?_
                refine lv_iload S.1 S.2.1 d_R_field_93 (lv_at hl 0 rfl) ?_
                refine rx_ldRefs S hw (i := (rReg ρ (r).toNatClampNeg) - 1) (ri_in hok c_1 c_2) d_R_field_95 ?_
                refine lv_iload_n S.1 S.2.1 d_R_field_96 rfl (lv_at hl 3 rfl) ?_
                refine lv_iadd S.1 S.2.1 d_R_field_97 ?_
                refine lv_iadd S.1 S.2.1 d_R_field_98 ?_
                exact cx_endI S hr hlk (by first | exact absurd c_3 c_1 | exact absurd c_3 c_2 | exact absurd c_3 c_4 | exact absurd c_5 c_1 | exact absurd c_5 c_2 | exact absurd c_5 c_4 | exact absurd c_6 c_1 | exact absurd c_6 c_2 | exact absurd c_6 c_4 | exact absurd c_7 c_1 | exact absurd c_7 c_2 | exact absurd c_7 c_4 | (unfold rm_field; simp only [if_neg c_1, if_neg c_2, if_pos c_3, if_neg c_4, if_pos c_5, if_pos c_6, if_pos c_7]; done) | (unfold rm_field; simp only [if_neg c_1, if_neg c_2, if_pos c_3, if_neg c_4, if_pos c_5, if_pos c_6, if_pos c_7]; rfl) | (unfold rm_field; rfl) | rfl) d_R_field_99
              · refine lv_iload_n S.1 S.2.1 d_R_field_85 rfl (lv_at hl 3 rfl) ?_
                refine lv_goto (tgt := 98) S.1 S.2.1 d_R_field_86 (by decide) ?_
                refine lv_iadd S.1 S.2.1 d_R_field_98 ?_
                exact cx_endI S hr hlk (by first | exact absurd c_3 c_1 | exact absurd c_3 c_2 | exact absurd c_3 c_4 | exact absurd c_3 c_7 | exact absurd c_5 c_1 | exact absurd c_5 c_2 | exact absurd c_5 c_4 | exact absurd c_5 c_7 | exact absurd c_6 c_1 | exact absurd c_6 c_2 | exact absurd c_6 c_4 | exact absurd c_6 c_7 | (unfold rm_field; simp only [if_neg c_1, if_neg c_2, if_pos c_3, if_neg c_4, if_pos c_5, if_pos c_6, if_neg c_7]; done) | (unfold rm_field; simp only [if_neg c_1, if_neg c_2, if_pos c_3, if_neg c_4, if_pos c_5, if_pos c_6, if_neg c_7]; rfl) | (unfold rm_field; rfl) | rfl) d_R_field_99
            · refine lv_iconst (v := -1) S.1 S.2.1 d_R_field_74 (by decide) ?_
              exact cx_endI S hr hlk (by first | exact absurd c_3 c_1 | exact absurd c_3 c_2 | exact absurd c_3 c_4 | exact absurd c_3 c_6 | exact absurd c_5 c_1 | exact absurd c_5 c_2 | exact absurd c_5 c_4 | exact absurd c_5 c_6 | (unfold rm_field; simp only [if_neg c_1, if_neg c_2, if_pos c_3, if_neg c_4, if_pos c_5, if_neg c_6]; done) | (unfold rm_field; simp only [if_neg c_1, if_neg c_2, if_pos c_3, if_neg c_4, if_pos c_5, if_neg c_6]; rfl) | (unfold rm_field; rfl) | rfl) d_R_field_75
          · refine lv_aload_n S.1 S.2.1 d_R_field_54 rfl (lv_at hl 1 rfl) ?_
            refine rx_get S hw (j := 3) (v := .ref (bRefs b)) (by decide) tb_356 rfl rfl d_R_field_55 ?_
            refine lv_iload S.1 S.2.1 d_R_field_58 (lv_at hl 0 rfl) ?_
            refine rx_ldRefs S hw (i := (rReg ρ (r).toNatClampNeg) - 1) (ri_in hok c_1 c_2) d_R_field_60 ?_
            refine lv_goto (tgt := 71) S.1 S.2.1 d_R_field_61 (by decide) ?_
            refine lv_icmp_lt (tgt := 76) S.1 S.2.1 d_R_field_71 (by decide) (fun c_8 => ?_) (fun c_8 => ?_)
            · refine lv_iload S.1 S.2.1 d_R_field_76 (lv_at hl 0 rfl) ?_
              refine lv_bipush (v := 16) S.1 S.2.1 d_R_field_78 (by decide) ?_
              refine lv_imul S.1 S.2.1 d_R_field_80 ?_
              refine lv_iload_n S.1 S.2.1 d_R_field_81 rfl (lv_at hl 4 rfl) ?_
              refine lv_if_eq (tgt := 89) S.1 S.2.1 d_R_field_82 (by decide) (fun c_9 => ?_) (fun c_9 => ?_)
              · refine lv_aload_n S.1 S.2.1 d_R_field_89 rfl (lv_at hl 1 rfl) ?_
                refine rx_get S hw (j := 3) (v := .ref (bRefs b)) (by decide) tb_356 rfl rfl d_R_field_90 ?_
                refine lv_iload S.1 S.2.1 d_R_field_93 (lv_at hl 0 rfl) ?_
                refine rx_ldRefs S hw (i := (rReg ρ (r).toNatClampNeg) - 1) (ri_in hok c_1 c_2) d_R_field_95 ?_
                refine lv_iload_n S.1 S.2.1 d_R_field_96 rfl (lv_at hl 3 rfl) ?_
                refine lv_iadd S.1 S.2.1 d_R_field_97 ?_
                refine lv_iadd S.1 S.2.1 d_R_field_98 ?_
                exact cx_endI S hr hlk (by first | exact absurd c_3 c_1 | exact absurd c_3 c_2 | exact absurd c_3 c_4 | exact absurd c_3 c_5 | exact absurd c_8 c_1 | exact absurd c_8 c_2 | exact absurd c_8 c_4 | exact absurd c_8 c_5 | exact absurd c_9 c_1 | exact absurd c_9 c_2 | exact absurd c_9 c_4 | exact absurd c_9 c_5 | (unfold rm_field; simp only [if_neg c_1, if_neg c_2, if_pos c_3, if_neg c_4, if_neg c_5, if_pos c_8, if_pos c_9]; done) | (unfold rm_field; simp only [if_neg c_1, if_neg c_2, if_pos c_3, if_neg c_4, if_neg c_5, if_pos c_8, if_pos c_9]; rfl) | (unfold rm_field; rfl) | rfl) d_R_field_99
              · refine lv_iload_n S.1 S.2.1 d_R_field_85 rfl (lv_at hl 3 rfl) ?_
                refine lv_goto (tgt := 98) S.1 S.2.1 d_R_field_86 (by decide) ?_
                refine lv_iadd S.1 S.2.1 d_R_field_98 ?_
                exact cx_endI S hr hlk (by first | exact absurd c_3 c_1 | exact absurd c_3 c_2 | exact absurd c_3 c_4 | exact absurd c_3 c_5 | exact absurd c_3 c_9 | exact absurd c_8 c_1 | exact absurd c_8 c_2 | exact absurd c_8 c_4 | exact absurd c_8 c_5 | exact absurd c_8 c_9 | (unfold rm_field; simp only [if_neg c_1, if_neg c_2, if_pos c_3, if_neg c_4, if_neg c_5, if_pos c_8, if_neg c_9]; done) | (unfold rm_field; simp only [if_neg c_1, if_neg c_2, if_pos c_3, if_neg c_4, if_neg c_5, if_pos c_8, if_neg c_9]; rfl) | (unfold rm_field; rfl) | rfl) d_R_field_99
            · refine lv_iconst (v := -1) S.1 S.2.1 d_R_field_74 (by decide) ?_
              exact cx_endI S hr hlk (by first | exact absurd c_3 c_1 | exact absurd c_3 c_2 | exact absurd c_3 c_4 | exact absurd c_3 c_5 | exact absurd c_3 c_8 | (unfold rm_field; simp only [if_neg c_1, if_neg c_2, if_pos c_3, if_neg c_4, if_neg c_5, if_neg c_8]; done) | (unfold rm_field; simp only [if_neg c_1, if_neg c_2, if_pos c_3, if_neg c_4, if_neg c_5, if_neg c_8]; rfl) | (unfold rm_field; rfl) | rfl) d_R_field_75
      · refine lv_iconst (v := -1) S.1 S.2.1 d_R_field_33 (by decide) ?_
        exact cx_endI S hr hlk (by first | (unfold rm_field; simp only [if_neg c_1, if_neg c_2, if_neg c_3]; done) | (unfold rm_field; simp only [if_neg c_1, if_neg c_2, if_neg c_3]; rfl) | (unfold rm_field; rfl) | rfl) d_R_field_34
set_option maxHeartbeats 4000000 in
set_option maxRecDepth 100000 in
theorem c_R_hasItem (l : Launch) (D : va_G) (cs : rx_c) (b : rx_a) (k lim : Int32) (ρ : rm_S) (r i x : Int32) {ob : Nat} (hok : rm_ok ρ ob) : rx_Rd l D cs b k lim y_R_hasItem b_R_hasItem 5 (some .boolean) 1 20 [.ref (bO b), .int r, .int i, .int x] ρ (rm_hasItem ρ r i x) := by
  refine rx_startR (by decide) (Nat.le_of_ble_eq_true rfl) ?_
  intro p e R s m args below meth c A ls S hr hlk hfr hlc hw hl
  have hl : lv_has ls 5 [(0, .ref (bO b)), (1, .int r), (2, .int i), (3, .int x)] := hl
  refine lv_iload_n S.1 S.2.1 d_R_hasItem_0 rfl (lv_at hl 1 rfl) ?_
  refine cx_fn S (As := [.int r]) (rest := []) (c_R_isRegister l r) tb_423 tb_421 tb_422 tb_5 hdf_R_isRegister rfl ⟨by omega, by omega⟩ hl.1 rfl (Nat.le_of_ble_eq_true rfl) d_R_hasItem_1 ⟨Nat.zero_le _, Nat.zero_le _⟩ ?_
  refine lv_if_eq (tgt := 16) S.1 S.2.1 d_R_hasItem_4 (by decide) (fun c_1 => ?_) (fun c_1 => ?_)
  · refine lv_iconst (v := 0) S.1 S.2.1 d_R_hasItem_16 (by decide) ?_
    exact cx_endZ S hr hlk (by first | (unfold rm_hasItem; simp only [if_pos c_1]; done) | (unfold rm_hasItem; simp only [if_pos c_1]; rfl) | (unfold rm_hasItem; rfl) | rfl) (Or.inl rfl) d_R_hasItem_17
  · refine lv_aload_n S.1 S.2.1 d_R_hasItem_7 rfl (lv_at hl 0 rfl) ?_
    refine rx_get S hw (j := 11) (v := .ref (bReg b)) (by decide) tb_364 rfl rfl d_R_hasItem_8 ?_
    refine lv_iload_n S.1 S.2.1 d_R_hasItem_11 rfl (lv_at hl 1 rfl) ?_
    refine rx_ldReg S hw (i := r) (in8 c_1) d_R_hasItem_12 ?_
    refine lv_if_ne (tgt := 18) S.1 S.2.1 d_R_hasItem_13 (by decide) (fun c_2 => ?_) (fun c_2 => ?_)
    · refine lv_aload_n S.1 S.2.1 d_R_hasItem_18 rfl (lv_at hl 0 rfl) ?_
      refine rx_get S hw (j := 11) (v := .ref (bReg b)) (by decide) tb_364 rfl rfl d_R_hasItem_19 ?_
      refine lv_iload_n S.1 S.2.1 d_R_hasItem_22 rfl (lv_at hl 1 rfl) ?_
      refine rx_ldReg S hw (i := r) (in8 c_1) d_R_hasItem_23 ?_
      refine lv_iconst (v := 1) S.1 S.2.1 d_R_hasItem_24 (by decide) ?_
      refine lv_isub S.1 S.2.1 d_R_hasItem_25 ?_
      refine lv_istore (lv' := [(4, .int ((rReg ρ (r).toNatClampNeg) - 1)), (0, .ref (bO b)), (1, .int r), (2, .int i), (3, .int x)]) S.1 S.2.1 d_R_hasItem_26 hl (by decide) rfl (fun ls hl => ?_)
      refine lv_aload_n S.1 S.2.1 d_R_hasItem_28 rfl (lv_at hl 1 rfl) ?_
      refine rx_get S hw (j := 2) (v := .ref (bKind b)) (by decide) tb_355 rfl rfl d_R_hasItem_29 ?_
      refine lv_iload S.1 S.2.1 d_R_hasItem_32 (lv_at hl 0 rfl) ?_
      refine rx_ldKind S hw (i := (rReg ρ (r).toNatClampNeg) - 1) (ri_in hok c_1 c_2) d_R_hasItem_34 ?_
      refine lv_iconst (v := 2) S.1 S.2.1 d_R_hasItem_35 (by decide) ?_
      refine lv_icmp_ne (tgt := 69) S.1 S.2.1 d_R_hasItem_36 (by decide) (fun c_3 => ?_) (fun c_3 => ?_)
      · refine lv_iconst (v := 0) S.1 S.2.1 d_R_hasItem_69 (by decide) ?_
        exact cx_endZ S hr hlk (by first | (unfold rm_hasItem; simp only [if_neg c_1, if_neg c_2, if_neg c_3]; done) | (unfold rm_hasItem; simp only [if_neg c_1, if_neg c_2, if_neg c_3]; rfl) | (unfold rm_hasItem; rfl) | rfl) (Or.inl rfl) d_R_hasItem_70
      · refine lv_aload_n S.1 S.2.1 d_R_hasItem_39 rfl (lv_at hl 1 rfl) ?_
        refine rx_get S hw (j := 6) (v := .ref (bOfr b)) (by decide) tb_359 rfl rfl d_R_hasItem_40 ?_
        refine lv_iload S.1 S.2.1 d_R_hasItem_43 (lv_at hl 0 rfl) ?_
        refine rx_ldOfr S hw (i := (rReg ρ (r).toNatClampNeg) - 1) (ri_in hok c_1 c_2) d_R_hasItem_45 ?_
        refine lv_iload_n S.1 S.2.1 d_R_hasItem_46 rfl (lv_at hl 4 rfl) ?_
        refine lv_icmp_ne (tgt := 69) S.1 S.2.1 d_R_hasItem_47 (by decide) (fun c_4 => ?_) (fun c_4 => ?_)
        · refine lv_iconst (v := 0) S.1 S.2.1 d_R_hasItem_69 (by decide) ?_
          exact cx_endZ S hr hlk (by first | exact absurd c_3 c_1 | exact absurd c_3 c_2 | exact absurd c_3 c_4 | (unfold rm_hasItem; simp only [if_neg c_1, if_neg c_2, if_pos c_3, if_neg c_4]; done) | (unfold rm_hasItem; simp only [if_neg c_1, if_neg c_2, if_pos c_3, if_neg c_4]; rfl) | (unfold rm_hasItem; rfl) | rfl) (Or.inl rfl) d_R_hasItem_70
        · refine lv_iload_n S.1 S.2.1 d_R_hasItem_50 rfl (lv_at hl 3 rfl) ?_
          refine lv_if_lt (tgt := 69) S.1 S.2.1 d_R_hasItem_51 (by decide) (fun c_5 => ?_) (fun c_5 => ?_)
          · refine lv_iconst (v := 0) S.1 S.2.1 d_R_hasItem_69 (by decide) ?_
            exact cx_endZ S hr hlk (by first | exact absurd c_3 c_1 | exact absurd c_3 c_2 | exact absurd c_4 c_1 | exact absurd c_4 c_2 | exact absurd c_5 c_1 | exact absurd c_5 c_2 | (unfold rm_hasItem; simp only [if_neg c_1, if_neg c_2, if_pos c_3, if_pos c_4, if_pos c_5]; done) | (unfold rm_hasItem; simp only [if_neg c_1, if_neg c_2, if_pos c_3, if_pos c_4, if_pos c_5]; rfl) | (unfold rm_hasItem; rfl) | rfl) (Or.inl rfl) d_R_hasItem_70
          · refine lv_iload_n S.1 S.2.1 d_R_hasItem_54 rfl (lv_at hl 3 rfl) ?_
            refine lv_aload_n S.1 S.2.1 d_R_hasItem_55 rfl (lv_at hl 1 rfl) ?_
            refine rx_get S hw (j := 5) (v := .ref (bLen b)) (by decide) tb_358 rfl rfl d_R_hasItem_56 ?_
            refine lv_iload S.1 S.2.1 d_R_hasItem_59 (lv_at hl 0 rfl) ?_
            refine rx_ldLen S hw (i := (rReg ρ (r).toNatClampNeg) - 1) (ri_in hok c_1 c_2) d_R_hasItem_61 ?_
            refine lv_icmp_ge (tgt := 69) S.1 S.2.1 d_R_hasItem_62 (by decide) (fun c_6 => ?_) (fun c_6 => ?_)
            · have c_6n := i32_nlt c_6
              refine lv_iconst (v := 0) S.1 S.2.1 d_R_hasItem_69 (by decide) ?_
              exact cx_endZ S hr hlk (by first | exact absurd c_3 c_1 | exact absurd c_3 c_2 | exact absurd c_3 c_5 | exact absurd c_3 c_6n | exact absurd c_4 c_1 | exact absurd c_4 c_2 | exact absurd c_4 c_5 | exact absurd c_4 c_6n | exact absurd c_6 c_1 | exact absurd c_6 c_2 | exact absurd c_6 c_5 | exact absurd c_6 c_6n | (unfold rm_hasItem; simp only [if_neg c_1, if_neg c_2, if_pos c_3, if_pos c_4, if_neg c_5, if_pos c_6, if_neg c_6n]; done) | (unfold rm_hasItem; simp only [if_neg c_1, if_neg c_2, if_pos c_3, if_pos c_4, if_neg c_5, if_pos c_6, if_neg c_6n]; rfl) | (unfold rm_hasItem; rfl) | rfl) (Or.inl rfl) d_R_hasItem_70
            · have c_6n := i32_lt c_6
              refine lv_iconst (v := 1) S.1 S.2.1 d_R_hasItem_65 (by decide) ?_
              refine lv_goto (tgt := 70) S.1 S.2.1 d_R_hasItem_66 (by decide) ?_
              exact cx_endZ S hr hlk (by first | exact absurd c_3 c_1 | exact absurd c_3 c_2 | exact absurd c_3 c_5 | exact absurd c_3 c_6 | exact absurd c_4 c_1 | exact absurd c_4 c_2 | exact absurd c_4 c_5 | exact absurd c_4 c_6 | exact absurd c_6n c_1 | exact absurd c_6n c_2 | exact absurd c_6n c_5 | exact absurd c_6n c_6 | (unfold rm_hasItem; simp only [if_neg c_1, if_neg c_2, if_pos c_3, if_pos c_4, if_neg c_5, if_neg c_6, if_pos c_6n]; done) | (unfold rm_hasItem; simp only [if_neg c_1, if_neg c_2, if_pos c_3, if_pos c_4, if_neg c_5, if_neg c_6, if_pos c_6n]; rfl) | (unfold rm_hasItem; rfl) | rfl) (Or.inr rfl) d_R_hasItem_70
    · refine lv_iconst (v := 0) S.1 S.2.1 d_R_hasItem_16 (by decide) ?_
      exact cx_endZ S hr hlk (by first | exact absurd c_2 c_1 | (unfold rm_hasItem; simp only [if_neg c_1, if_pos c_2]; done) | (unfold rm_hasItem; simp only [if_neg c_1, if_pos c_2]; rfl) | (unfold rm_hasItem; rfl) | rfl) (Or.inl rfl) d_R_hasItem_17
set_option maxHeartbeats 4000000 in
set_option maxRecDepth 100000 in
theorem c_R_get (l : Launch) (D : va_G) (cs : rx_c) (b : rx_a) (k lim : Int32) (ρ : rm_S) (t o f : Int32) {ob : Nat} (hok : rm_ok ρ ob) : rx_Met l D cs b k lim y_R_get b_R_get 5 (some .boolean) 2 44 [.ref (bO b), .int t, .int o, .int f] ρ (some (.int ((rm_get ρ t o f).1))) ((rm_get ρ t o f).2) := by
  refine rx_start (by decide) (Nat.le_of_ble_eq_true rfl) ?_
  intro p e R s m args below meth c A ls S hr hlk hfr hlc hw hl
  have hl : lv_has ls 5 [(0, .ref (bO b)), (1, .int t), (2, .int o), (3, .int f)] := hl
  refine lv_aload_n S.1 S.2.1 d_R_get_0 rfl (lv_at hl 0 rfl) ?_
  refine lv_iload_n S.1 S.2.1 d_R_get_1 rfl (lv_at hl 2 rfl) ?_
  refine lv_iload_n S.1 S.2.1 d_R_get_2 rfl (lv_at hl 3 rfl) ?_
  refine lv_iconst (v := 1) S.1 S.2.1 d_R_get_3 (by decide) ?_
  refine rx_rd S hw (As := [.int o, .int f, .int 1]) (rest := []) (c_R_field l D cs b k lim ρ o f 1 hok) tb_462 tb_459 tb_461 tp_19 tb_5 hd_R_field rfl ⟨by omega, by omega⟩ hl.1 rfl (Nat.le_of_ble_eq_true rfl) d_R_get_4 ?_
  refine lv_istore (lv' := [(4, .int (rm_field ρ o f 1)), (0, .ref (bO b)), (1, .int t), (2, .int o), (3, .int f)]) S.1 S.2.1 d_R_get_7 hl (by decide) rfl (fun ls hl => ?_)
  refine lv_iload_n S.1 S.2.1 d_R_get_9 rfl (lv_at hl 2 rfl) ?_
  refine cx_fn S (As := [.int t]) (rest := []) (c_R_isRegister l t) tb_423 tb_421 tb_422 tb_5 hdf_R_isRegister rfl ⟨by omega, by omega⟩ hl.1 rfl (Nat.le_of_ble_eq_true rfl) d_R_get_10 ⟨Nat.zero_le _, Nat.zero_le _⟩ ?_
  refine lv_if_eq (tgt := 22) S.1 S.2.1 d_R_get_13 (by decide) (fun c_1 => ?_) (fun c_1 => ?_)
  · refine lv_iconst (v := 0) S.1 S.2.1 d_R_get_22 (by decide) ?_
    exact rx_retZ S hr hlk hw (by first | (unfold rm_get; simp only [if_pos c_1]; done) | (unfold rm_get; simp only [if_pos c_1]; rfl) | (unfold rm_get; rfl) | rfl) (Or.inl rfl) (by first | (unfold rm_get; simp only [if_pos c_1]; done) | (unfold rm_get; simp only [if_pos c_1]; rfl) | (unfold rm_get; rfl) | rfl) d_R_get_23
  · refine lv_iload S.1 S.2.1 d_R_get_16 (lv_at hl 0 rfl) ?_
    refine lv_iconst (v := -1) S.1 S.2.1 d_R_get_18 (by decide) ?_
    refine lv_icmp_ne (tgt := 24) S.1 S.2.1 d_R_get_19 (by decide) (fun c_2 => ?_) (fun c_2 => ?_)
    · refine lv_aload_n S.1 S.2.1 d_R_get_24 rfl (lv_at hl 1 rfl) ?_
      refine rx_get S hw (j := 11) (v := .ref (bReg b)) (by decide) tb_364 rfl rfl d_R_get_25 ?_
      refine lv_iload_n S.1 S.2.1 d_R_get_28 rfl (lv_at hl 2 rfl) ?_
      refine lv_aload_n S.1 S.2.1 d_R_get_29 rfl (lv_at hl 1 rfl) ?_
      refine rx_get S hw (j := 7) (v := .ref (bRow b)) (by decide) tb_360 rfl rfl d_R_get_30 ?_
      refine lv_iload S.1 S.2.1 d_R_get_33 (lv_at hl 0 rfl) ?_
      refine rx_ldRow S hw (i := rm_field ρ o f 1) (ri_field hok c_2) d_R_get_35 ?_
      refine rx_stReg S hw (i := t) (x := rRow ρ (rm_field ρ o f 1).toNatClampNeg) (in8 c_1) d_R_get_36 (fun H locs hw => ?_)
      refine lv_iconst (v := 1) S.1 S.2.1 d_R_get_37 (by decide) ?_
      exact rx_retZ S hr hlk hw (by first | (unfold rm_get; simp only [if_neg c_1, if_neg c_2]; done) | (unfold rm_get; simp only [if_neg c_1, if_neg c_2]; rfl) | (unfold rm_get; rfl) | rfl) (Or.inr rfl) (by first | (unfold rm_get; simp only [if_neg c_1, if_neg c_2]; done) | (unfold rm_get; simp only [if_neg c_1, if_neg c_2]; rfl) | (unfold rm_get; rfl) | rfl) d_R_get_38
    · refine lv_iconst (v := 0) S.1 S.2.1 d_R_get_22 (by decide) ?_
      exact rx_retZ S hr hlk hw (by first | exact absurd c_2 c_1 | (unfold rm_get; simp only [if_neg c_1, if_pos c_2]; done) | (unfold rm_get; simp only [if_neg c_1, if_pos c_2]; rfl) | (unfold rm_get; rfl) | rfl) (Or.inl rfl) (by first | exact absurd c_2 c_1 | (unfold rm_get; simp only [if_neg c_1, if_pos c_2]; done) | (unfold rm_get; simp only [if_neg c_1, if_pos c_2]; rfl) | (unfold rm_get; rfl) | rfl) d_R_get_23
set_option maxHeartbeats 4000000 in
set_option maxRecDepth 100000 in
theorem c_R_put (l : Launch) (D : va_G) (cs : rx_c) (b : rx_a) (k lim : Int32) (ρ : rm_S) (o f r : Int32) {ob : Nat} (hok : rm_ok ρ ob) : rx_Met l D cs b k lim y_R_put b_R_put 5 (some .boolean) 2 44 [.ref (bO b), .int o, .int f, .int r] ρ (some (.int ((rm_put ρ o f r).1))) ((rm_put ρ o f r).2) := by
  refine rx_start (by decide) (Nat.le_of_ble_eq_true rfl) ?_
  intro p e R s m args below meth c A ls S hr hlk hfr hlc hw hl
  have hl : lv_has ls 5 [(0, .ref (bO b)), (1, .int o), (2, .int f), (3, .int r)] := hl
  refine lv_aload_n S.1 S.2.1 d_R_put_0 rfl (lv_at hl 0 rfl) ?_
  refine lv_iload_n S.1 S.2.1 d_R_put_1 rfl (lv_at hl 1 rfl) ?_
  refine lv_iload_n S.1 S.2.1 d_R_put_2 rfl (lv_at hl 2 rfl) ?_
  refine lv_iconst (v := 1) S.1 S.2.1 d_R_put_3 (by decide) ?_
  refine rx_rd S hw (As := [.int o, .int f, .int 1]) (rest := []) (c_R_field l D cs b k lim ρ o f 1 hok) tb_462 tb_459 tb_461 tp_19 tb_5 hd_R_field rfl ⟨by omega, by omega⟩ hl.1 rfl (Nat.le_of_ble_eq_true rfl) d_R_put_4 ?_
  refine lv_istore (lv' := [(4, .int (rm_field ρ o f 1)), (0, .ref (bO b)), (1, .int o), (2, .int f), (3, .int r)]) S.1 S.2.1 d_R_put_7 hl (by decide) rfl (fun ls hl => ?_)
  refine lv_iload_n S.1 S.2.1 d_R_put_9 rfl (lv_at hl 4 rfl) ?_
  refine cx_fn S (As := [.int r]) (rest := []) (c_R_isRegister l r) tb_423 tb_421 tb_422 tb_5 hdf_R_isRegister rfl ⟨by omega, by omega⟩ hl.1 rfl (Nat.le_of_ble_eq_true rfl) d_R_put_10 ⟨Nat.zero_le _, Nat.zero_le _⟩ ?_
  refine lv_if_eq (tgt := 22) S.1 S.2.1 d_R_put_13 (by decide) (fun c_1 => ?_) (fun c_1 => ?_)
  · refine lv_iconst (v := 0) S.1 S.2.1 d_R_put_22 (by decide) ?_
    exact rx_retZ S hr hlk hw (by first | (unfold rm_put; simp only [if_pos c_1]; done) | (unfold rm_put; simp only [if_pos c_1]; rfl) | (unfold rm_put; rfl) | rfl) (Or.inl rfl) (by first | (unfold rm_put; simp only [if_pos c_1]; done) | (unfold rm_put; simp only [if_pos c_1]; rfl) | (unfold rm_put; rfl) | rfl) d_R_put_23
  · refine lv_iload S.1 S.2.1 d_R_put_16 (lv_at hl 0 rfl) ?_
    refine lv_iconst (v := -1) S.1 S.2.1 d_R_put_18 (by decide) ?_
    refine lv_icmp_ne (tgt := 24) S.1 S.2.1 d_R_put_19 (by decide) (fun c_2 => ?_) (fun c_2 => ?_)
    · refine lv_aload_n S.1 S.2.1 d_R_put_24 rfl (lv_at hl 1 rfl) ?_
      refine rx_get S hw (j := 7) (v := .ref (bRow b)) (by decide) tb_360 rfl rfl d_R_put_25 ?_
      refine lv_iload S.1 S.2.1 d_R_put_28 (lv_at hl 0 rfl) ?_
      refine lv_aload_n S.1 S.2.1 d_R_put_30 rfl (lv_at hl 1 rfl) ?_
      refine rx_get S hw (j := 11) (v := .ref (bReg b)) (by decide) tb_364 rfl rfl d_R_put_31 ?_
      refine lv_iload_n S.1 S.2.1 d_R_put_34 rfl (lv_at hl 4 rfl) ?_
      refine rx_ldReg S hw (i := r) (in8 c_1) d_R_put_35 ?_
      refine rx_stRow S hw (i := rm_field ρ o f 1) (x := rReg ρ (r).toNatClampNeg) (ri_field hok c_2) d_R_put_36 (fun H locs hw => ?_)
      refine lv_iconst (v := 1) S.1 S.2.1 d_R_put_37 (by decide) ?_
      exact rx_retZ S hr hlk hw (by first | (unfold rm_put; simp only [if_neg c_1, if_neg c_2]; done) | (unfold rm_put; simp only [if_neg c_1, if_neg c_2]; rfl) | (unfold rm_put; rfl) | rfl) (Or.inr rfl) (by first | (unfold rm_put; simp only [if_neg c_1, if_neg c_2]; done) | (unfold rm_put; simp only [if_neg c_1, if_neg c_2]; rfl) | (unfold rm_put; rfl) | rfl) d_R_put_38
    · refine lv_iconst (v := 0) S.1 S.2.1 d_R_put_22 (by decide) ?_
      exact rx_retZ S hr hlk hw (by first | exact absurd c_2 c_1 | (unfold rm_put; simp only [if_neg c_1, if_pos c_2]; done) | (unfold rm_put; simp only [if_neg c_1, if_pos c_2]; rfl) | (unfold rm_put; rfl) | rfl) (Or.inl rfl) (by first | exact absurd c_2 c_1 | (unfold rm_put; simp only [if_neg c_1, if_pos c_2]; done) | (unfold rm_put; simp only [if_neg c_1, if_pos c_2]; rfl) | (unfold rm_put; rfl) | rfl) d_R_put_23
set_option maxHeartbeats 4000000 in
set_option maxRecDepth 100000 in
theorem c_R_look (l : Launch) (D : va_G) (cs : rx_c) (b : rx_a) (k lim : Int32) (ρ : rm_S) (o f : Int32) {ob : Nat} (hok : rm_ok ρ ob) : rx_Met l D cs b k lim y_R_look b_R_look 4 (some .long) 2 44 [.ref (bO b), .int o, .int f] ρ (some (.long (rm_look ρ o f))) (ρ) := by
  refine rx_start (by decide) (Nat.le_of_ble_eq_true rfl) ?_
  intro p e R s m args below meth c A ls S hr hlk hfr hlc hw hl
  have hl : lv_has ls 4 [(0, .ref (bO b)), (1, .int o), (2, .int f)] := hl
  refine lv_aload_n S.1 S.2.1 d_R_look_0 rfl (lv_at hl 0 rfl) ?_
  refine lv_iload_n S.1 S.2.1 d_R_look_1 rfl (lv_at hl 1 rfl) ?_
  refine lv_iload_n S.1 S.2.1 d_R_look_2 rfl (lv_at hl 2 rfl) ?_
  refine lv_iconst (v := 0) S.1 S.2.1 d_R_look_3 (by decide) ?_
  refine rx_rd S hw (As := [.int o, .int f, .int 0]) (rest := []) (c_R_field l D cs b k lim ρ o f 0 hok) tb_462 tb_459 tb_461 tp_19 tb_5 hd_R_field rfl ⟨by omega, by omega⟩ hl.1 rfl (Nat.le_of_ble_eq_true rfl) d_R_look_4 ?_
  refine lv_istore_n (lv' := [(3, .int (rm_field ρ o f 0)), (0, .ref (bO b)), (1, .int o), (2, .int f)]) S.1 S.2.1 d_R_look_7 rfl hl (by decide) rfl (fun ls hl => ?_)
  refine lv_iload_n S.1 S.2.1 d_R_look_8 rfl (lv_at hl 0 rfl) ?_
  refine lv_iconst (v := -1) S.1 S.2.1 d_R_look_9 (by decide) ?_
  refine lv_icmp_ne (tgt := 19) S.1 S.2.1 d_R_look_10 (by decide) (fun c_1 => ?_) (fun c_1 => ?_)
  · refine lv_aload_n S.1 S.2.1 d_R_look_19 rfl (lv_at hl 1 rfl) ?_
    refine rx_get S hw (j := 7) (v := .ref (bRow b)) (by decide) tb_360 rfl rfl d_R_look_20 ?_
    refine lv_iload_n S.1 S.2.1 d_R_look_23 rfl (lv_at hl 0 rfl) ?_
    refine rx_ldRow S hw (i := rm_field ρ o f 0) (ri_field hok c_1) d_R_look_24 ?_
    refine lv_i2l S.1 S.2.1 d_R_look_25 rfl ?_
    exact rx_retL S hr hlk hw (by first | (unfold rm_look; simp only [if_neg c_1]; done) | (unfold rm_look; simp only [if_neg c_1]; rfl) | (unfold rm_look; rfl) | rfl) (by first | (unfold rm_look; simp only [if_neg c_1]; done) | (unfold rm_look; simp only [if_neg c_1]; rfl) | (unfold rm_look; rfl) | rfl) d_R_look_26
  · refine lv_ldc2 (v := -9223372036854775808) S.1 S.2.1 S.2.2.2.1 (S.2.2.2.2 _ (List.mem_cons_of_mem _ tb_471)) d_R_look_13 ?_
    refine lv_goto (tgt := 26) S.1 S.2.1 d_R_look_16 (by decide) ?_
    exact rx_retL S hr hlk hw (by first | (unfold rm_look; simp only [if_pos c_1]; done) | (unfold rm_look; simp only [if_pos c_1]; rfl) | (unfold rm_look; rfl) | rfl) (by first | (unfold rm_look; simp only [if_pos c_1]; done) | (unfold rm_look; simp only [if_pos c_1]; rfl) | (unfold rm_look; rfl) | rfl) d_R_look_26
set_option maxHeartbeats 4000000 in
set_option maxRecDepth 100000 in
theorem c_R_set (l : Launch) (D : va_G) (cs : rx_c) (b : rx_a) (k lim : Int32) (ρ : rm_S) (o f v : Int32) {ob : Nat} (hok : rm_ok ρ ob) : rx_Met l D cs b k lim y_R_set b_R_set 5 (some .boolean) 2 44 [.ref (bO b), .int o, .int f, .int v] ρ (some (.int ((rm_set ρ o f v).1))) ((rm_set ρ o f v).2) := by
  refine rx_start (by decide) (Nat.le_of_ble_eq_true rfl) ?_
  intro p e R s m args below meth c A ls S hr hlk hfr hlc hw hl
  have hl : lv_has ls 5 [(0, .ref (bO b)), (1, .int o), (2, .int f), (3, .int v)] := hl
  refine lv_aload_n S.1 S.2.1 d_R_set_0 rfl (lv_at hl 0 rfl) ?_
  refine lv_iload_n S.1 S.2.1 d_R_set_1 rfl (lv_at hl 1 rfl) ?_
  refine lv_iload_n S.1 S.2.1 d_R_set_2 rfl (lv_at hl 2 rfl) ?_
  refine lv_iconst (v := 0) S.1 S.2.1 d_R_set_3 (by decide) ?_
  refine rx_rd S hw (As := [.int o, .int f, .int 0]) (rest := []) (c_R_field l D cs b k lim ρ o f 0 hok) tb_462 tb_459 tb_461 tp_19 tb_5 hd_R_field rfl ⟨by omega, by omega⟩ hl.1 rfl (Nat.le_of_ble_eq_true rfl) d_R_set_4 ?_
  refine lv_istore (lv' := [(4, .int (rm_field ρ o f 0)), (0, .ref (bO b)), (1, .int o), (2, .int f), (3, .int v)]) S.1 S.2.1 d_R_set_7 hl (by decide) rfl (fun ls hl => ?_)
  refine lv_iload S.1 S.2.1 d_R_set_9 (lv_at hl 0 rfl) ?_
  refine lv_iconst (v := -1) S.1 S.2.1 d_R_set_11 (by decide) ?_
  refine lv_icmp_ne (tgt := 17) S.1 S.2.1 d_R_set_12 (by decide) (fun c_1 => ?_) (fun c_1 => ?_)
  · refine lv_aload_n S.1 S.2.1 d_R_set_17 rfl (lv_at hl 1 rfl) ?_
    refine rx_get S hw (j := 7) (v := .ref (bRow b)) (by decide) tb_360 rfl rfl d_R_set_18 ?_
    refine lv_iload S.1 S.2.1 d_R_set_21 (lv_at hl 0 rfl) ?_
    refine lv_iload_n S.1 S.2.1 d_R_set_23 rfl (lv_at hl 4 rfl) ?_
    refine rx_stRow S hw (i := rm_field ρ o f 0) (x := v) (ri_field hok c_1) d_R_set_24 (fun H locs hw => ?_)
    refine lv_iconst (v := 1) S.1 S.2.1 d_R_set_25 (by decide) ?_
    exact rx_retZ S hr hlk hw (by first | (unfold rm_set; simp only [if_neg c_1]; done) | (unfold rm_set; simp only [if_neg c_1]; rfl) | (unfold rm_set; rfl) | rfl) (Or.inr rfl) (by first | (unfold rm_set; simp only [if_neg c_1]; done) | (unfold rm_set; simp only [if_neg c_1]; rfl) | (unfold rm_set; rfl) | rfl) d_R_set_26
  · refine lv_iconst (v := 0) S.1 S.2.1 d_R_set_15 (by decide) ?_
    exact rx_retZ S hr hlk hw (by first | (unfold rm_set; simp only [if_pos c_1]; done) | (unfold rm_set; simp only [if_pos c_1]; rfl) | (unfold rm_set; rfl) | rfl) (Or.inl rfl) (by first | (unfold rm_set; simp only [if_pos c_1]; done) | (unfold rm_set; simp only [if_pos c_1]; rfl) | (unfold rm_set; rfl) | rfl) d_R_set_16
set_option maxHeartbeats 4000000 in
set_option maxRecDepth 100000 in
theorem c_R_copy (l : Launch) (D : va_G) (cs : rx_c) (b : rx_a) (k lim : Int32) (ρ : rm_S) (t r : Int32) : rx_Met l D cs b k lim y_R_copy b_R_copy 3 (some .boolean) 1 20 [.ref (bO b), .int t, .int r] ρ (some (.int ((rm_copy ρ t r).1))) ((rm_copy ρ t r).2) := by
  refine rx_start (by decide) (Nat.le_of_ble_eq_true rfl) ?_
  intro p e R s m args below meth c A ls S hr hlk hfr hlc hw hl
  have hl : lv_has ls 3 [(0, .ref (bO b)), (1, .int t), (2, .int r)] := hl
  refine lv_iload_n S.1 S.2.1 d_R_copy_0 rfl (lv_at hl 1 rfl) ?_
  refine cx_fn S (As := [.int t]) (rest := []) (c_R_isRegister l t) tb_423 tb_421 tb_422 tb_5 hdf_R_isRegister rfl ⟨by omega, by omega⟩ hl.1 rfl (Nat.le_of_ble_eq_true rfl) d_R_copy_1 ⟨Nat.zero_le _, Nat.zero_le _⟩ ?_
  refine lv_if_eq (tgt := 14) S.1 S.2.1 d_R_copy_4 (by decide) (fun c_1 => ?_) (fun c_1 => ?_)
  · refine lv_iconst (v := 0) S.1 S.2.1 d_R_copy_14 (by decide) ?_
    exact rx_retZ S hr hlk hw (by first | (unfold rm_copy; simp only [if_pos c_1]; done) | (unfold rm_copy; simp only [if_pos c_1]; rfl) | (unfold rm_copy; rfl) | rfl) (Or.inl rfl) (by first | (unfold rm_copy; simp only [if_pos c_1]; done) | (unfold rm_copy; simp only [if_pos c_1]; rfl) | (unfold rm_copy; rfl) | rfl) d_R_copy_15
  · refine lv_iload_n S.1 S.2.1 d_R_copy_7 rfl (lv_at hl 2 rfl) ?_
    refine cx_fn S (As := [.int r]) (rest := []) (c_R_isRegister l r) tb_423 tb_421 tb_422 tb_5 hdf_R_isRegister rfl ⟨by omega, by omega⟩ hl.1 rfl (Nat.le_of_ble_eq_true rfl) d_R_copy_8 ⟨Nat.zero_le _, Nat.zero_le _⟩ ?_
    refine lv_if_ne (tgt := 16) S.1 S.2.1 d_R_copy_11 (by decide) (fun c_2 => ?_) (fun c_2 => ?_)
    · refine lv_aload_n S.1 S.2.1 d_R_copy_16 rfl (lv_at hl 0 rfl) ?_
      refine rx_get S hw (j := 11) (v := .ref (bReg b)) (by decide) tb_364 rfl rfl d_R_copy_17 ?_
      refine lv_iload_n S.1 S.2.1 d_R_copy_20 rfl (lv_at hl 1 rfl) ?_
      refine lv_aload_n S.1 S.2.1 d_R_copy_21 rfl (lv_at hl 0 rfl) ?_
      refine rx_get S hw (j := 11) (v := .ref (bReg b)) (by decide) tb_364 rfl rfl d_R_copy_22 ?_
      refine lv_iload_n S.1 S.2.1 d_R_copy_25 rfl (lv_at hl 2 rfl) ?_
      refine rx_ldReg S hw (i := r) (in8 c_2) d_R_copy_26 ?_
      refine rx_stReg S hw (i := t) (x := rReg ρ (r).toNatClampNeg) (in8 c_1) d_R_copy_27 (fun H locs hw => ?_)
      refine lv_iconst (v := 1) S.1 S.2.1 d_R_copy_28 (by decide) ?_
      exact rx_retZ S hr hlk hw (by first | (unfold rm_copy; simp only [if_neg c_1, if_neg c_2]; done) | (unfold rm_copy; simp only [if_neg c_1, if_neg c_2]; rfl) | (unfold rm_copy; rfl) | rfl) (Or.inr rfl) (by first | (unfold rm_copy; simp only [if_neg c_1, if_neg c_2]; done) | (unfold rm_copy; simp only [if_neg c_1, if_neg c_2]; rfl) | (unfold rm_copy; rfl) | rfl) d_R_copy_29
    · refine lv_iconst (v := 0) S.1 S.2.1 d_R_copy_14 (by decide) ?_
      exact rx_retZ S hr hlk hw (by first | exact absurd c_2 c_1 | (unfold rm_copy; simp only [if_neg c_1, if_pos c_2]; done) | (unfold rm_copy; simp only [if_neg c_1, if_pos c_2]; rfl) | (unfold rm_copy; rfl) | rfl) (Or.inl rfl) (by first | exact absurd c_2 c_1 | (unfold rm_copy; simp only [if_neg c_1, if_pos c_2]; done) | (unfold rm_copy; simp only [if_neg c_1, if_pos c_2]; rfl) | (unfold rm_copy; rfl) | rfl) d_R_copy_15
set_option maxHeartbeats 4000000 in
set_option maxRecDepth 100000 in
theorem c_R_drop (l : Launch) (D : va_G) (cs : rx_c) (b : rx_a) (k lim : Int32) (ρ : rm_S) (r : Int32) : rx_Met l D cs b k lim y_R_drop b_R_drop 2 (some .boolean) 1 20 [.ref (bO b), .int r] ρ (some (.int ((rm_drop ρ r).1))) ((rm_drop ρ r).2) := by
  refine rx_start (by decide) (Nat.le_of_ble_eq_true rfl) ?_
  intro p e R s m args below meth c A ls S hr hlk hfr hlc hw hl
  have hl : lv_has ls 2 [(0, .ref (bO b)), (1, .int r)] := hl
  refine lv_iload_n S.1 S.2.1 d_R_drop_0 rfl (lv_at hl 1 rfl) ?_
  refine cx_fn S (As := [.int r]) (rest := []) (c_R_isRegister l r) tb_423 tb_421 tb_422 tb_5 hdf_R_isRegister rfl ⟨by omega, by omega⟩ hl.1 rfl (Nat.le_of_ble_eq_true rfl) d_R_drop_1 ⟨Nat.zero_le _, Nat.zero_le _⟩ ?_
  refine lv_if_eq (tgt := 16) S.1 S.2.1 d_R_drop_4 (by decide) (fun c_1 => ?_) (fun c_1 => ?_)
  · refine lv_iconst (v := 0) S.1 S.2.1 d_R_drop_16 (by decide) ?_
    exact rx_retZ S hr hlk hw (by first | (unfold rm_drop; simp only [if_pos c_1]; done) | (unfold rm_drop; simp only [if_pos c_1]; rfl) | (unfold rm_drop; rfl) | rfl) (Or.inl rfl) (by first | (unfold rm_drop; simp only [if_pos c_1]; done) | (unfold rm_drop; simp only [if_pos c_1]; rfl) | (unfold rm_drop; rfl) | rfl) d_R_drop_17
  · refine lv_aload_n S.1 S.2.1 d_R_drop_7 rfl (lv_at hl 0 rfl) ?_
    refine rx_get S hw (j := 11) (v := .ref (bReg b)) (by decide) tb_364 rfl rfl d_R_drop_8 ?_
    refine lv_iload_n S.1 S.2.1 d_R_drop_11 rfl (lv_at hl 1 rfl) ?_
    refine rx_ldReg S hw (i := r) (in8 c_1) d_R_drop_12 ?_
    refine lv_if_ne (tgt := 18) S.1 S.2.1 d_R_drop_13 (by decide) (fun c_2 => ?_) (fun c_2 => ?_)
    · refine lv_aload_n S.1 S.2.1 d_R_drop_18 rfl (lv_at hl 0 rfl) ?_
      refine rx_get S hw (j := 11) (v := .ref (bReg b)) (by decide) tb_364 rfl rfl d_R_drop_19 ?_
      refine lv_iload_n S.1 S.2.1 d_R_drop_22 rfl (lv_at hl 1 rfl) ?_
      refine lv_iconst (v := 0) S.1 S.2.1 d_R_drop_23 (by decide) ?_
      refine rx_stReg S hw (i := r) (x := 0) (in8 c_1) d_R_drop_24 (fun H locs hw => ?_)
      refine lv_iconst (v := 1) S.1 S.2.1 d_R_drop_25 (by decide) ?_
      exact rx_retZ S hr hlk hw (by first | (unfold rm_drop; simp only [if_neg c_1, if_neg c_2]; done) | (unfold rm_drop; simp only [if_neg c_1, if_neg c_2]; rfl) | (unfold rm_drop; rfl) | rfl) (Or.inr rfl) (by first | (unfold rm_drop; simp only [if_neg c_1, if_neg c_2]; done) | (unfold rm_drop; simp only [if_neg c_1, if_neg c_2]; rfl) | (unfold rm_drop; rfl) | rfl) d_R_drop_26
    · refine lv_iconst (v := 0) S.1 S.2.1 d_R_drop_16 (by decide) ?_
      exact rx_retZ S hr hlk hw (by first | exact absurd c_2 c_1 | (unfold rm_drop; simp only [if_neg c_1, if_pos c_2]; done) | (unfold rm_drop; simp only [if_neg c_1, if_pos c_2]; rfl) | (unfold rm_drop; rfl) | rfl) (Or.inl rfl) (by first | exact absurd c_2 c_1 | (unfold rm_drop; simp only [if_neg c_1, if_pos c_2]; done) | (unfold rm_drop; simp only [if_neg c_1, if_pos c_2]; rfl) | (unfold rm_drop; rfl) | rfl) d_R_drop_17
set_option maxHeartbeats 4000000 in
set_option maxRecDepth 100000 in
theorem c_R_same (l : Launch) (D : va_G) (cs : rx_c) (b : rx_a) (k lim : Int32) (ρ : rm_S) (x y : Int32) : rx_Rd l D cs b k lim y_R_same b_R_same 3 (some .boolean) 1 20 [.ref (bO b), .int x, .int y] ρ (rm_same ρ x y) := by
  refine rx_startR (by decide) (Nat.le_of_ble_eq_true rfl) ?_
  intro p e R s m args below meth c A ls S hr hlk hfr hlc hw hl
  have hl : lv_has ls 3 [(0, .ref (bO b)), (1, .int x), (2, .int y)] := hl
  refine lv_iload_n S.1 S.2.1 d_R_same_0 rfl (lv_at hl 1 rfl) ?_
  refine cx_fn S (As := [.int x]) (rest := []) (c_R_isRegister l x) tb_423 tb_421 tb_422 tb_5 hdf_R_isRegister rfl ⟨by omega, by omega⟩ hl.1 rfl (Nat.le_of_ble_eq_true rfl) d_R_same_1 ⟨Nat.zero_le _, Nat.zero_le _⟩ ?_
  refine lv_if_eq (tgt := 33) S.1 S.2.1 d_R_same_4 (by decide) (fun c_1 => ?_) (fun c_1 => ?_)
  · refine lv_iconst (v := 0) S.1 S.2.1 d_R_same_33 (by decide) ?_
    exact cx_endZ S hr hlk (by first | (unfold rm_same; simp only [if_pos c_1]; done) | (unfold rm_same; simp only [if_pos c_1]; rfl) | (unfold rm_same; rfl) | rfl) (Or.inl rfl) d_R_same_34
  · refine lv_iload_n S.1 S.2.1 d_R_same_7 rfl (lv_at hl 2 rfl) ?_
    refine cx_fn S (As := [.int y]) (rest := []) (c_R_isRegister l y) tb_423 tb_421 tb_422 tb_5 hdf_R_isRegister rfl ⟨by omega, by omega⟩ hl.1 rfl (Nat.le_of_ble_eq_true rfl) d_R_same_8 ⟨Nat.zero_le _, Nat.zero_le _⟩ ?_
    refine lv_if_eq (tgt := 33) S.1 S.2.1 d_R_same_11 (by decide) (fun c_2 => ?_) (fun c_2 => ?_)
    · refine lv_iconst (v := 0) S.1 S.2.1 d_R_same_33 (by decide) ?_
      exact cx_endZ S hr hlk (by first | exact absurd c_2 c_1 | (unfold rm_same; simp only [if_neg c_1, if_pos c_2]; done) | (unfold rm_same; simp only [if_neg c_1, if_pos c_2]; rfl) | (unfold rm_same; rfl) | rfl) (Or.inl rfl) d_R_same_34
    · refine lv_aload_n S.1 S.2.1 d_R_same_14 rfl (lv_at hl 0 rfl) ?_
      refine rx_get S hw (j := 11) (v := .ref (bReg b)) (by decide) tb_364 rfl rfl d_R_same_15 ?_
      refine lv_iload_n S.1 S.2.1 d_R_same_18 rfl (lv_at hl 1 rfl) ?_
      refine rx_ldReg S hw (i := x) (in8 c_1) d_R_same_19 ?_
      refine lv_aload_n S.1 S.2.1 d_R_same_20 rfl (lv_at hl 0 rfl) ?_
      refine rx_get S hw (j := 11) (v := .ref (bReg b)) (by decide) tb_364 rfl rfl d_R_same_21 ?_
      refine lv_iload_n S.1 S.2.1 d_R_same_24 rfl (lv_at hl 2 rfl) ?_
      refine rx_ldReg S hw (i := y) (in8 c_2) d_R_same_25 ?_
      refine lv_icmp_ne (tgt := 33) S.1 S.2.1 d_R_same_26 (by decide) (fun c_3 => ?_) (fun c_3 => ?_)
      · refine lv_iconst (v := 0) S.1 S.2.1 d_R_same_33 (by decide) ?_
        exact cx_endZ S hr hlk (by first | (unfold rm_same; simp only [if_neg c_1, if_neg c_2, if_neg c_3]; done) | (unfold rm_same; simp only [if_neg c_1, if_neg c_2, if_neg c_3]; rfl) | (unfold rm_same; rfl) | rfl) (Or.inl rfl) d_R_same_34
      · refine lv_iconst (v := 1) S.1 S.2.1 d_R_same_29 (by decide) ?_
        refine lv_goto (tgt := 34) S.1 S.2.1 d_R_same_30 (by decide) ?_
        exact cx_endZ S hr hlk (by first | exact absurd c_3 c_1 | exact absurd c_3 c_2 | (unfold rm_same; simp only [if_neg c_1, if_neg c_2, if_pos c_3]; done) | (unfold rm_same; simp only [if_neg c_1, if_neg c_2, if_pos c_3]; rfl) | (unfold rm_same; rfl) | rfl) (Or.inr rfl) d_R_same_34
set_option maxHeartbeats 4000000 in
set_option maxRecDepth 100000 in
theorem c_R_size (l : Launch) (D : va_G) (cs : rx_c) (b : rx_a) (k lim : Int32) (ρ : rm_S) (r w : Int32) {ob : Nat} (hok : rm_ok ρ ob) : rx_Rd l D cs b k lim y_R_size b_R_size 5 (some .int) 1 21 [.ref (bO b), .int r, .int w] ρ (rm_size ρ r w) := by
  refine rx_startR (by decide) (Nat.le_of_ble_eq_true rfl) ?_
  intro p e R s m args below meth c A ls S hr hlk hfr hlc hw hl
  have hl : lv_has ls 5 [(0, .ref (bO b)), (1, .int r), (2, .int w)] := hl
  refine lv_iload_n S.1 S.2.1 d_R_size_0 rfl (lv_at hl 1 rfl) ?_
  refine cx_fn S (As := [.int r]) (rest := []) (c_R_isRegister l r) tb_423 tb_421 tb_422 tb_5 hdf_R_isRegister rfl ⟨by omega, by omega⟩ hl.1 rfl (Nat.le_of_ble_eq_true rfl) d_R_size_1 ⟨Nat.zero_le _, Nat.zero_le _⟩ ?_
  refine lv_if_eq (tgt := 16) S.1 S.2.1 d_R_size_4 (by decide) (fun c_1 => ?_) (fun c_1 => ?_)
  · refine lv_iconst (v := -1) S.1 S.2.1 d_R_size_16 (by decide) ?_
    exact cx_endI S hr hlk (by first | (unfold rm_size; simp only [if_pos c_1]; done) | (unfold rm_size; simp only [if_pos c_1]; rfl) | (unfold rm_size; rfl) | rfl) d_R_size_17
  · refine lv_aload_n S.1 S.2.1 d_R_size_7 rfl (lv_at hl 0 rfl) ?_
    refine rx_get S hw (j := 11) (v := .ref (bReg b)) (by decide) tb_364 rfl rfl d_R_size_8 ?_
    refine lv_iload_n S.1 S.2.1 d_R_size_11 rfl (lv_at hl 1 rfl) ?_
    refine rx_ldReg S hw (i := r) (in8 c_1) d_R_size_12 ?_
    refine lv_if_ne (tgt := 18) S.1 S.2.1 d_R_size_13 (by decide) (fun c_2 => ?_) (fun c_2 => ?_)
    · refine lv_aload_n S.1 S.2.1 d_R_size_18 rfl (lv_at hl 0 rfl) ?_
      refine rx_get S hw (j := 11) (v := .ref (bReg b)) (by decide) tb_364 rfl rfl d_R_size_19 ?_
      refine lv_iload_n S.1 S.2.1 d_R_size_22 rfl (lv_at hl 1 rfl) ?_
      refine rx_ldReg S hw (i := r) (in8 c_1) d_R_size_23 ?_
      refine lv_iconst (v := 1) S.1 S.2.1 d_R_size_24 (by decide) ?_
      refine lv_isub S.1 S.2.1 d_R_size_25 ?_
      refine lv_istore_n (lv' := [(3, .int ((rReg ρ (r).toNatClampNeg) - 1)), (0, .ref (bO b)), (1, .int r), (2, .int w)]) S.1 S.2.1 d_R_size_26 rfl hl (by decide) rfl (fun ls hl => ?_)
      refine lv_aload_n S.1 S.2.1 d_R_size_27 rfl (lv_at hl 1 rfl) ?_
      refine rx_get S hw (j := 2) (v := .ref (bKind b)) (by decide) tb_355 rfl rfl d_R_size_28 ?_
      refine lv_iload_n S.1 S.2.1 d_R_size_31 rfl (lv_at hl 0 rfl) ?_
      refine rx_ldKind S hw (i := (rReg ρ (r).toNatClampNeg) - 1) (ri_in hok c_1 c_2) d_R_size_32 ?_
      refine lv_iconst (v := 1) S.1 S.2.1 d_R_size_33 (by decide) ?_
      refine lv_icmp_ne (tgt := 41) S.1 S.2.1 d_R_size_34 (by decide) (fun c_3 => ?_) (fun c_3 => ?_)
      · refine lv_iconst (v := 0) S.1 S.2.1 d_R_size_41 (by decide) ?_
        refine lv_istore (lv' := [(4, .int 0), (3, .int ((rReg ρ (r).toNatClampNeg) - 1)), (0, .ref (bO b)), (1, .int r), (2, .int w)]) S.1 S.2.1 d_R_size_42 hl (by decide) rfl (fun ls hl => ?_)
        refine lv_iload_n S.1 S.2.1 d_R_size_44 rfl (lv_at hl 4 rfl) ?_
        by_cases c_4 : w = 0
        · refine lv_tableIn (off := 31) (tgt := 76) S.1 S.2.1 d_R_size_45 (by rw [c_4]; decide) (by rw [c_4]; decide) (by rw [c_4]; decide) (by decide) ?_
          refine lv_iload S.1 S.2.1 d_R_size_76 (lv_at hl 0 rfl) ?_
          refine lv_if_eq (tgt := 90) S.1 S.2.1 d_R_size_78 (by decide) (fun c_5 => ?_) (fun c_5 => absurd c_5 (by decide))
          refine lv_iconst (v := -1) S.1 S.2.1 d_R_size_90 (by decide) ?_
          exact cx_endI S hr hlk (by first | exact absurd c_4 c_1 | exact absurd c_4 c_2 | exact absurd c_4 c_3 | (unfold rm_size; simp only [if_neg c_1, if_neg c_2, if_neg c_3, if_pos c_4]; done) | (unfold rm_size; simp only [if_neg c_1, if_neg c_2, if_neg c_3, if_pos c_4]; rfl) | (unfold rm_size; rfl) | rfl) d_R_size_91
        · skip
          by_cases c_6 : w = 1
          · refine lv_tableIn (off := 47) (tgt := 92) S.1 S.2.1 d_R_size_45 (by rw [c_6]; decide) (by rw [c_6]; decide) (by rw [c_6]; decide) (by decide) ?_
            refine lv_iload S.1 S.2.1 d_R_size_92 (lv_at hl 0 rfl) ?_
            refine lv_if_eq (tgt := 106) S.1 S.2.1 d_R_size_94 (by decide) (fun c_7 => ?_) (fun c_7 => absurd c_7 (by decide))
            refine lv_iconst (v := -1) S.1 S.2.1 d_R_size_106 (by decide) ?_
            exact cx_endI S hr hlk (by first | exact absurd c_6 c_1 | exact absurd c_6 c_2 | exact absurd c_6 c_3 | exact absurd c_6 c_4 | (unfold rm_size; simp only [if_neg c_1, if_neg c_2, if_neg c_3, if_neg c_4, if_pos c_6]; done) | (unfold rm_size; simp only [if_neg c_1, if_neg c_2, if_neg c_3, if_neg c_4, if_pos c_6]; rfl) | (unfold rm_size; rfl) | rfl) d_R_size_107
          · skip
            by_cases c_8 : w = 2
            · refine lv_tableIn (off := 63) (tgt := 108) S.1 S.2.1 d_R_size_45 (by rw [c_8]; decide) (by rw [c_8]; decide) (by rw [c_8]; decide) (by decide) ?_
              refine lv_iload S.1 S.2.1 d_R_size_108 (lv_at hl 0 rfl) ?_
              refine lv_if_eq (tgt := 117) S.1 S.2.1 d_R_size_110 (by decide) (fun c_9 => ?_) (fun c_9 => absurd c_9 (by decide))
              refine lv_aload_n S.1 S.2.1 d_R_size_117 rfl (lv_at hl 2 rfl) ?_
              refine rx_get S hw (j := 5) (v := .ref (bLen b)) (by decide) tb_358 rfl rfl d_R_size_118 ?_
              refine lv_iload_n S.1 S.2.1 d_R_size_121 rfl (lv_at hl 1 rfl) ?_
              refine rx_ldLen S hw (i := (rReg ρ (r).toNatClampNeg) - 1) (ri_in hok c_1 c_2) d_R_size_122 ?_
              exact cx_endI S hr hlk (by first | exact absurd c_8 c_1 | exact absurd c_8 c_2 | exact absurd c_8 c_3 | exact absurd c_8 c_4 | exact absurd c_8 c_6 | (unfold rm_size; simp only [if_neg c_1, if_neg c_2, if_neg c_3, if_neg c_4, if_neg c_6, if_pos c_8]; done) | (unfold rm_size; simp only [if_neg c_1, if_neg c_2, if_neg c_3, if_neg c_4, if_neg c_6, if_pos c_8]; rfl) | (unfold rm_size; rfl) | rfl) d_R_size_123
            · skip
              by_cases c_10 : w = 3
              · refine lv_tableIn (off := 79) (tgt := 124) S.1 S.2.1 d_R_size_45 (by rw [c_10]; decide) (by rw [c_10]; decide) (by rw [c_10]; decide) (by decide) ?_
                refine lv_aload_n S.1 S.2.1 d_R_size_124 rfl (lv_at hl 2 rfl) ?_
                refine lv_iload_n S.1 S.2.1 d_R_size_125 rfl (lv_at hl 1 rfl) ?_
                refine rx_rd S hw (As := [.int ((rReg ρ (r).toNatClampNeg) - 1)]) (rest := []) (c_R_cells l D cs b k lim ρ ((rReg ρ (r).toNatClampNeg) - 1) (ri_in hok c_1 c_2)) tb_443 tb_440 tb_442 tp_17 tb_5 hd_R_cells rfl ⟨by omega, by omega⟩ hl.1 rfl (Nat.le_of_ble_eq_true rfl) d_R_size_126 ?_
                exact cx_endI S hr hlk (by first | exact absurd c_10 c_1 | exact absurd c_10 c_2 | exact absurd c_10 c_3 | exact absurd c_10 c_4 | exact absurd c_10 c_6 | exact absurd c_10 c_8 | (unfold rm_size; simp only [if_neg c_1, if_neg c_2, if_neg c_3, if_neg c_4, if_neg c_6, if_neg c_8, if_pos c_10]; done) | (unfold rm_size; simp only [if_neg c_1, if_neg c_2, if_neg c_3, if_neg c_4, if_neg c_6, if_neg c_8, if_pos c_10]; rfl) | (unfold rm_size; rfl) | rfl) d_R_size_129
              · skip
                refine lv_tableOut (tgt := 130) S.1 S.2.1 d_R_size_45 (by have tc_4 := lv_neT c_4 (show (0 : Int32).toInt = 0 from rfl); have tc_6 := lv_neT c_6 (show (1 : Int32).toInt = 1 from rfl); have tc_8 := lv_neT c_8 (show (2 : Int32).toInt = 2 from rfl); have tc_10 := lv_neT c_10 (show (3 : Int32).toInt = 3 from rfl); omega) (by decide) ?_
                refine lv_iconst (v := -1) S.1 S.2.1 d_R_size_130 (by decide) ?_
                exact cx_endI S hr hlk (by first | (unfold rm_size; simp only [if_neg c_1, if_neg c_2, if_neg c_3, if_neg c_4, if_neg c_6, if_neg c_8, if_neg c_10]; done) | (unfold rm_size; simp only [if_neg c_1, if_neg c_2, if_neg c_3, if_neg c_4, if_neg c_6, if_neg c_8, if_neg c_10]; rfl) | (unfold rm_size; rfl) | rfl) d_R_size_131
      · refine lv_iconst (v := 1) S.1 S.2.1 d_R_size_37 (by decide) ?_
        refine lv_goto (tgt := 42) S.1 S.2.1 d_R_size_38 (by decide) ?_
        refine lv_istore (lv' := [(4, .int 1), (3, .int ((rReg ρ (r).toNatClampNeg) - 1)), (0, .ref (bO b)), (1, .int r), (2, .int w)]) S.1 S.2.1 d_R_size_42 hl (by decide) rfl (fun ls hl => ?_)
        refine lv_iload_n S.1 S.2.1 d_R_size_44 rfl (lv_at hl 4 rfl) ?_
        by_cases c_11 : w = 0
        · refine lv_tableIn (off := 31) (tgt := 76) S.1 S.2.1 d_R_size_45 (by rw [c_11]; decide) (by rw [c_11]; decide) (by rw [c_11]; decide) (by decide) ?_
          refine lv_iload S.1 S.2.1 d_R_size_76 (lv_at hl 0 rfl) ?_
          refine lv_if_eq (tgt := 90) S.1 S.2.1 d_R_size_78 (by decide) (fun c_12 => absurd c_12 (by decide)) (fun c_12 => ?_)
          refine lv_aload_n S.1 S.2.1 d_R_size_81 rfl (lv_at hl 2 rfl) ?_
          refine rx_get S hw (j := 3) (v := .ref (bRefs b)) (by decide) tb_356 rfl rfl d_R_size_82 ?_
          refine lv_iload_n S.1 S.2.1 d_R_size_85 rfl (lv_at hl 1 rfl) ?_
          refine rx_ldRefs S hw (i := (rReg ρ (r).toNatClampNeg) - 1) (ri_in hok c_1 c_2) d_R_size_86 ?_
          refine lv_goto (tgt := 91) S.1 S.2.1 d_R_size_87 (by decide) ?_
          exact cx_endI S hr hlk (by first | exact absurd c_3 c_1 | exact absurd c_3 c_2 | exact absurd c_11 c_1 | exact absurd c_11 c_2 | (unfold rm_size; simp only [if_neg c_1, if_neg c_2, if_pos c_3, if_pos c_11]; done) | (unfold rm_size; simp only [if_neg c_1, if_neg c_2, if_pos c_3, if_pos c_11]; rfl) | (unfold rm_size; rfl) | rfl) d_R_size_91
        · skip
          by_cases c_13 : w = 1
          · refine lv_tableIn (off := 47) (tgt := 92) S.1 S.2.1 d_R_size_45 (by rw [c_13]; decide) (by rw [c_13]; decide) (by rw [c_13]; decide) (by decide) ?_
            refine lv_iload S.1 S.2.1 d_R_size_92 (lv_at hl 0 rfl) ?_
            refine lv_if_eq (tgt := 106) S.1 S.2.1 d_R_size_94 (by decide) (fun c_14 => absurd c_14 (by decide)) (fun c_14 => ?_)
            refine lv_aload_n S.1 S.2.1 d_R_size_97 rfl (lv_at hl 2 rfl) ?_
            refine rx_get S hw (j := 4) (v := .ref (bInts b)) (by decide) tb_357 rfl rfl d_R_size_98 ?_
            refine lv_iload_n S.1 S.2.1 d_R_size_101 rfl (lv_at hl 1 rfl) ?_
            refine rx_ldInts S hw (i := (rReg ρ (r).toNatClampNeg) - 1) (ri_in hok c_1 c_2) d_R_size_102 ?_
            refine lv_goto (tgt := 107) S.1 S.2.1 d_R_size_103 (by decide) ?_
            exact cx_endI S hr hlk (by first | exact absurd c_3 c_1 | exact absurd c_3 c_2 | exact absurd c_3 c_11 | exact absurd c_13 c_1 | exact absurd c_13 c_2 | exact absurd c_13 c_11 | (unfold rm_size; simp only [if_neg c_1, if_neg c_2, if_pos c_3, if_neg c_11, if_pos c_13]; done) | (unfold rm_size; simp only [if_neg c_1, if_neg c_2, if_pos c_3, if_neg c_11, if_pos c_13]; rfl) | (unfold rm_size; rfl) | rfl) d_R_size_107
          · skip
            by_cases c_15 : w = 2
            · refine lv_tableIn (off := 63) (tgt := 108) S.1 S.2.1 d_R_size_45 (by rw [c_15]; decide) (by rw [c_15]; decide) (by rw [c_15]; decide) (by decide) ?_
              refine lv_iload S.1 S.2.1 d_R_size_108 (lv_at hl 0 rfl) ?_
              refine lv_if_eq (tgt := 117) S.1 S.2.1 d_R_size_110 (by decide) (fun c_16 => absurd c_16 (by decide)) (fun c_16 => ?_)
              refine lv_iconst (v := -1) S.1 S.2.1 d_R_size_113 (by decide) ?_
              refine lv_goto (tgt := 123) S.1 S.2.1 d_R_size_114 (by decide) ?_
              exact cx_endI S hr hlk (by first | exact absurd c_3 c_1 | exact absurd c_3 c_2 | exact absurd c_3 c_11 | exact absurd c_3 c_13 | exact absurd c_15 c_1 | exact absurd c_15 c_2 | exact absurd c_15 c_11 | exact absurd c_15 c_13 | (unfold rm_size; simp only [if_neg c_1, if_neg c_2, if_pos c_3, if_neg c_11, if_neg c_13, if_pos c_15]; done) | (unfold rm_size; simp only [if_neg c_1, if_neg c_2, if_pos c_3, if_neg c_11, if_neg c_13, if_pos c_15]; rfl) | (unfold rm_size; rfl) | rfl) d_R_size_123
            · skip
              by_cases c_17 : w = 3
              · refine lv_tableIn (off := 79) (tgt := 124) S.1 S.2.1 d_R_size_45 (by rw [c_17]; decide) (by rw [c_17]; decide) (by rw [c_17]; decide) (by decide) ?_
                refine lv_aload_n S.1 S.2.1 d_R_size_124 rfl (lv_at hl 2 rfl) ?_
                refine lv_iload_n S.1 S.2.1 d_R_size_125 rfl (lv_at hl 1 rfl) ?_
                refine rx_rd S hw (As := [.int ((rReg ρ (r).toNatClampNeg) - 1)]) (rest := []) (c_R_cells l D cs b k lim ρ ((rReg ρ (r).toNatClampNeg) - 1) (ri_in hok c_1 c_2)) tb_443 tb_440 tb_442 tp_17 tb_5 hd_R_cells rfl ⟨by omega, by omega⟩ hl.1 rfl (Nat.le_of_ble_eq_true rfl) d_R_size_126 ?_
                exact cx_endI S hr hlk (by first | exact absurd c_3 c_1 | exact absurd c_3 c_2 | exact absurd c_3 c_11 | exact absurd c_3 c_13 | exact absurd c_3 c_15 | exact absurd c_17 c_1 | exact absurd c_17 c_2 | exact absurd c_17 c_11 | exact absurd c_17 c_13 | exact absurd c_17 c_15 | (unfold rm_size; simp only [if_neg c_1, if_neg c_2, if_pos c_3, if_neg c_11, if_neg c_13, if_neg c_15, if_pos c_17]; done) | (unfold rm_size; simp only [if_neg c_1, if_neg c_2, if_pos c_3, if_neg c_11, if_neg c_13, if_neg c_15, if_pos c_17]; rfl) | (unfold rm_size; rfl) | rfl) d_R_size_129
              · skip
                refine lv_tableOut (tgt := 130) S.1 S.2.1 d_R_size_45 (by have tc_11 := lv_neT c_11 (show (0 : Int32).toInt = 0 from rfl); have tc_13 := lv_neT c_13 (show (1 : Int32).toInt = 1 from rfl); have tc_15 := lv_neT c_15 (show (2 : Int32).toInt = 2 from rfl); have tc_17 := lv_neT c_17 (show (3 : Int32).toInt = 3 from rfl); omega) (by decide) ?_
                refine lv_iconst (v := -1) S.1 S.2.1 d_R_size_130 (by decide) ?_
                exact cx_endI S hr hlk (by first | exact absurd c_3 c_1 | exact absurd c_3 c_2 | exact absurd c_3 c_11 | exact absurd c_3 c_13 | exact absurd c_3 c_15 | exact absurd c_3 c_17 | (unfold rm_size; simp only [if_neg c_1, if_neg c_2, if_pos c_3, if_neg c_11, if_neg c_13, if_neg c_15, if_neg c_17]; done) | (unfold rm_size; simp only [if_neg c_1, if_neg c_2, if_pos c_3, if_neg c_11, if_neg c_13, if_neg c_15, if_neg c_17]; rfl) | (unfold rm_size; rfl) | rfl) d_R_size_131
    · refine lv_iconst (v := -1) S.1 S.2.1 d_R_size_16 (by decide) ?_
      exact cx_endI S hr hlk (by first | exact absurd c_2 c_1 | (unfold rm_size; simp only [if_neg c_1, if_pos c_2]; done) | (unfold rm_size; simp only [if_neg c_1, if_pos c_2]; rfl) | (unfold rm_size; rfl) | rfl) d_R_size_17
set_option maxHeartbeats 4000000 in
set_option maxRecDepth 100000 in
theorem c_R_told (l : Launch) (D : va_G) (cs : rx_c) (b : rx_a) (k lim : Int32) (ρ : rm_S) (w : Int32) : rx_Rd l D cs b k lim y_R_told b_R_told 2 (some .int) 1 20 [.ref (bO b), .int w] ρ (rm_told k lim ρ w) := by
  refine rx_startR (by decide) (Nat.le_of_ble_eq_true rfl) ?_
  intro p e R s m args below meth c A ls S hr hlk hfr hlc hw hl
  have hl : lv_has ls 2 [(0, .ref (bO b)), (1, .int w)] := hl
  refine lv_iload_n S.1 S.2.1 d_R_told_0 rfl (lv_at hl 1 rfl) ?_
  by_cases c_1 : w = 0
  · refine lv_tableIn (off := 35) (tgt := 36) S.1 S.2.1 d_R_told_1 (by rw [c_1]; decide) (by rw [c_1]; decide) (by rw [c_1]; decide) (by decide) ?_
    refine lv_aload_n S.1 S.2.1 d_R_told_36 rfl (lv_at hl 0 rfl) ?_
    refine rx_get S hw (j := 12) (v := .int (rCyc ρ)) (by decide) tb_365 rfl rfl d_R_told_37 ?_
    exact cx_endI S hr hlk (by first | (unfold rm_told; simp only [if_pos c_1]; done) | (unfold rm_told; simp only [if_pos c_1]; rfl) | (unfold rm_told; rfl) | rfl) d_R_told_40
  · skip
    by_cases c_2 : w = 1
    · refine lv_tableIn (off := 40) (tgt := 41) S.1 S.2.1 d_R_told_1 (by rw [c_2]; decide) (by rw [c_2]; decide) (by rw [c_2]; decide) (by decide) ?_
      refine lv_aload_n S.1 S.2.1 d_R_told_41 rfl (lv_at hl 0 rfl) ?_
      refine rx_rd S hw (As := []) (rest := []) (c_R_isDone l D cs b k lim ρ ) tb_431 tb_428 tb_430 tp_14 tb_5 hd_R_isDone rfl ⟨by omega, by omega⟩ hl.1 rfl (Nat.le_of_ble_eq_true rfl) d_R_told_42 ?_
      refine lv_if_eq (tgt := 52) S.1 S.2.1 d_R_told_45 (by decide) (fun c_3 => ?_) (fun c_3 => ?_)
      · refine lv_iconst (v := 0) S.1 S.2.1 d_R_told_52 (by decide) ?_
        exact cx_endI S hr hlk (by first | exact absurd c_2 c_1 | exact absurd c_3 c_1 | (unfold rm_told; simp only [if_neg c_1, if_pos c_2, if_pos c_3]; done) | (unfold rm_told; simp only [if_neg c_1, if_pos c_2, if_pos c_3]; rfl) | (unfold rm_told; rfl) | rfl) d_R_told_53
      · refine lv_iconst (v := 1) S.1 S.2.1 d_R_told_48 (by decide) ?_
        refine lv_goto (tgt := 53) S.1 S.2.1 d_R_told_49 (by decide) ?_
        exact cx_endI S hr hlk (by first | exact absurd c_2 c_1 | exact absurd c_2 c_3 | (unfold rm_told; simp only [if_neg c_1, if_pos c_2, if_neg c_3]; done) | (unfold rm_told; simp only [if_neg c_1, if_pos c_2, if_neg c_3]; rfl) | (unfold rm_told; rfl) | rfl) d_R_told_53
    · skip
      by_cases c_4 : w = 2
      · refine lv_tableIn (off := 53) (tgt := 54) S.1 S.2.1 d_R_told_1 (by rw [c_4]; decide) (by rw [c_4]; decide) (by rw [c_4]; decide) (by decide) ?_
        refine lv_aload_n S.1 S.2.1 d_R_told_54 rfl (lv_at hl 0 rfl) ?_
        refine rx_rd S hw (As := []) (rest := []) (c_R_isDone l D cs b k lim ρ ) tb_431 tb_428 tb_430 tp_14 tb_5 hd_R_isDone rfl ⟨by omega, by omega⟩ hl.1 rfl (Nat.le_of_ble_eq_true rfl) d_R_told_55 ?_
        refine lv_if_eq (tgt := 68) S.1 S.2.1 d_R_told_58 (by decide) (fun c_5 => ?_) (fun c_5 => ?_)
        · refine lv_iconst (v := -1) S.1 S.2.1 d_R_told_68 (by decide) ?_
          exact cx_endI S hr hlk (by first | exact absurd c_4 c_1 | exact absurd c_4 c_2 | exact absurd c_5 c_1 | exact absurd c_5 c_2 | (unfold rm_told; simp only [if_neg c_1, if_neg c_2, if_pos c_4, if_pos c_5]; done) | (unfold rm_told; simp only [if_neg c_1, if_neg c_2, if_pos c_4, if_pos c_5]; rfl) | (unfold rm_told; rfl) | rfl) d_R_told_69
        · refine lv_aload_n S.1 S.2.1 d_R_told_61 rfl (lv_at hl 0 rfl) ?_
          refine rx_get S hw (j := 13) (v := .int (rRea ρ)) (by decide) tb_366 rfl rfl d_R_told_62 ?_
          refine lv_goto (tgt := 69) S.1 S.2.1 d_R_told_65 (by decide) ?_
          exact cx_endI S hr hlk (by first | exact absurd c_4 c_1 | exact absurd c_4 c_2 | exact absurd c_4 c_5 | (unfold rm_told; simp only [if_neg c_1, if_neg c_2, if_pos c_4, if_neg c_5]; done) | (unfold rm_told; simp only [if_neg c_1, if_neg c_2, if_pos c_4, if_neg c_5]; rfl) | (unfold rm_told; rfl) | rfl) d_R_told_69
      · skip
        by_cases c_6 : w = 3
        · refine lv_tableIn (off := 69) (tgt := 70) S.1 S.2.1 d_R_told_1 (by rw [c_6]; decide) (by rw [c_6]; decide) (by rw [c_6]; decide) (by decide) ?_
          refine lv_aload_n S.1 S.2.1 d_R_told_70 rfl (lv_at hl 0 rfl) ?_
          refine rx_get S hw (j := 14) (v := .long (rMade ρ)) (by decide) tb_367 rfl rfl d_R_told_71 ?_
          refine lv_ldc2 (v := 2147483647) S.1 S.2.1 S.2.2.2.1 (S.2.2.2.2 _ (List.mem_cons_of_mem _ tb_524)) d_R_told_74 ?_
          refine W.lcmp S.1 S.2.1 d_R_told_77 ?_
          refine lv_if_ge (tgt := 88) S.1 S.2.1 d_R_told_78 (by decide) (fun c_7 => ?_) (fun c_7 => ?_)
          · have c_7n := i32_nlt c_7
            refine lv_ldc2 (v := 2147483647) S.1 S.2.1 S.2.2.2.1 (S.2.2.2.2 _ (List.mem_cons_of_mem _ tb_524)) d_R_told_88 ?_
            refine lv_l2i S.1 S.2.1 d_R_told_91 rfl ?_
            exact cx_endI S hr hlk (by first | exact absurd c_6 c_1 | exact absurd c_6 c_2 | exact absurd c_6 c_4 | exact absurd c_6 c_7n | exact absurd c_7 c_1 | exact absurd c_7 c_2 | exact absurd c_7 c_4 | exact absurd c_7 c_7n | (unfold rm_told; simp only [if_neg c_1, if_neg c_2, if_neg c_4, if_pos c_6, if_pos c_7, if_neg c_7n]; done) | (unfold rm_told; simp only [if_neg c_1, if_neg c_2, if_neg c_4, if_pos c_6, if_pos c_7, if_neg c_7n]; rfl) | (unfold rm_told; rfl) | rfl) d_R_told_92
          · have c_7n := i32_lt c_7
            refine lv_aload_n S.1 S.2.1 d_R_told_81 rfl (lv_at hl 0 rfl) ?_
            refine rx_get S hw (j := 14) (v := .long (rMade ρ)) (by decide) tb_367 rfl rfl d_R_told_82 ?_
            refine lv_goto (tgt := 91) S.1 S.2.1 d_R_told_85 (by decide) ?_
            refine lv_l2i S.1 S.2.1 d_R_told_91 rfl ?_
            exact cx_endI S hr hlk (by first | exact absurd c_6 c_1 | exact absurd c_6 c_2 | exact absurd c_6 c_4 | exact absurd c_6 c_7 | exact absurd c_7n c_1 | exact absurd c_7n c_2 | exact absurd c_7n c_4 | exact absurd c_7n c_7 | (unfold rm_told; simp only [if_neg c_1, if_neg c_2, if_neg c_4, if_pos c_6, if_neg c_7, if_pos c_7n]; done) | (unfold rm_told; simp only [if_neg c_1, if_neg c_2, if_neg c_4, if_pos c_6, if_neg c_7, if_pos c_7n]; rfl) | (unfold rm_told; rfl) | rfl) d_R_told_92
        · skip
          by_cases c_8 : w = 4
          · refine lv_tableIn (off := 92) (tgt := 93) S.1 S.2.1 d_R_told_1 (by rw [c_8]; decide) (by rw [c_8]; decide) (by rw [c_8]; decide) (by decide) ?_
            refine lv_aload_n S.1 S.2.1 d_R_told_93 rfl (lv_at hl 0 rfl) ?_
            refine rx_get S hw (j := 1) (v := .int lim) (by decide) tb_354 rfl rfl d_R_told_94 ?_
            exact cx_endI S hr hlk (by first | exact absurd c_8 c_1 | exact absurd c_8 c_2 | exact absurd c_8 c_4 | exact absurd c_8 c_6 | (unfold rm_told; simp only [if_neg c_1, if_neg c_2, if_neg c_4, if_neg c_6, if_pos c_8]; done) | (unfold rm_told; simp only [if_neg c_1, if_neg c_2, if_neg c_4, if_neg c_6, if_pos c_8]; rfl) | (unfold rm_told; rfl) | rfl) d_R_told_97
          · skip
            refine lv_tableOut (tgt := 98) S.1 S.2.1 d_R_told_1 (by have tc_1 := lv_neT c_1 (show (0 : Int32).toInt = 0 from rfl); have tc_2 := lv_neT c_2 (show (1 : Int32).toInt = 1 from rfl); have tc_4 := lv_neT c_4 (show (2 : Int32).toInt = 2 from rfl); have tc_6 := lv_neT c_6 (show (3 : Int32).toInt = 3 from rfl); have tc_8 := lv_neT c_8 (show (4 : Int32).toInt = 4 from rfl); omega) (by decide) ?_
            refine lv_iconst (v := -1) S.1 S.2.1 d_R_told_98 (by decide) ?_
            exact cx_endI S hr hlk (by first | (unfold rm_told; simp only [if_neg c_1, if_neg c_2, if_neg c_4, if_neg c_6, if_neg c_8]; done) | (unfold rm_told; simp only [if_neg c_1, if_neg c_2, if_neg c_4, if_neg c_6, if_neg c_8]; rfl) | (unfold rm_told; rfl) | rfl) d_R_told_99
set_option maxHeartbeats 4000000 in
set_option maxRecDepth 100000 in
theorem c_R_steady (l : Launch) (D : va_G) (cs : rx_c) (b : rx_a) (k lim : Int32) (ρ : rm_S) : rx_Rd l D cs b k lim y_R_steady b_R_steady 1 (some .boolean) 0 0 [.ref (bO b)] ρ (1) := by
  refine rx_startR (by decide) (Nat.le_of_ble_eq_true rfl) ?_
  intro p e R s m args below meth c A ls S hr hlk hfr hlc hw hl
  have hl : lv_has ls 1 [(0, .ref (bO b))] := hl
  refine lv_iconst (v := 1) S.1 S.2.1 d_R_steady_0 (by decide) ?_
  exact cx_endZ S hr hlk (by first | (unfold rm_told; rfl) | rfl) (Or.inr rfl) d_R_steady_1
