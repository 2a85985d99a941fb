/-! ===== Cells.startCall, touch; Mover: register, setRegister, moved, isDone, isOld, useHalf ===== -/
theorem in8 {r : Int32} (h : ¬ sh_isReg r = 0) : vp_in r 8 := by
  unfold sh_isReg sh_below at h
  by_cases h1 : r < 0
  · rw [if_pos h1] at h; exact absurd rfl h
  · rw [if_neg h1] at h
    by_cases h2 : (8 : Int32) ≤ r
    · rw [if_pos h2] at h; exact absurd rfl h
    · rw [vp_in_iff]
      rw [Int32.lt_iff_toInt_lt, Int32.toInt_zero] at h1
      rw [Int32.le_iff_toInt_le, show (8 : Int32).toInt = 8 from rfl] at h2
      omega
set_option maxHeartbeats 4000000 in
set_option maxRecDepth 100000 in
theorem c_C_startCall (l : Launch) (D : va_G) (cI cP : ClassId) (a : cx_a) (κ : sh_K) (np : Nat) (σ : sh_S) : cx_Met l D cI cP a κ np y_C_startCall b_C_startCall 1 (none) 0 0 [.ref (aXC a)] σ (none) (uC σ (sh_start (σ).1)) := by
  refine cx_start (by decide) (Nat.le_of_ble_eq_true rfl) (Nat.le_refl _) ?_
  intro p e R s m args below meth c A ls S hr hlk hfr hlc hw hbud hl
  have hl : lv_has ls 1 [(0, .ref (aXC a))] := hl
  refine lv_aload_n S.1 S.2.1 d_C_startCall_0 rfl (lv_at hl 0 rfl) ?_
  refine lv_iconst (v := 0) S.1 S.2.1 d_C_startCall_1 (by decide) ?_
  refine cx_put S hw (q0 := 1) (ci := 1) (k := 3) (σ' := uTouS σ (0)) (ty := .int) (fun _ => rfl) rfl (by decide) inC tyC tyC_ok nmC tb_40 rfl rfl rfl rfl rfl (Nat.le_of_ble_eq_true rfl) (fun _ => rfl) rfl rfl d_C_startCall_2 (fun H locs hw => ?_)
  refine W.cs (cells' := 2 * (nal (uTouS σ (0)) - nal σ)) (slots' := 1025 * (nal (uTouS σ (0)) - nal σ)) rfl rfl ?_
  exact cx_retV S hr hlk hw hbud (by first | rfl | (unfold sh_start; rfl)) (by first | rfl | (unfold sh_start; rfl)) d_C_startCall_5
set_option maxHeartbeats 4000000 in
set_option maxRecDepth 100000 in
theorem c_C_touch (l : Launch) (D : va_G) (cI cP : ClassId) (a : cx_a) (κ : sh_K) (np : Nat) (σ : sh_S) : cx_Met l D cI cP a κ np y_C_touch b_C_touch 1 (none) 0 0 [.ref (aXC a)] σ (none) (uC σ (sh_touch κ (σ).1)) := by
  refine cx_start (by decide) (Nat.le_of_ble_eq_true rfl) (Nat.le_refl _) ?_
  intro p e R s m args below meth c A ls S hr hlk hfr hlc hw hbud hl
  have hl : lv_has ls 1 [(0, .ref (aXC a))] := hl
  refine lv_aload_n S.1 S.2.1 d_C_touch_0 rfl (lv_at hl 0 rfl) ?_
  refine lv_dup S.1 S.2.1 d_C_touch_1 rfl ?_
  refine cx_get S hw (q0 := 1) (ci := 1) (k := 3) (v := .int (sTou σ)) (fun _ => rfl) rfl (by decide) inC tb_40 rfl rfl d_C_touch_2 ?_
  refine lv_iconst (v := 1) S.1 S.2.1 d_C_touch_5 (by decide) ?_
  refine lv_iadd S.1 S.2.1 d_C_touch_6 ?_
  refine cx_put S hw (q0 := 1) (ci := 1) (k := 3) (σ' := uTouS σ ((sTou σ) + 1)) (ty := .int) (fun _ => rfl) rfl (by decide) inC tyC tyC_ok nmC tb_40 rfl rfl rfl rfl rfl (Nat.le_of_ble_eq_true rfl) (fun _ => rfl) rfl rfl d_C_touch_7 (fun H locs hw => ?_)
  refine W.cs (cells' := 2 * (nal (uTouS σ ((sTou σ) + 1)) - nal σ)) (slots' := 1025 * (nal (uTouS σ ((sTou σ) + 1)) - nal σ)) rfl rfl ?_
  refine lv_aload_n S.1 S.2.1 d_C_touch_10 rfl (lv_at hl 0 rfl) ?_
  refine cx_get S hw (q0 := 1) (ci := 1) (k := 3) (v := .int (sTou (uTouS σ ((sTou σ) + 1)))) (fun _ => rfl) rfl (by decide) inC tb_40 rfl rfl d_C_touch_11 ?_
  refine lv_aload_n S.1 S.2.1 d_C_touch_14 rfl (lv_at hl 0 rfl) ?_
  refine cx_get S hw (q0 := 1) (ci := 1) (k := 2) (v := .int (kAl κ)) (fun _ => rfl) rfl (by decide) inC tb_39 rfl rfl d_C_touch_15 ?_
  refine lv_icmp_le (tgt := 26) S.1 S.2.1 d_C_touch_18 (by decide) (fun c_1 => ?_) (fun c_1 => ?_)
  · exact cx_retV S hr hlk hw hbud (by first | rfl | (unfold sh_touch; rfl) | (unfold sh_touch; simp only [if_pos c_1]; done) | (unfold sh_touch; simp only [if_pos c_1]; rfl) | (unfold sh_touch; dsimp only; simp only [if_pos c_1]; done) | (unfold sh_touch; simp only [if_pos c_1]; done)) (by first | rfl | (unfold sh_touch; rfl) | (unfold sh_touch; simp only [if_pos c_1]; done) | (unfold sh_touch; simp only [if_pos c_1]; rfl) | (unfold sh_touch; dsimp only; simp only [if_pos c_1]; done) | (unfold sh_touch; simp only [if_pos c_1]; done)) d_C_touch_26
  · refine lv_aload_n S.1 S.2.1 d_C_touch_21 rfl (lv_at hl 0 rfl) ?_
    refine lv_iconst (v := 0) S.1 S.2.1 d_C_touch_22 (by decide) ?_
    refine cx_put S hw (q0 := 1) (ci := 1) (k := 4) (σ' := uSteS (uTouS σ ((sTou σ) + 1)) (0)) (ty := .boolean) (fun _ => rfl) rfl (by decide) inC tyC tyC_ok nmC tb_41 rfl rfl rfl rfl rfl (Nat.le_of_ble_eq_true rfl) (fun _ => rfl) rfl rfl d_C_touch_23 (fun H locs hw => ?_)
    refine W.cs (cells' := 2 * (nal (uSteS (uTouS σ ((sTou σ) + 1)) (0)) - nal σ)) (slots' := 1025 * (nal (uSteS (uTouS σ ((sTou σ) + 1)) (0)) - nal σ)) rfl rfl ?_
    exact cx_retV S hr hlk hw hbud (by first | rfl | (unfold sh_touch; rfl) | (unfold sh_touch; simp only [if_neg c_1]; done) | (unfold sh_touch; simp only [if_neg c_1]; rfl) | (unfold sh_touch; dsimp only; simp only [if_neg c_1]; done) | (unfold sh_touch; simp only [if_neg c_1]; done)) (by first | rfl | (unfold sh_touch; rfl) | (unfold sh_touch; simp only [if_neg c_1]; done) | (unfold sh_touch; simp only [if_neg c_1]; rfl) | (unfold sh_touch; dsimp only; simp only [if_neg c_1]; done) | (unfold sh_touch; simp only [if_neg c_1]; done)) d_C_touch_26
set_option maxHeartbeats 4000000 in
set_option maxRecDepth 100000 in
theorem c_M_register (l : Launch) (D : va_G) (cI cP : ClassId) (a : cx_a) (κ : sh_K) (np : Nat) (σ : sh_S) (r : Int32) : cx_Rd l D cI cP a κ np y_M_register b_M_register 2 (some .int) 2 41 [.ref (aXM a), .int r] σ (sh_reg σ r) := by
  refine cx_startR (by decide) (Nat.le_of_ble_eq_true rfl) ?_
  intro p e R s m args below meth c A ls S hr hlk hfr hlc hw hl
  have hl : lv_has ls 2 [(0, .ref (aXM a)), (1, .int r)] := hl
  refine lv_iload_n S.1 S.2.1 d_M_register_0 rfl (lv_at hl 1 rfl) ?_
  refine cx_fnN S hw.2.2.2.1 (As := [.int r]) (rest := []) (c_X_isRegister l r) tb_116 nxw_7 tb_115 tb_1 hdf_X_isRegister rfl ⟨by omega, by omega⟩ hl.1 rfl (Nat.le_of_ble_eq_true rfl) d_M_register_1 ⟨Nat.zero_le _, Nat.zero_le _⟩ ?_
  refine lv_if_eq (tgt := 16) S.1 S.2.1 d_M_register_4 (by decide) (fun c_1 => ?_) (fun c_1 => ?_)
  · refine lv_iconst (v := 0) S.1 S.2.1 d_M_register_16 (by decide) ?_
    exact cx_endI S hr hlk (by first | rfl | (unfold sh_reg; rfl) | (unfold sh_reg; simp only [if_pos c_1]; done) | (unfold sh_reg; simp only [if_pos c_1]; rfl) | (unfold sh_reg; dsimp only; simp only [if_pos c_1]; done) | (unfold sh_reg; simp only [if_pos c_1]; done)) d_M_register_17
  · refine lv_aload_n S.1 S.2.1 d_M_register_7 rfl (lv_at hl 0 rfl) ?_
    refine cx_get S hw (q0 := 2) (ci := 2) (k := 4) (v := .ref (aXR a)) (fun _ => rfl) rfl (by decide) inM tb_65 rfl rfl d_M_register_8 ?_
    refine lv_iload_n S.1 S.2.1 d_M_register_11 rfl (lv_at hl 1 rfl) ?_
    refine cx_rld S hw (i := r) (in8 c_1) d_M_register_12 ?_
    refine lv_goto (tgt := 17) S.1 S.2.1 d_M_register_13 (by decide) ?_
    exact cx_endI S hr hlk (by first | rfl | (unfold sh_reg; rfl) | (unfold sh_reg; simp only [if_neg c_1]; done) | (unfold sh_reg; simp only [if_neg c_1]; rfl) | (unfold sh_reg; dsimp only; simp only [if_neg c_1]; done) | (unfold sh_reg; simp only [if_neg c_1]; done)) d_M_register_17
set_option maxHeartbeats 4000000 in
set_option maxRecDepth 100000 in
theorem c_M_setRegister (l : Launch) (D : va_G) (cI cP : ClassId) (a : cx_a) (κ : sh_K) (np : Nat) (σ : sh_S) (r v : Int32) : cx_Met l D cI cP a κ np y_M_setRegister b_M_setRegister 3 (none) 2 41 [.ref (aXM a), .int r, .int v] σ (none) (sh_setReg σ r v) := by
  refine cx_start (by decide) (Nat.le_of_ble_eq_true rfl) (Nat.le_of_eq (by unfold sh_setReg; split <;> rfl)) ?_
  intro p e R s m args below meth c A ls S hr hlk hfr hlc hw hbud hl
  have hl : lv_has ls 3 [(0, .ref (aXM a)), (1, .int r), (2, .int v)] := hl
  refine lv_iload_n S.1 S.2.1 d_M_setRegister_0 rfl (lv_at hl 1 rfl) ?_
  refine cx_fnN S hw.2.2.2.1 (As := [.int r]) (rest := []) (c_X_isRegister l r) tb_116 nxw_7 tb_115 tb_1 hdf_X_isRegister rfl ⟨by omega, by omega⟩ hl.1 rfl (Nat.le_of_ble_eq_true rfl) d_M_setRegister_1 (hw.fit hbud) ?_
  refine lv_if_eq (tgt := 14) S.1 S.2.1 d_M_setRegister_4 (by decide) (fun c_1 => ?_) (fun c_1 => ?_)
  · exact cx_retV S hr hlk hw hbud (by first | rfl | (unfold sh_setReg; rfl) | (unfold sh_setReg; simp only [if_pos c_1]; done) | (unfold sh_setReg; simp only [if_pos c_1]; rfl) | (unfold sh_setReg; dsimp only; simp only [if_pos c_1]; done) | (unfold sh_setReg; simp only [if_pos c_1]; done)) (by first | rfl | (unfold sh_setReg; rfl) | (unfold sh_setReg; simp only [if_pos c_1]; done) | (unfold sh_setReg; simp only [if_pos c_1]; rfl) | (unfold sh_setReg; dsimp only; simp only [if_pos c_1]; done) | (unfold sh_setReg; simp only [if_pos c_1]; done)) d_M_setRegister_14
  · refine lv_aload_n S.1 S.2.1 d_M_setRegister_7 rfl (lv_at hl 0 rfl) ?_
    refine cx_get S hw (q0 := 2) (ci := 2) (k := 4) (v := .ref (aXR a)) (fun _ => rfl) rfl (by decide) inM tb_65 rfl rfl d_M_setRegister_8 ?_
    refine lv_iload_n S.1 S.2.1 d_M_setRegister_11 rfl (lv_at hl 1 rfl) ?_
    refine lv_iload_n S.1 S.2.1 d_M_setRegister_12 rfl (lv_at hl 2 rfl) ?_
    refine cx_rst S hw (i := r) (v := v) (in8 c_1) d_M_setRegister_13 (fun H locs hw => ?_)
    refine W.cs (cells' := 2 * (nal (uReg σ (upd (sReg σ) (r).toNatClampNeg (v))) - nal σ)) (slots' := 1025 * (nal (uReg σ (upd (sReg σ) (r).toNatClampNeg (v))) - nal σ)) rfl rfl ?_
    exact cx_retV S hr hlk hw hbud (by first | rfl | (unfold sh_setReg; rfl) | (unfold sh_setReg; simp only [if_neg c_1]; done) | (unfold sh_setReg; simp only [if_neg c_1]; rfl) | (unfold sh_setReg; dsimp only; simp only [if_neg c_1]; done) | (unfold sh_setReg; simp only [if_neg c_1]; done)) (by first | rfl | (unfold sh_setReg; rfl) | (unfold sh_setReg; simp only [if_neg c_1]; done) | (unfold sh_setReg; simp only [if_neg c_1]; rfl) | (unfold sh_setReg; dsimp only; simp only [if_neg c_1]; done) | (unfold sh_setReg; simp only [if_neg c_1]; done)) d_M_setRegister_14
set_option maxHeartbeats 4000000 in
set_option maxRecDepth 100000 in
theorem c_M_moved (l : Launch) (D : va_G) (cI cP : ClassId) (a : cx_a) (κ : sh_K) (np : Nat) (σ : sh_S) : cx_Rd l D cI cP a κ np y_M_moved b_M_moved 1 (some .int) 0 0 [.ref (aXM a)] σ (sh_moved σ) := by
  refine cx_startR (by decide) (Nat.le_of_ble_eq_true rfl) ?_
  intro p e R s m args below meth c A ls S hr hlk hfr hlc hw hl
  have hl : lv_has ls 1 [(0, .ref (aXM a))] := hl
  refine lv_aload_n S.1 S.2.1 d_M_moved_0 rfl (lv_at hl 0 rfl) ?_
  refine cx_get S hw (q0 := 2) (ci := 2) (k := 8) (v := .int (sFree σ)) (fun _ => rfl) rfl (by decide) inM tb_71 rfl rfl d_M_moved_1 ?_
  refine lv_aload_n S.1 S.2.1 d_M_moved_4 rfl (lv_at hl 0 rfl) ?_
  refine cx_get S hw (q0 := 2) (ci := 2) (k := 7) (v := .int (sBase σ)) (fun _ => rfl) rfl (by decide) inM tb_70 rfl rfl d_M_moved_5 ?_
  refine lv_isub S.1 S.2.1 d_M_moved_8 ?_
  exact cx_endI S hr hlk (by first | rfl | (unfold sh_moved; rfl)) d_M_moved_9
set_option maxHeartbeats 4000000 in
set_option maxRecDepth 100000 in
theorem c_M_isDone (l : Launch) (D : va_G) (cI cP : ClassId) (a : cx_a) (κ : sh_K) (np : Nat) (σ : sh_S) : cx_Rd l D cI cP a κ np y_M_isDone b_M_isDone 1 (some .boolean) 1 20 [.ref (aXM a)] σ (sh_done κ σ) := by
  refine cx_startR (by decide) (Nat.le_of_ble_eq_true rfl) ?_
  intro p e R s m args below meth c A ls S hr hlk hfr hlc hw hl
  have hl : lv_has ls 1 [(0, .ref (aXM a))] := hl
  refine lv_aload_n S.1 S.2.1 d_M_isDone_0 rfl (lv_at hl 0 rfl) ?_
  refine cx_get S hw (q0 := 2) (ci := 2) (k := 10) (v := .int (sScan σ)) (fun _ => rfl) rfl (by decide) inM tb_73 rfl rfl d_M_isDone_1 ?_
  refine lv_aload_n S.1 S.2.1 d_M_isDone_4 rfl (lv_at hl 0 rfl) ?_
  refine cx_get S hw (q0 := 2) (ci := 2) (k := 8) (v := .int (sFree σ)) (fun _ => rfl) rfl (by decide) inM tb_71 rfl rfl d_M_isDone_5 ?_
  refine lv_icmp_ne (tgt := 31) S.1 S.2.1 d_M_isDone_8 (by decide) (fun c_1 => ?_) (fun c_1 => ?_)
  · refine lv_iconst (v := 0) S.1 S.2.1 d_M_isDone_31 (by decide) ?_
    exact cx_endZ S hr hlk (by first | rfl | (unfold sh_done; rfl) | (unfold sh_done; simp only [if_neg c_1]; done) | (unfold sh_done; simp only [if_neg c_1]; rfl) | (unfold sh_done; dsimp only; simp only [if_neg c_1]; done) | (unfold sh_done; simp only [if_neg c_1]; done)) (Or.inl rfl) d_M_isDone_32
  · refine lv_aload_n S.1 S.2.1 d_M_isDone_11 rfl (lv_at hl 0 rfl) ?_
    refine cx_get S hw (q0 := 2) (ci := 2) (k := 2) (v := .int (kK κ)) (fun _ => rfl) rfl (by decide) inM tb_62 rfl rfl d_M_isDone_12 ?_
    refine lv_aload_n S.1 S.2.1 d_M_isDone_15 rfl (lv_at hl 0 rfl) ?_
    refine cx_get S hw (q0 := 2) (ci := 2) (k := 5) (v := .int (sMade σ)) (fun _ => rfl) rfl (by decide) inM tb_66 rfl rfl d_M_isDone_16 ?_
    refine lv_imul S.1 S.2.1 d_M_isDone_19 ?_
    refine lv_aload_n S.1 S.2.1 d_M_isDone_20 rfl (lv_at hl 0 rfl) ?_
    refine cx_rd S hw ⟨Nat.zero_le _, Nat.zero_le _⟩ (As := []) (rest := [.int ((kK κ) * (sMade σ))]) (c_M_moved l D cI cP a κ np σ ) (q0 := 2) (fun _ => rfl) rfl tb_154 tb_151 tb_152 tb_153 tb_3 hd_M_moved rfl ⟨by omega, by omega⟩ hl.1 rfl (Nat.le_of_ble_eq_true rfl) d_M_isDone_21 ?_
    refine lv_icmp_lt (tgt := 31) S.1 S.2.1 d_M_isDone_24 (by decide) (fun c_2 => ?_) (fun c_2 => ?_)
    · refine lv_iconst (v := 0) S.1 S.2.1 d_M_isDone_31 (by decide) ?_
      exact cx_endZ S hr hlk (by first | rfl | (unfold sh_done; rfl) | (unfold sh_done; simp only [if_pos c_1, if_pos c_2]; done) | (unfold sh_done; simp only [if_pos c_1, if_pos c_2]; rfl) | (unfold sh_done; dsimp only; simp only [if_pos c_1, if_pos c_2]; done) | (unfold sh_done; simp only [if_pos c_1, if_pos c_2]; done)) (Or.inl rfl) d_M_isDone_32
    · refine lv_iconst (v := 1) S.1 S.2.1 d_M_isDone_27 (by decide) ?_
      refine lv_goto (tgt := 32) S.1 S.2.1 d_M_isDone_28 (by decide) ?_
      exact cx_endZ S hr hlk (by first | exact absurd c_1 c_2 | rfl | (unfold sh_done; rfl) | (unfold sh_done; simp only [if_pos c_1, if_neg c_2]; done) | (unfold sh_done; simp only [if_pos c_1, if_neg c_2]; rfl) | (unfold sh_done; dsimp only; simp only [if_pos c_1, if_neg c_2]; done) | (unfold sh_done; simp only [if_pos c_1, if_neg c_2]; done)) (Or.inr rfl) d_M_isDone_32
set_option maxHeartbeats 4000000 in
set_option maxRecDepth 100000 in
theorem c_M_isOld (l : Launch) (D : va_G) (cI cP : ClassId) (a : cx_a) (κ : sh_K) (np : Nat) (σ : sh_S) (x : Int32) : cx_Rd l D cI cP a κ np y_M_isOld b_M_isOld 2 (some .boolean) 0 0 [.ref (aXM a), .int x] σ (sh_old κ σ x) := by
  refine cx_startR (by decide) (Nat.le_of_ble_eq_true rfl) ?_
  intro p e R s m args below meth c A ls S hr hlk hfr hlc hw hl
  have hl : lv_has ls 2 [(0, .ref (aXM a)), (1, .int x)] := hl
  refine lv_iload_n S.1 S.2.1 d_M_isOld_0 rfl (lv_at hl 1 rfl) ?_
  refine lv_if_eq (tgt := 29) S.1 S.2.1 d_M_isOld_1 (by decide) (fun c_1 => ?_) (fun c_1 => ?_)
  · refine lv_iconst (v := 0) S.1 S.2.1 d_M_isOld_29 (by decide) ?_
    exact cx_endZ S hr hlk (by first | rfl | (unfold sh_old; rfl) | (unfold sh_old; simp only [if_pos c_1]; done) | (unfold sh_old; simp only [if_pos c_1]; rfl) | (unfold sh_old; dsimp only; simp only [if_pos c_1]; done) | (unfold sh_old; simp only [if_pos c_1]; done)) (Or.inl rfl) d_M_isOld_30
  · refine lv_iload_n S.1 S.2.1 d_M_isOld_4 rfl (lv_at hl 1 rfl) ?_
    refine lv_aload_n S.1 S.2.1 d_M_isOld_5 rfl (lv_at hl 0 rfl) ?_
    refine cx_get S hw (q0 := 2) (ci := 2) (k := 7) (v := .int (sBase σ)) (fun _ => rfl) rfl (by decide) inM tb_70 rfl rfl d_M_isOld_6 ?_
    refine lv_icmp_lt (tgt := 25) S.1 S.2.1 d_M_isOld_9 (by decide) (fun c_2 => ?_) (fun c_2 => ?_)
    · refine lv_iconst (v := 1) S.1 S.2.1 d_M_isOld_25 (by decide) ?_
      refine lv_goto (tgt := 30) S.1 S.2.1 d_M_isOld_26 (by decide) ?_
      exact cx_endZ S hr hlk (by first | exact absurd c_2 c_1 | rfl | (unfold sh_old; rfl) | (unfold sh_old; simp only [if_neg c_1, if_pos c_2]; done) | (unfold sh_old; simp only [if_neg c_1, if_pos c_2]; rfl) | (unfold sh_old; dsimp only; simp only [if_neg c_1, if_pos c_2]; done) | (unfold sh_old; simp only [if_neg c_1, if_pos c_2]; done)) (Or.inr rfl) d_M_isOld_30
    · refine lv_iload_n S.1 S.2.1 d_M_isOld_12 rfl (lv_at hl 1 rfl) ?_
      refine lv_aload_n S.1 S.2.1 d_M_isOld_13 rfl (lv_at hl 0 rfl) ?_
      refine cx_get S hw (q0 := 2) (ci := 2) (k := 7) (v := .int (sBase σ)) (fun _ => rfl) rfl (by decide) inM tb_70 rfl rfl d_M_isOld_14 ?_
      refine lv_aload_n S.1 S.2.1 d_M_isOld_17 rfl (lv_at hl 0 rfl) ?_
      refine cx_get S hw (q0 := 2) (ci := 2) (k := 1) (v := .int (kHalf κ)) (fun _ => rfl) rfl (by decide) inM tb_61 rfl rfl d_M_isOld_18 ?_
      refine lv_iadd S.1 S.2.1 d_M_isOld_21 ?_
      refine lv_icmp_lt (tgt := 29) S.1 S.2.1 d_M_isOld_22 (by decide) (fun c_3 => ?_) (fun c_3 => ?_)
      · refine lv_iconst (v := 0) S.1 S.2.1 d_M_isOld_29 (by decide) ?_
        exact cx_endZ S hr hlk (by first | exact absurd c_3 c_1 | exact absurd c_3 c_2 | rfl | (unfold sh_old; rfl) | (unfold sh_old; simp only [if_neg c_1, if_neg c_2, if_pos c_3]; done) | (unfold sh_old; simp only [if_neg c_1, if_neg c_2, if_pos c_3]; rfl) | (unfold sh_old; dsimp only; simp only [if_neg c_1, if_neg c_2, if_pos c_3]; done) | (unfold sh_old; simp only [if_neg c_1, if_neg c_2, if_pos c_3]; done)) (Or.inl rfl) d_M_isOld_30
      · refine lv_iconst (v := 1) S.1 S.2.1 d_M_isOld_25 (by decide) ?_
        refine lv_goto (tgt := 30) S.1 S.2.1 d_M_isOld_26 (by decide) ?_
        exact cx_endZ S hr hlk (by first | rfl | (unfold sh_old; rfl) | (unfold sh_old; simp only [if_neg c_1, if_neg c_2, if_neg c_3]; done) | (unfold sh_old; simp only [if_neg c_1, if_neg c_2, if_neg c_3]; rfl) | (unfold sh_old; dsimp only; simp only [if_neg c_1, if_neg c_2, if_neg c_3]; done) | (unfold sh_old; simp only [if_neg c_1, if_neg c_2, if_neg c_3]; done)) (Or.inr rfl) d_M_isOld_30
set_option maxHeartbeats 4000000 in
set_option maxRecDepth 100000 in
theorem c_M_useHalf (l : Launch) (D : va_G) (cI cP : ClassId) (a : cx_a) (κ : sh_K) (np : Nat) (σ : sh_S) (f : Int32) : cx_Met l D cI cP a κ np y_M_useHalf b_M_useHalf 2 (none) 0 0 [.ref (aXM a), .int f] σ (none) (sh_useHalf κ σ f) := by
  refine cx_start (by decide) (Nat.le_of_ble_eq_true rfl) (Nat.le_refl _) ?_
  intro p e R s m args below meth c A ls S hr hlk hfr hlc hw hbud hl
  have hl : lv_has ls 2 [(0, .ref (aXM a)), (1, .int f)] := hl
  refine lv_aload_n S.1 S.2.1 d_M_useHalf_0 rfl (lv_at hl 0 rfl) ?_
  refine lv_iload_n S.1 S.2.1 d_M_useHalf_1 rfl (lv_at hl 1 rfl) ?_
  refine cx_put S hw (q0 := 2) (ci := 2) (k := 7) (σ' := uBase σ (f)) (ty := .int) (fun _ => rfl) rfl (by decide) inM tyM tyM_ok nmM tb_70 rfl rfl rfl rfl rfl (Nat.le_of_ble_eq_true rfl) (fun _ => rfl) rfl rfl d_M_useHalf_2 (fun H locs hw => ?_)
  refine W.cs (cells' := 2 * (nal (uBase σ (f)) - nal σ)) (slots' := 1025 * (nal (uBase σ (f)) - nal σ)) rfl rfl ?_
  refine lv_aload_n S.1 S.2.1 d_M_useHalf_5 rfl (lv_at hl 0 rfl) ?_
  refine lv_iload_n S.1 S.2.1 d_M_useHalf_6 rfl (lv_at hl 1 rfl) ?_
  refine cx_put S hw (q0 := 2) (ci := 2) (k := 8) (σ' := uFree (uBase σ (f)) (f)) (ty := .int) (fun _ => rfl) rfl (by decide) inM tyM tyM_ok nmM tb_71 rfl rfl rfl rfl rfl (Nat.le_of_ble_eq_true rfl) (fun _ => rfl) rfl rfl d_M_useHalf_7 (fun H locs hw => ?_)
  refine W.cs (cells' := 2 * (nal (uFree (uBase σ (f)) (f)) - nal σ)) (slots' := 1025 * (nal (uFree (uBase σ (f)) (f)) - nal σ)) rfl rfl ?_
  refine lv_aload_n S.1 S.2.1 d_M_useHalf_10 rfl (lv_at hl 0 rfl) ?_
  refine lv_iload_n S.1 S.2.1 d_M_useHalf_11 rfl (lv_at hl 1 rfl) ?_
  refine lv_aload_n S.1 S.2.1 d_M_useHalf_12 rfl (lv_at hl 0 rfl) ?_
  refine cx_get S hw (q0 := 2) (ci := 2) (k := 1) (v := .int (kHalf κ)) (fun _ => rfl) rfl (by decide) inM tb_61 rfl rfl d_M_useHalf_13 ?_
  refine lv_iadd S.1 S.2.1 d_M_useHalf_16 ?_
  refine cx_put S hw (q0 := 2) (ci := 2) (k := 9) (σ' := uLow (uFree (uBase σ (f)) (f)) (f + (kHalf κ))) (ty := .int) (fun _ => rfl) rfl (by decide) inM tyM tyM_ok nmM tb_72 rfl rfl rfl rfl rfl (Nat.le_of_ble_eq_true rfl) (fun _ => rfl) rfl rfl d_M_useHalf_17 (fun H locs hw => ?_)
  refine W.cs (cells' := 2 * (nal (uLow (uFree (uBase σ (f)) (f)) (f + (kHalf κ))) - nal σ)) (slots' := 1025 * (nal (uLow (uFree (uBase σ (f)) (f)) (f + (kHalf κ))) - nal σ)) rfl rfl ?_
  refine lv_aload_n S.1 S.2.1 d_M_useHalf_20 rfl (lv_at hl 0 rfl) ?_
  refine lv_iload_n S.1 S.2.1 d_M_useHalf_21 rfl (lv_at hl 1 rfl) ?_
  refine cx_put S hw (q0 := 2) (ci := 2) (k := 10) (σ' := uScan (uLow (uFree (uBase σ (f)) (f)) (f + (kHalf κ))) (f)) (ty := .int) (fun _ => rfl) rfl (by decide) inM tyM tyM_ok nmM tb_73 rfl rfl rfl rfl rfl (Nat.le_of_ble_eq_true rfl) (fun _ => rfl) rfl rfl d_M_useHalf_22 (fun H locs hw => ?_)
  refine W.cs (cells' := 2 * (nal (uScan (uLow (uFree (uBase σ (f)) (f)) (f + (kHalf κ))) (f)) - nal σ)) (slots' := 1025 * (nal (uScan (uLow (uFree (uBase σ (f)) (f)) (f + (kHalf κ))) (f)) - nal σ)) rfl rfl ?_
  refine lv_aload_n S.1 S.2.1 d_M_useHalf_25 rfl (lv_at hl 0 rfl) ?_
  refine lv_iload_n S.1 S.2.1 d_M_useHalf_26 rfl (lv_at hl 1 rfl) ?_
  refine cx_put S hw (q0 := 2) (ci := 2) (k := 11) (σ' := uTend (uScan (uLow (uFree (uBase σ (f)) (f)) (f + (kHalf κ))) (f)) (f)) (ty := .int) (fun _ => rfl) rfl (by decide) inM tyM tyM_ok nmM tb_74 rfl rfl rfl rfl rfl (Nat.le_of_ble_eq_true rfl) (fun _ => rfl) rfl rfl d_M_useHalf_27 (fun H locs hw => ?_)
  refine W.cs (cells' := 2 * (nal (uTend (uScan (uLow (uFree (uBase σ (f)) (f)) (f + (kHalf κ))) (f)) (f)) - nal σ)) (slots' := 1025 * (nal (uTend (uScan (uLow (uFree (uBase σ (f)) (f)) (f + (kHalf κ))) (f)) (f)) - nal σ)) rfl rfl ?_
  refine lv_aload_n S.1 S.2.1 d_M_useHalf_30 rfl (lv_at hl 0 rfl) ?_
  refine lv_iload_n S.1 S.2.1 d_M_useHalf_31 rfl (lv_at hl 1 rfl) ?_
  refine cx_put S hw (q0 := 2) (ci := 2) (k := 12) (σ' := uNh (uTend (uScan (uLow (uFree (uBase σ (f)) (f)) (f + (kHalf κ))) (f)) (f)) (f)) (ty := .int) (fun _ => rfl) rfl (by decide) inM tyM tyM_ok nmM tb_75 rfl rfl rfl rfl rfl (Nat.le_of_ble_eq_true rfl) (fun _ => rfl) rfl rfl d_M_useHalf_32 (fun H locs hw => ?_)
  refine W.cs (cells' := 2 * (nal (uNh (uTend (uScan (uLow (uFree (uBase σ (f)) (f)) (f + (kHalf κ))) (f)) (f)) (f)) - nal σ)) (slots' := 1025 * (nal (uNh (uTend (uScan (uLow (uFree (uBase σ (f)) (f)) (f + (kHalf κ))) (f)) (f)) (f)) - nal σ)) rfl rfl ?_
  exact cx_retV S hr hlk hw hbud (by first | rfl | (unfold sh_useHalf; rfl)) (by first | rfl | (unfold sh_useHalf; rfl)) d_M_useHalf_35
