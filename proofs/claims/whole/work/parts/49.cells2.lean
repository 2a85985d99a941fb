/-! ===== Cells.read, Cells.write ===== -/
theorem hC_clamp (h : Int32) : (nI (hC h)).toNatClampNeg = hC h := by
  have h1 := (hT_lt h).1
  have h2 := (hP_lt h).1
  exact nI_clamp (by unfold hC; omega)
theorem hC_big (h : Int32) : 1 ≤ hC h ∧ hC h < 2 ^ 30 := by
  have h1 := (hT_lt h).1
  have h2 := (hP_lt h).1
  unfold hC; omega
set_option maxHeartbeats 4000000 in
set_option maxRecDepth 100000 in
theorem c_C_read (l : Launch) (D : va_G) (cI cP : ClassId) (a : cx_a) (κ : sh_K) (np : Nat) (σ : sh_S) (x : Int32) : cx_Met l D cI cP a κ np y_C_read b_C_read 3 (some .int) 1 20 [.ref (aXC a), .int x] σ (some (.int (sh_val κ (σ).1 x))) (uC σ (sh_touch κ (σ).1)) := by
  refine cx_start (by decide) (Nat.le_of_ble_eq_true rfl) (Nat.le_refl _) ?_
  intro p e R s m args below meth c A ls S hr hlk hfr hlc hw hbud hl
  have hl : lv_has ls 3 [(0, .ref (aXC a)), (1, .int x)] := hl
  refine lv_aload_n S.1 S.2.1 d_C_read_0 rfl (lv_at hl 0 rfl) ?_
  refine cx_call S hw hbud (As := []) (rest := []) (c_C_touch l D cI cP a κ np σ ) (q0 := 1) (fun _ => rfl) rfl tb_174 tb_171 tb_173 tp_5 tb_4 hd_C_touch rfl ⟨by omega, by omega⟩ hl.1 rfl (Nat.le_of_ble_eq_true rfl) d_C_read_1 (fun H locs hw => ?_)
  refine W.eq (g2 := F0 m 4 ls []) rfl ?_
  refine lv_iload_n S.1 S.2.1 d_C_read_4 rfl (lv_at hl 1 rfl) ?_
  refine lv_iconst (v := 1) S.1 S.2.1 d_C_read_5 (by decide) ?_
  refine lv_icmp_lt (tgt := 17) S.1 S.2.1 d_C_read_6 (by decide) (fun c_1 => ?_) (fun c_1 => ?_)
  · refine lv_iconst (v := 0) S.1 S.2.1 d_C_read_17 (by decide) ?_
    exact cx_retI S hr hlk hw hbud (by first | rfl | (unfold sh_val; rfl) | (unfold sh_val; simp only [if_pos c_1]; done) | (unfold sh_val; simp only [if_pos c_1]; rfl) | (unfold sh_val; dsimp only; simp only [if_pos c_1]; done) | (unfold sh_val; simp only [if_pos c_1]; done)) (by first | rfl | (unfold sh_val; rfl) | (unfold sh_val; simp only [if_pos c_1]; done) | (unfold sh_val; simp only [if_pos c_1]; rfl) | (unfold sh_val; dsimp only; simp only [if_pos c_1]; done) | (unfold sh_val; simp only [if_pos c_1]; done)) d_C_read_18
  · refine lv_iload_n S.1 S.2.1 d_C_read_9 rfl (lv_at hl 1 rfl) ?_
    refine lv_aload_n S.1 S.2.1 d_C_read_10 rfl (lv_at hl 0 rfl) ?_
    refine cx_get S hw (q0 := 1) (ci := 1) (k := 1) (v := .int (kLast κ)) (fun _ => rfl) rfl (by decide) inC tb_38 rfl rfl d_C_read_11 ?_
    refine lv_icmp_le (tgt := 19) S.1 S.2.1 d_C_read_14 (by decide) (fun c_2 => ?_) (fun c_2 => ?_)
    · refine lv_aload_n S.1 S.2.1 d_C_read_19 rfl (lv_at hl 0 rfl) ?_
      refine cx_get S hw (q0 := 1) (ci := 1) (k := 0) (v := .ref (aXP a)) (fun _ => rfl) rfl (by decide) inC tb_37 rfl rfl d_C_read_20 ?_
      refine lv_iload_n S.1 S.2.1 d_C_read_23 rfl (lv_at hl 1 rfl) ?_
      refine lv_bipush (v := 10) S.1 S.2.1 d_C_read_24 (by decide) ?_
      refine lv_ishr S.1 S.2.1 d_C_read_26 ?_
      have hv : sh_val κ σ.1 x = sMem (uC σ (sh_touch κ (σ).1)) x.toNatClampNeg := by unfold sh_val; rw [if_neg c_1, if_pos c_2]; rfl
      rw [hv]
      exact cx_readTail S hr hlk hw hbud c_1 c_2 hl
    · refine lv_iconst (v := 0) S.1 S.2.1 d_C_read_17 (by decide) ?_
      exact cx_retI S hr hlk hw hbud (by first | rfl | (unfold sh_val; rfl) | (unfold sh_val; simp only [if_neg c_1, if_neg c_2]; done) | (unfold sh_val; simp only [if_neg c_1, if_neg c_2]; rfl) | (unfold sh_val; dsimp only; simp only [if_neg c_1, if_neg c_2]; done) | (unfold sh_val; simp only [if_neg c_1, if_neg c_2]; done)) (by first | rfl | (unfold sh_val; rfl) | (unfold sh_val; simp only [if_neg c_1, if_neg c_2]; done) | (unfold sh_val; simp only [if_neg c_1, if_neg c_2]; rfl) | (unfold sh_val; dsimp only; simp only [if_neg c_1, if_neg c_2]; done) | (unfold sh_val; simp only [if_neg c_1, if_neg c_2]; done)) d_C_read_18
set_option maxHeartbeats 4000000 in
set_option maxRecDepth 100000 in
theorem c_C_write (l : Launch) (D : va_G) (cI cP : ClassId) (a : cx_a) (κ : sh_K) (np : Nat) (σ : sh_S) (x v : Int32) : cx_Met l D cI cP a κ np y_C_write b_C_write 4 (none) 2 32 [.ref (aXC a), .int x, .int v] σ (none) (uC σ (sh_write κ (σ).1 x v)) := by
  refine cx_start (by decide) (Nat.le_of_ble_eq_true rfl) mo_write ?_
  intro p e R s m args below meth c A ls S hr hlk hfr hlc hw hbud hl
  have hl : lv_has ls 4 [(0, .ref (aXC a)), (1, .int x), (2, .int v)] := hl
  refine lv_aload_n S.1 S.2.1 d_C_write_0 rfl (lv_at hl 0 rfl) ?_
  refine cx_call S hw hbud (As := []) (rest := []) (c_C_touch l D cI cP a κ np σ ) (q0 := 1) (fun _ => rfl) rfl tb_174 tb_171 tb_173 tp_5 tb_4 hd_C_touch rfl ⟨by omega, by omega⟩ hl.1 rfl (Nat.le_of_ble_eq_true rfl) d_C_write_1 (fun H locs hw => ?_)
  refine W.eq (g2 := F0 m 4 ls []) rfl ?_
  refine lv_iload_n S.1 S.2.1 d_C_write_4 rfl (lv_at hl 1 rfl) ?_
  refine lv_iconst (v := 1) S.1 S.2.1 d_C_write_5 (by decide) ?_
  refine lv_icmp_lt (tgt := 17) S.1 S.2.1 d_C_write_6 (by decide) (fun c_1 => ?_) (fun c_1 => ?_)
  · exact cx_retV S hr hlk hw hbud (by first | rfl | (unfold sh_write sh_put; rfl) | (unfold sh_write sh_put; simp only [if_pos c_1]; done) | (unfold sh_write sh_put; simp only [if_pos c_1]; rfl) | (unfold sh_write sh_put; dsimp only; simp only [if_pos c_1]; done) | (unfold sh_write sh_put; simp only [if_pos c_1]; done)) (by first | rfl | (unfold sh_write sh_put; rfl) | (unfold sh_write sh_put; simp only [if_pos c_1]; done) | (unfold sh_write sh_put; simp only [if_pos c_1]; rfl) | (unfold sh_write sh_put; dsimp only; simp only [if_pos c_1]; done) | (unfold sh_write sh_put; simp only [if_pos c_1]; done)) d_C_write_17
  · refine lv_iload_n S.1 S.2.1 d_C_write_9 rfl (lv_at hl 1 rfl) ?_
    refine lv_aload_n S.1 S.2.1 d_C_write_10 rfl (lv_at hl 0 rfl) ?_
    refine cx_get S hw (q0 := 1) (ci := 1) (k := 1) (v := .int (kLast κ)) (fun _ => rfl) rfl (by decide) inC tb_38 rfl rfl d_C_write_11 ?_
    refine lv_icmp_le (tgt := 18) S.1 S.2.1 d_C_write_14 (by decide) (fun c_2 => ?_) (fun c_2 => ?_)
    · refine lv_aload_n S.1 S.2.1 d_C_write_18 rfl (lv_at hl 0 rfl) ?_
      refine cx_get S hw (q0 := 1) (ci := 1) (k := 0) (v := .ref (aXP a)) (fun _ => rfl) rfl (by decide) inC tb_37 rfl rfl d_C_write_19 ?_
      refine lv_iload_n S.1 S.2.1 d_C_write_22 rfl (lv_at hl 1 rfl) ?_
      refine lv_bipush (v := 10) S.1 S.2.1 d_C_write_23 (by decide) ?_
      refine lv_ishr S.1 S.2.1 d_C_write_25 ?_
      exact cx_writeTail S hr hlk (by omega) (by omega) hw hbud c_1 c_2 hl (by unfold sh_write sh_put; rw [if_neg c_1, if_pos c_2])
    · exact cx_retV S hr hlk hw hbud (by first | rfl | (unfold sh_write sh_put; rfl) | (unfold sh_write sh_put; simp only [if_neg c_1, if_neg c_2]; done) | (unfold sh_write sh_put; simp only [if_neg c_1, if_neg c_2]; rfl) | (unfold sh_write sh_put; dsimp only; simp only [if_neg c_1, if_neg c_2]; done) | (unfold sh_write sh_put; simp only [if_neg c_1, if_neg c_2]; done)) (by first | rfl | (unfold sh_write sh_put; rfl) | (unfold sh_write sh_put; simp only [if_neg c_1, if_neg c_2]; done) | (unfold sh_write sh_put; simp only [if_neg c_1, if_neg c_2]; rfl) | (unfold sh_write sh_put; dsimp only; simp only [if_neg c_1, if_neg c_2]; done) | (unfold sh_write sh_put; simp only [if_neg c_1, if_neg c_2]; done)) d_C_write_17
