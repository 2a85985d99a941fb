/-! ===== THE REFERENCE: make, array ===== -/
theorem rm_add_1 (ρ : rm_S) (w r i : Int32) : (rm_add ρ w r i).1 = rm_new ρ := rfl
set_option maxHeartbeats 400000 in
set_option maxRecDepth 100000 in
theorem c_R_make (l : Launch) (D : va_G) (cs : rx_c) (b : rx_a) (k lim : Int32) (ρ : rm_S) (g r i : Int32) (h : rs_make k lim ρ) {N : Nat} (hN : rObj ρ = nI N) (hN9 : N < 2 ^ 30) : rx_Met l D cs b k lim y_R_make b_R_make 4 (some .int) 3 66 [.ref (bO b), .int g, .int r, .int i] ρ (some (.int ((rm_make k lim ρ g r i).1))) ((rm_make k lim ρ g r i).2) := by
  refine rx_start (by decide) (Nat.le_of_ble_eq_true rfl) ?_
  intro p e R s m args below meth c A ls S hr hlk hfr hlc hw hl
  have hl : lv_has ls 4 [(0, .ref (bO b)), (1, .int g), (2, .int r), (3, .int i)] := hl
  refine lv_iload_n S.1 S.2.1 d_R_make_0 rfl (lv_at hl 1 rfl) ?_
  refine cx_fn S (As := [.int g]) (rest := []) (c_R_isRegister l g) tb_423 tb_421 tb_422 tb_5 hdf_R_isRegister rfl ⟨by omega, by omega⟩ hl.1 rfl (Nat.le_of_ble_eq_true rfl) d_R_make_1 ⟨Nat.zero_le _, Nat.zero_le _⟩ ?_
  refine lv_if_eq (tgt := 29) S.1 S.2.1 d_R_make_4 (by decide) (fun c_1 => ?_) (fun c_1 => ?_)
  · refine lv_iconst (v := -1) S.1 S.2.1 d_R_make_29 (by decide) ?_
    exact rx_retI S hr hlk hw (by first | (unfold rm_make; simp only [if_pos c_1]; done) | (unfold rm_make; simp only [if_pos c_1]; done)) (by first | (unfold rm_make; simp only [if_pos c_1]; done) | (unfold rm_make; simp only [if_pos c_1]; done)) d_R_make_30
  · refine lv_iload_n S.1 S.2.1 d_R_make_7 rfl (lv_at hl 2 rfl) ?_
    refine lv_if_lt (tgt := 29) S.1 S.2.1 d_R_make_8 (by decide) (fun c_2 => ?_) (fun c_2 => ?_)
    · refine lv_iconst (v := -1) S.1 S.2.1 d_R_make_29 (by decide) ?_
      exact rx_retI S hr hlk hw (by first | (unfold rm_make; simp only [if_neg c_1, if_pos c_2]; done) | (unfold rm_make; simp only [if_neg c_1, if_pos c_2]; done)) (by first | (unfold rm_make; simp only [if_neg c_1, if_pos c_2]; done) | (unfold rm_make; simp only [if_neg c_1, if_pos c_2]; done)) d_R_make_30
    · refine lv_iload_n S.1 S.2.1 d_R_make_11 rfl (lv_at hl 3 rfl) ?_
      refine lv_if_lt (tgt := 29) S.1 S.2.1 d_R_make_12 (by decide) (fun c_3 => ?_) (fun c_3 => ?_)
      · refine lv_iconst (v := -1) S.1 S.2.1 d_R_make_29 (by decide) ?_
        exact rx_retI S hr hlk hw (by first | (unfold rm_make; simp only [if_neg c_1, if_neg c_2, if_pos c_3]; done) | (unfold rm_make; simp only [if_neg c_1, if_neg c_2, if_pos c_3]; done)) (by first | (unfold rm_make; simp only [if_neg c_1, if_neg c_2, if_pos c_3]; done) | (unfold rm_make; simp only [if_neg c_1, if_neg c_2, if_pos c_3]; done)) d_R_make_30
      · refine lv_iload_n S.1 S.2.1 d_R_make_15 rfl (lv_at hl 2 rfl) ?_
        refine lv_bipush (v := 15) S.1 S.2.1 d_R_make_16 (by decide) ?_
        refine lv_icmp_gt (tgt := 29) S.1 S.2.1 d_R_make_18 (by decide) (fun c_4 => ?_) (fun c_4 => ?_)
        · have c_4n := i32_nle c_4
          refine lv_iconst (v := -1) S.1 S.2.1 d_R_make_29 (by decide) ?_
          exact rx_retI S hr hlk hw (by first | (unfold rm_make; simp only [if_neg c_1, if_neg c_2, if_neg c_3, if_pos c_4, if_neg c_4n]; done) | (unfold rm_make; simp only [if_neg c_1, if_neg c_2, if_neg c_3, if_pos c_4, if_neg c_4n]; done)) (by first | (unfold rm_make; simp only [if_neg c_1, if_neg c_2, if_neg c_3, if_pos c_4, if_neg c_4n]; done) | (unfold rm_make; simp only [if_neg c_1, if_neg c_2, if_neg c_3, if_pos c_4, if_neg c_4n]; done)) d_R_make_30
        · have c_4n := i32_le c_4
          refine lv_iload_n S.1 S.2.1 d_R_make_21 rfl (lv_at hl 3 rfl) ?_
          refine lv_bipush (v := 15) S.1 S.2.1 d_R_make_22 (by decide) ?_
          refine lv_iload_n S.1 S.2.1 d_R_make_24 rfl (lv_at hl 2 rfl) ?_
          refine lv_isub S.1 S.2.1 d_R_make_25 ?_
          refine lv_icmp_le (tgt := 31) S.1 S.2.1 d_R_make_26 (by decide) (fun c_5 => ?_) (fun c_5 => ?_)
          · refine lv_aload_n S.1 S.2.1 d_R_make_31 rfl (lv_at hl 0 rfl) ?_
            refine lv_iconst (v := 1) S.1 S.2.1 d_R_make_32 (by decide) ?_
            refine lv_iload_n S.1 S.2.1 d_R_make_33 rfl (lv_at hl 2 rfl) ?_
            refine lv_iadd S.1 S.2.1 d_R_make_34 ?_
            refine lv_iload_n S.1 S.2.1 d_R_make_35 rfl (lv_at hl 3 rfl) ?_
            refine lv_iadd S.1 S.2.1 d_R_make_36 ?_
            refine rx_call S hw (As := [.int ((1 + r) + i)]) (rest := []) (c_R_hasRoom l D cs b k lim ρ ((1 + r) + i) h.1 hN hN9) tb_427 tb_424 tb_426 tp_13 tb_5 hd_R_hasRoom rfl ⟨by omega, by omega⟩ hl.1 rfl (Nat.le_of_ble_eq_true rfl) d_R_make_37 (fun H locs hw => ?_)
            generalize hq_1 : rm_room k lim ρ ((1 + r) + i) = q_1 at hw ⊢
            refine W.eq (g2 := F0 m 40 ls [.int q_1.1]) rfl ?_
            refine lv_if_ne (tgt := 45) S.1 S.2.1 d_R_make_40 (by decide) (fun c_6 => ?_) (fun c_6 => ?_)
            · refine lv_aload_n S.1 S.2.1 d_R_make_45 rfl (lv_at hl 0 rfl) ?_
              refine rx_get S hw (j := 11) (v := .ref (bReg b)) (by decide) tb_364 rfl rfl d_R_make_46 ?_
              refine lv_iload_n S.1 S.2.1 d_R_make_49 rfl (lv_at hl 1 rfl) ?_
              refine lv_aload_n S.1 S.2.1 d_R_make_50 rfl (lv_at hl 0 rfl) ?_
              refine lv_iconst (v := 1) S.1 S.2.1 d_R_make_51 (by decide) ?_
              refine lv_iload_n S.1 S.2.1 d_R_make_52 rfl (lv_at hl 2 rfl) ?_
              refine lv_iload_n S.1 S.2.1 d_R_make_53 rfl (lv_at hl 3 rfl) ?_
              refine rx_call S hw (As := [.int 1, .int r, .int i]) (rest := [.int g, .ref (bReg b)]) (c_R_add l D cs b k lim q_1.2 1 r i (by rw [← hq_1]; exact h.2 _)) tb_447 tb_444 tb_446 tp_18 tb_5 hd_R_add rfl ⟨by omega, by omega⟩ hl.1 rfl (Nat.le_of_ble_eq_true rfl) d_R_make_54 (fun H locs hw => ?_)
              generalize hq_2 : rm_add q_1.2 1 r i = q_2 at hw ⊢
              refine W.eq (g2 := F0 m 57 ls [.int q_2.1, .int g, .ref (bReg b)]) rfl ?_
              refine lv_iconst (v := 1) S.1 S.2.1 d_R_make_57 (by decide) ?_
              refine lv_iadd S.1 S.2.1 d_R_make_58 ?_
              refine rx_stReg S hw (i := g) (x := q_2.1 + 1) (in8 c_1) d_R_make_59 (fun H locs hw => ?_)
              refine lv_iconst (v := 1) S.1 S.2.1 d_R_make_60 (by decide) ?_
              exact rx_retI S hr hlk hw (by first | (unfold rm_make; simp only [if_neg c_1, if_neg c_2, if_neg c_3, if_neg c_4, if_pos c_4n, if_pos c_5, hq_1, if_neg c_6, hq_2]; done) | (subst hq_2; subst hq_1; unfold rm_make; simp only [if_neg c_1, if_neg c_2, if_neg c_3, if_neg c_4, if_pos c_4n, if_pos c_5, if_neg c_6]; done)) (by first | (unfold rm_make; simp only [if_neg c_1, if_neg c_2, if_neg c_3, if_neg c_4, if_pos c_4n, if_pos c_5, hq_1, if_neg c_6, hq_2]; done) | (subst hq_2; subst hq_1; unfold rm_make; simp only [if_neg c_1, if_neg c_2, if_neg c_3, if_neg c_4, if_pos c_4n, if_pos c_5, if_neg c_6]; done)) d_R_make_61
            · refine lv_iconst (v := 0) S.1 S.2.1 d_R_make_43 (by decide) ?_
              exact rx_retI S hr hlk hw (by first | (unfold rm_make; simp only [if_neg c_1, if_neg c_2, if_neg c_3, if_neg c_4, if_pos c_4n, if_pos c_5, hq_1, if_pos c_6]; done) | (subst hq_1; unfold rm_make; simp only [if_neg c_1, if_neg c_2, if_neg c_3, if_neg c_4, if_pos c_4n, if_pos c_5, if_pos c_6]; done)) (by first | (unfold rm_make; simp only [if_neg c_1, if_neg c_2, if_neg c_3, if_neg c_4, if_pos c_4n, if_pos c_5, hq_1, if_pos c_6]; done) | (subst hq_1; unfold rm_make; simp only [if_neg c_1, if_neg c_2, if_neg c_3, if_neg c_4, if_pos c_4n, if_pos c_5, if_pos c_6]; done)) d_R_make_44
          · refine lv_iconst (v := -1) S.1 S.2.1 d_R_make_29 (by decide) ?_
            exact rx_retI S hr hlk hw (by first | (unfold rm_make; simp only [if_neg c_1, if_neg c_2, if_neg c_3, if_neg c_4, if_pos c_4n, if_neg c_5]; done) | (unfold rm_make; simp only [if_neg c_1, if_neg c_2, if_neg c_3, if_neg c_4, if_pos c_4n, if_neg c_5]; done)) (by first | (unfold rm_make; simp only [if_neg c_1, if_neg c_2, if_neg c_3, if_neg c_4, if_pos c_4n, if_neg c_5]; done) | (unfold rm_make; simp only [if_neg c_1, if_neg c_2, if_neg c_3, if_neg c_4, if_pos c_4n, if_neg c_5]; done)) d_R_make_30
set_option maxHeartbeats 400000 in
set_option maxRecDepth 100000 in
theorem c_R_array (l : Launch) (D : va_G) (cs : rx_c) (b : rx_a) (k lim : Int32) (ρ : rm_S) (g n x : Int32) (h : rs_make k lim ρ) {N : Nat} (hN : rObj ρ = nI N) (hN9 : N < 2 ^ 30) : rx_Met l D cs b k lim y_R_array b_R_array 6 (some .int) 3 66 [.ref (bO b), .int g, .int n, .int x] ρ (some (.int ((rm_array k lim ρ g n x).1))) ((rm_array k lim ρ g n x).2) := by
  refine rx_start (by decide) (Nat.le_of_ble_eq_true rfl) ?_
  intro p e R s m args below meth c A ls S hr hlk hfr hlc hw hl
  have hl : lv_has ls 6 [(0, .ref (bO b)), (1, .int g), (2, .int n), (3, .int x)] := hl
  refine lv_iload_n S.1 S.2.1 d_R_array_0 rfl (lv_at hl 1 rfl) ?_
  refine cx_fn S (As := [.int g]) (rest := []) (c_R_isRegister l g) tb_423 tb_421 tb_422 tb_5 hdf_R_isRegister rfl ⟨by omega, by omega⟩ hl.1 rfl (Nat.le_of_ble_eq_true rfl) d_R_array_1 ⟨Nat.zero_le _, Nat.zero_le _⟩ ?_
  refine lv_if_eq (tgt := 18) S.1 S.2.1 d_R_array_4 (by decide) (fun c_1 => ?_) (fun c_1 => ?_)
  · refine lv_iconst (v := -1) S.1 S.2.1 d_R_array_18 (by decide) ?_
    exact rx_retI S hr hlk hw (by first | (unfold rm_array rm_arrFin; simp only [if_pos c_1]; done) | (unfold rm_array rm_arrFin; simp only [if_pos c_1]; done)) (by first | (unfold rm_array rm_arrFin; simp only [if_pos c_1]; done) | (unfold rm_array rm_arrFin; simp only [if_pos c_1]; done)) d_R_array_19
  · refine lv_iload_n S.1 S.2.1 d_R_array_7 rfl (lv_at hl 2 rfl) ?_
    refine lv_if_lt (tgt := 18) S.1 S.2.1 d_R_array_8 (by decide) (fun c_2 => ?_) (fun c_2 => ?_)
    · refine lv_iconst (v := -1) S.1 S.2.1 d_R_array_18 (by decide) ?_
      exact rx_retI S hr hlk hw (by first | (unfold rm_array rm_arrFin; simp only [if_neg c_1, if_pos c_2]; done) | (unfold rm_array rm_arrFin; simp only [if_neg c_1, if_pos c_2]; done)) (by first | (unfold rm_array rm_arrFin; simp only [if_neg c_1, if_pos c_2]; done) | (unfold rm_array rm_arrFin; simp only [if_neg c_1, if_pos c_2]; done)) d_R_array_19
    · refine lv_iload_n S.1 S.2.1 d_R_array_11 rfl (lv_at hl 2 rfl) ?_
      refine lv_sipush (v := 3375) S.1 S.2.1 d_R_array_12 (by decide) ?_
      refine lv_icmp_le (tgt := 20) S.1 S.2.1 d_R_array_15 (by decide) (fun c_3 => ?_) (fun c_3 => ?_)
      · refine lv_aload_n S.1 S.2.1 d_R_array_20 rfl (lv_at hl 0 rfl) ?_
        refine lv_bipush (v := 16) S.1 S.2.1 d_R_array_21 (by decide) ?_
        refine rx_call S hw (As := [.int 16]) (rest := []) (c_R_hasRoom l D cs b k lim ρ 16 h.1 hN hN9) tb_427 tb_424 tb_426 tp_13 tb_5 hd_R_hasRoom rfl ⟨by omega, by omega⟩ hl.1 rfl (Nat.le_of_ble_eq_true rfl) d_R_array_23 (fun H locs hw => ?_)
        generalize hq_1 : rm_room k lim ρ 16 = q_1 at hw ⊢
        refine W.eq (g2 := F0 m 26 ls [.int q_1.1]) rfl ?_
        refine lv_if_ne (tgt := 31) S.1 S.2.1 d_R_array_26 (by decide) (fun c_4 => ?_) (fun c_4 => ?_)
        · refine lv_iload_n S.1 S.2.1 d_R_array_31 rfl (lv_at hl 3 rfl) ?_
          refine lv_if_ne (tgt := 43) S.1 S.2.1 d_R_array_32 (by decide) (fun c_5 => ?_) (fun c_5 => ?_)
          · refine lv_iconst (v := 1) S.1 S.2.1 d_R_array_43 (by decide) ?_
            refine lv_goto (tgt := 48) S.1 S.2.1 d_R_array_44 (by decide) ?_
            refine lv_istore (lv' := [(4, .int 1), (0, .ref (bO b)), (1, .int g), (2, .int n), (3, .int x)]) S.1 S.2.1 d_R_array_48 hl (by decide) rfl (fun ls hl => ?_)
            refine lv_aload_n S.1 S.2.1 d_R_array_50 rfl (lv_at hl 1 rfl) ?_
            refine lv_iconst (v := 2) S.1 S.2.1 d_R_array_51 (by decide) ?_
            refine lv_iload S.1 S.2.1 d_R_array_52 (lv_at hl 0 rfl) ?_
            refine lv_if_eq (tgt := 62) S.1 S.2.1 d_R_array_54 (by decide) (fun c_6 => absurd c_6 (by decide)) (fun c_6 => ?_)
            refine lv_bipush (v := 15) S.1 S.2.1 d_R_array_57 (by decide) ?_
            refine lv_goto (tgt := 63) S.1 S.2.1 d_R_array_59 (by decide) ?_
            refine lv_iload S.1 S.2.1 d_R_array_63 (lv_at hl 0 rfl) ?_
            refine lv_if_eq (tgt := 72) S.1 S.2.1 d_R_array_65 (by decide) (fun c_7 => absurd c_7 (by decide)) (fun c_7 => ?_)
            refine lv_iconst (v := 0) S.1 S.2.1 d_R_array_68 (by decide) ?_
            refine lv_goto (tgt := 74) S.1 S.2.1 d_R_array_69 (by decide) ?_
            refine rx_call S hw (As := [.int 2, .int 15, .int 0]) (rest := []) (c_R_add l D cs b k lim q_1.2 2 15 0 (by rw [← hq_1]; exact h.2 _)) tb_447 tb_444 tb_446 tp_18 tb_5 hd_R_add rfl ⟨by omega, by omega⟩ hl.1 rfl (Nat.le_of_ble_eq_true rfl) d_R_array_74 (fun H locs hw => ?_)
            generalize hq_2 : rm_add q_1.2 2 15 0 = q_2 at hw ⊢
            refine W.eq (g2 := F0 m 77 ls [.int q_2.1]) rfl ?_
            refine lv_istore (lv' := [(5, .int q_2.1), (4, .int 1), (0, .ref (bO b)), (1, .int g), (2, .int n), (3, .int x)]) S.1 S.2.1 d_R_array_77 hl (by decide) rfl (fun ls hl => ?_)
            refine lv_aload_n S.1 S.2.1 d_R_array_79 rfl (lv_at hl 2 rfl) ?_
            refine rx_get S hw (j := 5) (v := .ref (bLen b)) (by decide) tb_358 rfl rfl d_R_array_80 ?_
            refine lv_iload S.1 S.2.1 d_R_array_83 (lv_at hl 0 rfl) ?_
            refine lv_iload_n S.1 S.2.1 d_R_array_85 rfl (lv_at hl 4 rfl) ?_
            refine lv_i2s S.1 S.2.1 d_R_array_86 rfl ?_
            refine rx_stLen S hw (i := q_2.1) (x := n.toInt16.toInt32) (by rw [← hq_2, rm_add_1, ← hq_1]; exact (h.2 _).2.1) d_R_array_87 (fun H locs hw => ?_)
            refine lv_aload_n S.1 S.2.1 d_R_array_88 rfl (lv_at hl 2 rfl) ?_
            refine rx_get S hw (j := 6) (v := .ref (bOfr b)) (by decide) tb_359 rfl rfl d_R_array_89 ?_
            refine lv_iload S.1 S.2.1 d_R_array_92 (lv_at hl 0 rfl) ?_
            refine lv_iload_n S.1 S.2.1 d_R_array_94 rfl (lv_at hl 5 rfl) ?_
            refine rx_stOfr S hw (i := q_2.1) (x := x) (by rw [← hq_2, rm_add_1, ← hq_1]; exact (h.2 _).2.1) d_R_array_95 (fun H locs hw => ?_)
            refine lv_aload_n S.1 S.2.1 d_R_array_96 rfl (lv_at hl 2 rfl) ?_
            refine rx_get S hw (j := 11) (v := .ref (bReg b)) (by decide) tb_364 rfl rfl d_R_array_97 ?_
            refine lv_iload_n S.1 S.2.1 d_R_array_100 rfl (lv_at hl 3 rfl) ?_
            refine lv_iload S.1 S.2.1 d_R_array_101 (lv_at hl 0 rfl) ?_
            refine lv_iconst (v := 1) S.1 S.2.1 d_R_array_103 (by decide) ?_
            refine lv_iadd S.1 S.2.1 d_R_array_104 ?_
            refine rx_stReg S hw (i := g) (x := q_2.1 + 1) (in8 c_1) d_R_array_105 (fun H locs hw => ?_)
            refine lv_iconst (v := 1) S.1 S.2.1 d_R_array_106 (by decide) ?_
            exact rx_retI S hr hlk hw (by first | (unfold rm_array rm_arrFin; simp only [if_neg c_1, if_neg c_2, if_pos c_3, hq_1, if_neg c_4, if_neg c_5, hq_2]; done) | (subst hq_2; subst hq_1; unfold rm_array rm_arrFin; simp only [if_neg c_1, if_neg c_2, if_pos c_3, if_neg c_4, if_neg c_5]; done)) (by first | (unfold rm_array rm_arrFin; simp only [if_neg c_1, if_neg c_2, if_pos c_3, hq_1, if_neg c_4, if_neg c_5, hq_2]; done) | (subst hq_2; subst hq_1; unfold rm_array rm_arrFin; simp only [if_neg c_1, if_neg c_2, if_pos c_3, if_neg c_4, if_neg c_5]; done)) d_R_array_107
          · refine lv_iload_n S.1 S.2.1 d_R_array_35 rfl (lv_at hl 2 rfl) ?_
            refine cx_fn S (As := [.int n]) (rest := []) (c_R_levels l n) tb_454 tb_452 tb_453 tb_5 hdf_R_levels rfl ⟨by omega, by omega⟩ hl.1 rfl (Nat.le_of_ble_eq_true rfl) d_R_array_36 ⟨Nat.zero_le _, Nat.zero_le _⟩ ?_
            refine lv_iconst (v := 1) S.1 S.2.1 d_R_array_39 (by decide) ?_
            refine lv_icmp_le (tgt := 47) S.1 S.2.1 d_R_array_40 (by decide) (fun c_8 => ?_) (fun c_8 => ?_)
            · refine lv_iconst (v := 0) S.1 S.2.1 d_R_array_47 (by decide) ?_
              refine lv_istore (lv' := [(4, .int 0), (0, .ref (bO b)), (1, .int g), (2, .int n), (3, .int x)]) S.1 S.2.1 d_R_array_48 hl (by decide) rfl (fun ls hl => ?_)
              refine lv_aload_n S.1 S.2.1 d_R_array_50 rfl (lv_at hl 1 rfl) ?_
              refine lv_iconst (v := 2) S.1 S.2.1 d_R_array_51 (by decide) ?_
              refine lv_iload S.1 S.2.1 d_R_array_52 (lv_at hl 0 rfl) ?_
              refine lv_if_eq (tgt := 62) S.1 S.2.1 d_R_array_54 (by decide) (fun c_9 => ?_) (fun c_9 => absurd c_9 (by decide))
              refine lv_iconst (v := 0) S.1 S.2.1 d_R_array_62 (by decide) ?_
              refine lv_iload S.1 S.2.1 d_R_array_63 (lv_at hl 0 rfl) ?_
              refine lv_if_eq (tgt := 72) S.1 S.2.1 d_R_array_65 (by decide) (fun c_10 => ?_) (fun c_10 => absurd c_10 (by decide))
              refine lv_bipush (v := 15) S.1 S.2.1 d_R_array_72 (by decide) ?_
              refine rx_call S hw (As := [.int 2, .int 0, .int 15]) (rest := []) (c_R_add l D cs b k lim q_1.2 2 0 15 (by rw [← hq_1]; exact h.2 _)) tb_447 tb_444 tb_446 tp_18 tb_5 hd_R_add rfl ⟨by omega, by omega⟩ hl.1 rfl (Nat.le_of_ble_eq_true rfl) d_R_array_74 (fun H locs hw => ?_)
              generalize hq_3 : rm_add q_1.2 2 0 15 = q_3 at hw ⊢
              refine W.eq (g2 := F0 m 77 ls [.int q_3.1]) rfl ?_
              refine lv_istore (lv' := [(5, .int q_3.1), (4, .int 0), (0, .ref (bO b)), (1, .int g), (2, .int n), (3, .int x)]) S.1 S.2.1 d_R_array_77 hl (by decide) rfl (fun ls hl => ?_)
              refine lv_aload_n S.1 S.2.1 d_R_array_79 rfl (lv_at hl 2 rfl) ?_
              refine rx_get S hw (j := 5) (v := .ref (bLen b)) (by decide) tb_358 rfl rfl d_R_array_80 ?_
              refine lv_iload S.1 S.2.1 d_R_array_83 (lv_at hl 0 rfl) ?_
              refine lv_iload_n S.1 S.2.1 d_R_array_85 rfl (lv_at hl 4 rfl) ?_
              refine lv_i2s S.1 S.2.1 d_R_array_86 rfl ?_
              refine rx_stLen S hw (i := q_3.1) (x := n.toInt16.toInt32) (by rw [← hq_3, rm_add_1, ← hq_1]; exact (h.2 _).2.1) d_R_array_87 (fun H locs hw => ?_)
              refine lv_aload_n S.1 S.2.1 d_R_array_88 rfl (lv_at hl 2 rfl) ?_
              refine rx_get S hw (j := 6) (v := .ref (bOfr b)) (by decide) tb_359 rfl rfl d_R_array_89 ?_
              refine lv_iload S.1 S.2.1 d_R_array_92 (lv_at hl 0 rfl) ?_
              refine lv_iload_n S.1 S.2.1 d_R_array_94 rfl (lv_at hl 5 rfl) ?_
              refine rx_stOfr S hw (i := q_3.1) (x := x) (by rw [← hq_3, rm_add_1, ← hq_1]; exact (h.2 _).2.1) d_R_array_95 (fun H locs hw => ?_)
              refine lv_aload_n S.1 S.2.1 d_R_array_96 rfl (lv_at hl 2 rfl) ?_
              refine rx_get S hw (j := 11) (v := .ref (bReg b)) (by decide) tb_364 rfl rfl d_R_array_97 ?_
              refine lv_iload_n S.1 S.2.1 d_R_array_100 rfl (lv_at hl 3 rfl) ?_
              refine lv_iload S.1 S.2.1 d_R_array_101 (lv_at hl 0 rfl) ?_
              refine lv_iconst (v := 1) S.1 S.2.1 d_R_array_103 (by decide) ?_
              refine lv_iadd S.1 S.2.1 d_R_array_104 ?_
              refine rx_stReg S hw (i := g) (x := q_3.1 + 1) (in8 c_1) d_R_array_105 (fun H locs hw => ?_)
              refine lv_iconst (v := 1) S.1 S.2.1 d_R_array_106 (by decide) ?_
              exact rx_retI S hr hlk hw (by first | (unfold rm_array rm_arrFin; simp only [if_neg c_1, if_neg c_2, if_pos c_3, hq_1, if_neg c_4, if_pos c_5, if_pos c_8, hq_3]; done) | (subst hq_3; subst hq_1; unfold rm_array rm_arrFin; simp only [if_neg c_1, if_neg c_2, if_pos c_3, if_neg c_4, if_pos c_5, if_pos c_8]; done)) (by first | (unfold rm_array rm_arrFin; simp only [if_neg c_1, if_neg c_2, if_pos c_3, hq_1, if_neg c_4, if_pos c_5, if_pos c_8, hq_3]; done) | (subst hq_3; subst hq_1; unfold rm_array rm_arrFin; simp only [if_neg c_1, if_neg c_2, if_pos c_3, if_neg c_4, if_pos c_5, if_pos c_8]; done)) d_R_array_107
            · refine lv_iconst (v := 1) S.1 S.2.1 d_R_array_43 (by decide) ?_
              refine lv_goto (tgt := 48) S.1 S.2.1 d_R_array_44 (by decide) ?_
              refine lv_istore (lv' := [(4, .int 1), (0, .ref (bO b)), (1, .int g), (2, .int n), (3, .int x)]) S.1 S.2.1 d_R_array_48 hl (by decide) rfl (fun ls hl => ?_)
              refine lv_aload_n S.1 S.2.1 d_R_array_50 rfl (lv_at hl 1 rfl) ?_
              refine lv_iconst (v := 2) S.1 S.2.1 d_R_array_51 (by decide) ?_
              refine lv_iload S.1 S.2.1 d_R_array_52 (lv_at hl 0 rfl) ?_
              refine lv_if_eq (tgt := 62) S.1 S.2.1 d_R_array_54 (by decide) (fun c_11 => absurd c_11 (by decide)) (fun c_11 => ?_)
              refine lv_bipush (v := 15) S.1 S.2.1 d_R_array_57 (by decide) ?_
              refine lv_goto (tgt := 63) S.1 S.2.1 d_R_array_59 (by decide) ?_
              refine lv_iload S.1 S.2.1 d_R_array_63 (lv_at hl 0 rfl) ?_
              refine lv_if_eq (tgt := 72) S.1 S.2.1 d_R_array_65 (by decide) (fun c_12 => absurd c_12 (by decide)) (fun c_12 => ?_)
              refine lv_iconst (v := 0) S.1 S.2.1 d_R_array_68 (by decide) ?_
              refine lv_goto (tgt := 74) S.1 S.2.1 d_R_array_69 (by decide) ?_
              refine rx_call S hw (As := [.int 2, .int 15, .int 0]) (rest := []) (c_R_add l D cs b k lim q_1.2 2 15 0 (by rw [← hq_1]; exact h.2 _)) tb_447 tb_444 tb_446 tp_18 tb_5 hd_R_add rfl ⟨by omega, by omega⟩ hl.1 rfl (Nat.le_of_ble_eq_true rfl) d_R_array_74 (fun H locs hw => ?_)
              generalize hq_4 : rm_add q_1.2 2 15 0 = q_4 at hw ⊢
              refine W.eq (g2 := F0 m 77 ls [.int q_4.1]) rfl ?_
              refine lv_istore (lv' := [(5, .int q_4.1), (4, .int 1), (0, .ref (bO b)), (1, .int g), (2, .int n), (3, .int x)]) S.1 S.2.1 d_R_array_77 hl (by decide) rfl (fun ls hl => ?_)
              refine lv_aload_n S.1 S.2.1 d_R_array_79 rfl (lv_at hl 2 rfl) ?_
              refine rx_get S hw (j := 5) (v := .ref (bLen b)) (by decide) tb_358 rfl rfl d_R_array_80 ?_
              refine lv_iload S.1 S.2.1 d_R_array_83 (lv_at hl 0 rfl) ?_
              refine lv_iload_n S.1 S.2.1 d_R_array_85 rfl (lv_at hl 4 rfl) ?_
              refine lv_i2s S.1 S.2.1 d_R_array_86 rfl ?_
              refine rx_stLen S hw (i := q_4.1) (x := n.toInt16.toInt32) (by rw [← hq_4, rm_add_1, ← hq_1]; exact (h.2 _).2.1) d_R_array_87 (fun H locs hw => ?_)
              refine lv_aload_n S.1 S.2.1 d_R_array_88 rfl (lv_at hl 2 rfl) ?_
              refine rx_get S hw (j := 6) (v := .ref (bOfr b)) (by decide) tb_359 rfl rfl d_R_array_89 ?_
              refine lv_iload S.1 S.2.1 d_R_array_92 (lv_at hl 0 rfl) ?_
              refine lv_iload_n S.1 S.2.1 d_R_array_94 rfl (lv_at hl 5 rfl) ?_
              refine rx_stOfr S hw (i := q_4.1) (x := x) (by rw [← hq_4, rm_add_1, ← hq_1]; exact (h.2 _).2.1) d_R_array_95 (fun H locs hw => ?_)
              refine lv_aload_n S.1 S.2.1 d_R_array_96 rfl (lv_at hl 2 rfl) ?_
              refine rx_get S hw (j := 11) (v := .ref (bReg b)) (by decide) tb_364 rfl rfl d_R_array_97 ?_
              refine lv_iload_n S.1 S.2.1 d_R_array_100 rfl (lv_at hl 3 rfl) ?_
              refine lv_iload S.1 S.2.1 d_R_array_101 (lv_at hl 0 rfl) ?_
              refine lv_iconst (v := 1) S.1 S.2.1 d_R_array_103 (by decide) ?_
              refine lv_iadd S.1 S.2.1 d_R_array_104 ?_
              refine rx_stReg S hw (i := g) (x := q_4.1 + 1) (in8 c_1) d_R_array_105 (fun H locs hw => ?_)
              refine lv_iconst (v := 1) S.1 S.2.1 d_R_array_106 (by decide) ?_
              exact rx_retI S hr hlk hw (by first | (unfold rm_array rm_arrFin; simp only [if_neg c_1, if_neg c_2, if_pos c_3, hq_1, if_neg c_4, if_pos c_5, if_neg c_8, hq_4]; done) | (subst hq_4; subst hq_1; unfold rm_array rm_arrFin; simp only [if_neg c_1, if_neg c_2, if_pos c_3, if_neg c_4, if_pos c_5, if_neg c_8]; done)) (by first | (unfold rm_array rm_arrFin; simp only [if_neg c_1, if_neg c_2, if_pos c_3, hq_1, if_neg c_4, if_pos c_5, if_neg c_8, hq_4]; done) | (subst hq_4; subst hq_1; unfold rm_array rm_arrFin; simp only [if_neg c_1, if_neg c_2, if_pos c_3, if_neg c_4, if_pos c_5, if_neg c_8]; done)) d_R_array_107
        · refine lv_iconst (v := 0) S.1 S.2.1 d_R_array_29 (by decide) ?_
          exact rx_retI S hr hlk hw (by first | (unfold rm_array rm_arrFin; simp only [if_neg c_1, if_neg c_2, if_pos c_3, hq_1, if_pos c_4]; done) | (subst hq_1; unfold rm_array rm_arrFin; simp only [if_neg c_1, if_neg c_2, if_pos c_3, if_pos c_4]; done)) (by first | (unfold rm_array rm_arrFin; simp only [if_neg c_1, if_neg c_2, if_pos c_3, hq_1, if_pos c_4]; done) | (subst hq_1; unfold rm_array rm_arrFin; simp only [if_neg c_1, if_neg c_2, if_pos c_3, if_pos c_4]; done)) d_R_array_30
      · refine lv_iconst (v := -1) S.1 S.2.1 d_R_array_18 (by decide) ?_
        exact rx_retI S hr hlk hw (by first | (unfold rm_array rm_arrFin; simp only [if_neg c_1, if_neg c_2, if_neg c_3]; done) | (unfold rm_array rm_arrFin; simp only [if_neg c_1, if_neg c_2, if_neg c_3]; done)) (by first | (unfold rm_array rm_arrFin; simp only [if_neg c_1, if_neg c_2, if_neg c_3]; done) | (unfold rm_array rm_arrFin; simp only [if_neg c_1, if_neg c_2, if_neg c_3]; done)) d_R_array_19
