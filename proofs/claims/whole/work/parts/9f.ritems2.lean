/-! ===== putItem and setItem of the reference: fill only where it is reached ===== -/
set_option maxHeartbeats 400000 in
set_option maxRecDepth 100000 in
theorem c_R_putItem2 (l : Launch) (D : va_G) (cs : rx_c) (b : rx_a) (k lim : Int32) (ρ : rm_S) (o i r : Int32) {ob : Nat} (hok : rm_ok ρ ob) (hI : rs_it ρ o i) (hF : (∃ x, ¬ rm_hasItem ρ o i x = 0) → (rm_item ρ o i).1 = -1 → rs_fill k lim (rm_item ρ o i).2) {N : Nat} (hN : rObj ρ = nI N) (hN9 : N < 2 ^ 30) : rx_Met l D cs b k lim y_R_putItem b_R_putItem 5 (some .int) 4 89 [.ref (bO b), .int o, .int i, .int r] ρ (some (.int ((rm_putItem k lim ρ o i r).1))) ((rm_putItem k lim ρ o i r).2) := by
  refine rx_start (by decide) (Nat.le_of_ble_eq_true rfl) ?_
  intro p e R s m args below meth c A ls S hr hlk hfr hlc hw hl
  have hl : lv_has ls 5 [(0, .ref (bO b)), (1, .int o), (2, .int i), (3, .int r)] := hl
  refine lv_iload_n S.1 S.2.1 d_R_putItem_0 rfl (lv_at hl 3 rfl) ?_
  refine cx_fn S (As := [.int r]) (rest := []) (c_R_isRegister l r) tb_423 tb_421 tb_422 tb_5 hdf_R_isRegister rfl ⟨by omega, by omega⟩ hl.1 rfl (Nat.le_of_ble_eq_true rfl) d_R_putItem_1 ⟨Nat.zero_le _, Nat.zero_le _⟩ ?_
  refine lv_if_eq (tgt := 17) S.1 S.2.1 d_R_putItem_4 (by decide) (fun c_1 => ?_) (fun c_1 => ?_)
  · refine lv_iconst (v := -1) S.1 S.2.1 d_R_putItem_17 (by decide) ?_
    exact rx_retI S hr hlk hw (by first | (unfold rm_putItem; simp only [if_pos c_1]; done) | (unfold rm_putItem; simp only [if_pos c_1]; done)) (by first | (unfold rm_putItem; simp only [if_pos c_1]; done) | (unfold rm_putItem; simp only [if_pos c_1]; done)) d_R_putItem_18
  · refine lv_aload_n S.1 S.2.1 d_R_putItem_7 rfl (lv_at hl 0 rfl) ?_
    refine lv_iload_n S.1 S.2.1 d_R_putItem_8 rfl (lv_at hl 1 rfl) ?_
    refine lv_iload_n S.1 S.2.1 d_R_putItem_9 rfl (lv_at hl 2 rfl) ?_
    refine lv_iconst (v := 1) S.1 S.2.1 d_R_putItem_10 (by decide) ?_
    refine rx_rd S hw (As := [.int o, .int i, .int 1]) (rest := []) (c_R_hasItem l D cs b k lim ρ o i 1 hok) tb_483 tb_480 tb_482 tp_20 tb_5 hd_R_hasItem rfl ⟨by omega, by omega⟩ hl.1 rfl (Nat.le_of_ble_eq_true rfl) d_R_putItem_11 ?_
    refine lv_if_ne (tgt := 19) S.1 S.2.1 d_R_putItem_14 (by decide) (fun c_2 => ?_) (fun c_2 => ?_)
    · refine lv_aload_n S.1 S.2.1 d_R_putItem_19 rfl (lv_at hl 0 rfl) ?_
      refine lv_iload_n S.1 S.2.1 d_R_putItem_20 rfl (lv_at hl 1 rfl) ?_
      refine lv_iload_n S.1 S.2.1 d_R_putItem_21 rfl (lv_at hl 2 rfl) ?_
      refine rx_call S hw (As := [.int o, .int i]) (rest := []) (c_R_item l D cs b k lim ρ o i (hI _ c_2).1) tb_487 tb_484 tb_486 tp_21 tb_5 hd_R_item rfl ⟨by omega, by omega⟩ hl.1 rfl (Nat.le_of_ble_eq_true rfl) d_R_putItem_22 (fun H locs hw => ?_)
      generalize hq_1 : rm_item ρ o i = q_1 at hw ⊢
      refine W.eq (g2 := F0 m 25 ls [.int q_1.1]) rfl ?_
      refine lv_istore (lv' := [(4, .int q_1.1), (0, .ref (bO b)), (1, .int o), (2, .int i), (3, .int r)]) S.1 S.2.1 d_R_putItem_25 hl (by decide) rfl (fun ls hl => ?_)
      refine lv_iload S.1 S.2.1 d_R_putItem_27 (lv_at hl 0 rfl) ?_
      refine lv_iconst (v := -1) S.1 S.2.1 d_R_putItem_29 (by decide) ?_
      refine lv_icmp_ne (tgt := 39) S.1 S.2.1 d_R_putItem_30 (by decide) (fun c_3 => ?_) (fun c_3 => ?_)
      · refine lv_aload_n S.1 S.2.1 d_R_putItem_39 rfl (lv_at hl 1 rfl) ?_
        refine rx_get S hw (j := 7) (v := .ref (bRow b)) (by decide) tb_360 rfl rfl d_R_putItem_40 ?_
        refine lv_iload S.1 S.2.1 d_R_putItem_43 (lv_at hl 0 rfl) ?_
        refine lv_aload_n S.1 S.2.1 d_R_putItem_45 rfl (lv_at hl 1 rfl) ?_
        refine rx_get S hw (j := 11) (v := .ref (bReg b)) (by decide) tb_364 rfl rfl d_R_putItem_46 ?_
        refine lv_iload_n S.1 S.2.1 d_R_putItem_49 rfl (lv_at hl 4 rfl) ?_
        refine rx_ldReg S hw (i := r) (in8 c_1) d_R_putItem_50 ?_
        refine rx_stRow S hw (i := q_1.1) (x := rReg q_1.2 (r).toNatClampNeg) (by rw [← hq_1]; exact (hI _ c_2).2 (by rw [hq_1]; exact c_3)) d_R_putItem_51 (fun H locs hw => ?_)
        refine lv_iconst (v := 1) S.1 S.2.1 d_R_putItem_52 (by decide) ?_
        exact rx_retI S hr hlk hw (by first | (unfold rm_putItem; simp only [if_neg c_1, if_neg c_2, hq_1, if_neg c_3]; done) | (subst hq_1; unfold rm_putItem; simp only [if_neg c_1, if_neg c_2, if_neg c_3]; done)) (by first | (unfold rm_putItem; simp only [if_neg c_1, if_neg c_2, hq_1, if_neg c_3]; done) | (subst hq_1; unfold rm_putItem; simp only [if_neg c_1, if_neg c_2, if_neg c_3]; done)) d_R_putItem_53
      · refine lv_aload_n S.1 S.2.1 d_R_putItem_33 rfl (lv_at hl 1 rfl) ?_
        refine lv_iconst (v := 1) S.1 S.2.1 d_R_putItem_34 (by decide) ?_
        refine rx_call S hw (As := [.int 1]) (rest := []) (c_R_fill l D cs b k lim q_1.2 1 (by rw [← hq_1]; exact hF ⟨1, c_2⟩ (by rw [hq_1]; exact c_3)) (by rw [← hq_1]; unfold rm_item; rw [rp_itemObj]; exact hN) hN9) tb_495 tb_492 tb_494 tp_22 tb_5 hd_R_fill rfl ⟨by omega, by omega⟩ hl.1 rfl (Nat.le_of_ble_eq_true rfl) d_R_putItem_35 (fun H locs hw => ?_)
        generalize hq_2 : rm_fill k lim q_1.2 1 = q_2 at hw ⊢
        refine W.eq (g2 := F0 m 38 ls [.int q_2.1]) rfl ?_
        exact rx_retI S hr hlk hw (by first | (unfold rm_putItem; simp only [if_neg c_1, if_neg c_2, hq_1, if_pos c_3, hq_2]; done) | (subst hq_2; subst hq_1; unfold rm_putItem; simp only [if_neg c_1, if_neg c_2, if_pos c_3]; done)) (by first | (unfold rm_putItem; simp only [if_neg c_1, if_neg c_2, hq_1, if_pos c_3, hq_2]; done) | (subst hq_2; subst hq_1; unfold rm_putItem; simp only [if_neg c_1, if_neg c_2, if_pos c_3]; done)) d_R_putItem_38
    · refine lv_iconst (v := -1) S.1 S.2.1 d_R_putItem_17 (by decide) ?_
      exact rx_retI S hr hlk hw (by first | (unfold rm_putItem; simp only [if_neg c_1, if_pos c_2]; done) | (unfold rm_putItem; simp only [if_neg c_1, if_pos c_2]; done)) (by first | (unfold rm_putItem; simp only [if_neg c_1, if_pos c_2]; done) | (unfold rm_putItem; simp only [if_neg c_1, if_pos c_2]; done)) d_R_putItem_18
set_option maxHeartbeats 400000 in
set_option maxRecDepth 100000 in
theorem c_R_setItem2 (l : Launch) (D : va_G) (cs : rx_c) (b : rx_a) (k lim : Int32) (ρ : rm_S) (o i v : Int32) {ob : Nat} (hok : rm_ok ρ ob) (hI : rs_it ρ o i) (hF : (∃ x, ¬ rm_hasItem ρ o i x = 0) → (rm_item ρ o i).1 = -1 → rs_fill k lim (rm_item ρ o i).2) {N : Nat} (hN : rObj ρ = nI N) (hN9 : N < 2 ^ 30) : rx_Met l D cs b k lim y_R_setItem b_R_setItem 5 (some .int) 4 89 [.ref (bO b), .int o, .int i, .int v] ρ (some (.int ((rm_setItem k lim ρ o i v).1))) ((rm_setItem k lim ρ o i v).2) := by
  refine rx_start (by decide) (Nat.le_of_ble_eq_true rfl) ?_
  intro p e R s m args below meth c A ls S hr hlk hfr hlc hw hl
  have hl : lv_has ls 5 [(0, .ref (bO b)), (1, .int o), (2, .int i), (3, .int v)] := hl
  refine lv_aload_n S.1 S.2.1 d_R_setItem_0 rfl (lv_at hl 0 rfl) ?_
  refine lv_iload_n S.1 S.2.1 d_R_setItem_1 rfl (lv_at hl 1 rfl) ?_
  refine lv_iload_n S.1 S.2.1 d_R_setItem_2 rfl (lv_at hl 2 rfl) ?_
  refine lv_iconst (v := 0) S.1 S.2.1 d_R_setItem_3 (by decide) ?_
  refine rx_rd S hw (As := [.int o, .int i, .int 0]) (rest := []) (c_R_hasItem l D cs b k lim ρ o i 0 hok) tb_483 tb_480 tb_482 tp_20 tb_5 hd_R_hasItem rfl ⟨by omega, by omega⟩ hl.1 rfl (Nat.le_of_ble_eq_true rfl) d_R_setItem_4 ?_
  refine lv_if_ne (tgt := 12) S.1 S.2.1 d_R_setItem_7 (by decide) (fun c_1 => ?_) (fun c_1 => ?_)
  · refine lv_aload_n S.1 S.2.1 d_R_setItem_12 rfl (lv_at hl 0 rfl) ?_
    refine lv_iload_n S.1 S.2.1 d_R_setItem_13 rfl (lv_at hl 1 rfl) ?_
    refine lv_iload_n S.1 S.2.1 d_R_setItem_14 rfl (lv_at hl 2 rfl) ?_
    refine rx_call S hw (As := [.int o, .int i]) (rest := []) (c_R_item l D cs b k lim ρ o i (hI _ c_1).1) tb_487 tb_484 tb_486 tp_21 tb_5 hd_R_item rfl ⟨by omega, by omega⟩ hl.1 rfl (Nat.le_of_ble_eq_true rfl) d_R_setItem_15 (fun H locs hw => ?_)
    generalize hq_1 : rm_item ρ o i = q_1 at hw ⊢
    refine W.eq (g2 := F0 m 18 ls [.int q_1.1]) rfl ?_
    refine lv_istore (lv' := [(4, .int q_1.1), (0, .ref (bO b)), (1, .int o), (2, .int i), (3, .int v)]) S.1 S.2.1 d_R_setItem_18 hl (by decide) rfl (fun ls hl => ?_)
    refine lv_iload S.1 S.2.1 d_R_setItem_20 (lv_at hl 0 rfl) ?_
    refine lv_iconst (v := -1) S.1 S.2.1 d_R_setItem_22 (by decide) ?_
    refine lv_icmp_ne (tgt := 32) S.1 S.2.1 d_R_setItem_23 (by decide) (fun c_2 => ?_) (fun c_2 => ?_)
    · refine lv_aload_n S.1 S.2.1 d_R_setItem_32 rfl (lv_at hl 1 rfl) ?_
      refine rx_get S hw (j := 7) (v := .ref (bRow b)) (by decide) tb_360 rfl rfl d_R_setItem_33 ?_
      refine lv_iload S.1 S.2.1 d_R_setItem_36 (lv_at hl 0 rfl) ?_
      refine lv_iload_n S.1 S.2.1 d_R_setItem_38 rfl (lv_at hl 4 rfl) ?_
      refine rx_stRow S hw (i := q_1.1) (x := v) (by rw [← hq_1]; exact (hI _ c_1).2 (by rw [hq_1]; exact c_2)) d_R_setItem_39 (fun H locs hw => ?_)
      refine lv_iconst (v := 1) S.1 S.2.1 d_R_setItem_40 (by decide) ?_
      exact rx_retI S hr hlk hw (by first | (unfold rm_setItem; simp only [if_neg c_1, hq_1, if_neg c_2]; done) | (subst hq_1; unfold rm_setItem; simp only [if_neg c_1, if_neg c_2]; done)) (by first | (unfold rm_setItem; simp only [if_neg c_1, hq_1, if_neg c_2]; done) | (subst hq_1; unfold rm_setItem; simp only [if_neg c_1, if_neg c_2]; done)) d_R_setItem_41
    · refine lv_aload_n S.1 S.2.1 d_R_setItem_26 rfl (lv_at hl 1 rfl) ?_
      refine lv_iconst (v := 0) S.1 S.2.1 d_R_setItem_27 (by decide) ?_
      refine rx_call S hw (As := [.int 0]) (rest := []) (c_R_fill l D cs b k lim q_1.2 0 (by rw [← hq_1]; exact hF ⟨0, c_1⟩ (by rw [hq_1]; exact c_2)) (by rw [← hq_1]; unfold rm_item; rw [rp_itemObj]; exact hN) hN9) tb_495 tb_492 tb_494 tp_22 tb_5 hd_R_fill rfl ⟨by omega, by omega⟩ hl.1 rfl (Nat.le_of_ble_eq_true rfl) d_R_setItem_28 (fun H locs hw => ?_)
      generalize hq_2 : rm_fill k lim q_1.2 0 = q_2 at hw ⊢
      refine W.eq (g2 := F0 m 31 ls [.int q_2.1]) rfl ?_
      exact rx_retI S hr hlk hw (by first | (unfold rm_setItem; simp only [if_neg c_1, hq_1, if_pos c_2, hq_2]; done) | (subst hq_2; subst hq_1; unfold rm_setItem; simp only [if_neg c_1, if_pos c_2]; done)) (by first | (unfold rm_setItem; simp only [if_neg c_1, hq_1, if_pos c_2, hq_2]; done) | (subst hq_2; subst hq_1; unfold rm_setItem; simp only [if_neg c_1, if_pos c_2]; done)) d_R_setItem_31
  · refine lv_iconst (v := -1) S.1 S.2.1 d_R_setItem_10 (by decide) ?_
    exact rx_retI S hr hlk hw (by first | (unfold rm_setItem; simp only [if_pos c_1]; done) | (unfold rm_setItem; simp only [if_pos c_1]; done)) (by first | (unfold rm_setItem; simp only [if_pos c_1]; done) | (unfold rm_setItem; simp only [if_pos c_1]; done)) d_R_setItem_11
