/-! ===== THE REFERENCE: item, fill, the calls on items ===== -/
section LRI
variable {p : Program} {l : Launch} {e : Env} {R : Room} {s : State} {m : MethodId} {args : Array Value} {below : List Frame} {meth : Method} {c : Code} {D : va_G} {cs : rx_c} {b : rx_a} {k lim : Int32} {A : Nat → Prop} {c1 : Cond}
set_option maxHeartbeats 400000 in
set_option maxRecDepth 100000 in
theorem lr_item (S : CallFix p m c b_R_item 8 s args (c1 :: bt) "StepHeapModel") (hr : meth.sig.returnType = some .int) (hlk : meth.locks = false) :
    ∀ (c9 : Nat) (τ : rm_S) (o left each : Int32) (H : Heap) (locs : List Loc) (ls : Array Slot) (r : Int32 × rm_S), r = rm_itemN τ o left each c9 → rs_itemN τ o left each c9 → rx_Wd D cs b k lim s A τ H locs → lv_has ls 8 [(6, .int left), (5, .int each), (3, .int o), (0, .ref (bO b))] →
    W p l e R s m args below meth c H locs 0 0 (MQ below (sx_Q (some (.int r.1)) (fun t => va_P D vwC (rx_w cs b k lim r.2) t.heap ∧ va_D A (rx_w cs b k lim r.2)) A 0 0) args s 0 0 A) (F0 m 49 ls []) := by
  intro c9
  induction c9 with
  | zero =>
    intro τ o left each H locs ls r hrr hs hw hl
    refine lv_iload S.1 S.2.1 d_R_item_49 (lv_at hl 1 rfl) ?_
    refine lv_iconst (v := 1) S.1 S.2.1 d_R_item_51 (by decide) ?_
    refine lv_icmp_le (tgt := 127) S.1 S.2.1 d_R_item_52 (by decide) (fun c_1 => ?_) (fun c_1 => ?_)
    · refine lv_iload_n S.1 S.2.1 d_R_item_127 rfl (lv_at hl 2 rfl) ?_
      refine lv_bipush (v := 16) S.1 S.2.1 d_R_item_128 (by decide) ?_
      refine lv_imul S.1 S.2.1 d_R_item_130 ?_
      refine lv_iload S.1 S.2.1 d_R_item_131 (lv_at hl 0 rfl) ?_
      refine lv_iadd S.1 S.2.1 d_R_item_133 ?_
      exact rx_retI S hr hlk hw (by rw [hrr]; rfl) (by rw [hrr]; rfl) d_R_item_134
    · exact absurd hs c_1
  | succ c9 ih =>
    intro τ o left each H locs ls r hrr hs hw hl
    refine lv_iload S.1 S.2.1 d_R_item_49 (lv_at hl 1 rfl) ?_
    refine lv_iconst (v := 1) S.1 S.2.1 d_R_item_51 (by decide) ?_
    refine lv_icmp_le (tgt := 127) S.1 S.2.1 d_R_item_52 (by decide) (fun c_1 => ?_) (fun c_1 => ?_)
    · refine lv_iload_n S.1 S.2.1 d_R_item_127 rfl (lv_at hl 2 rfl) ?_
      refine lv_bipush (v := 16) S.1 S.2.1 d_R_item_128 (by decide) ?_
      refine lv_imul S.1 S.2.1 d_R_item_130 ?_
      refine lv_iload S.1 S.2.1 d_R_item_131 (lv_at hl 0 rfl) ?_
      refine lv_iadd S.1 S.2.1 d_R_item_133 ?_
      exact rx_retI S hr hlk hw (by rw [hrr, rm_itemN]; simp only [if_pos c_1]) (by rw [hrr, rm_itemN]; simp only [if_pos c_1]) d_R_item_134
    · have hs := hs.resolve_left c_1
      refine lv_iload_n S.1 S.2.1 d_R_item_55 rfl (lv_at hl 2 rfl) ?_
      refine lv_bipush (v := 16) S.1 S.2.1 d_R_item_56 (by decide) ?_
      refine lv_imul S.1 S.2.1 d_R_item_58 ?_
      refine lv_iload S.1 S.2.1 d_R_item_59 (lv_at hl 0 rfl) ?_
      refine lv_iload S.1 S.2.1 d_R_item_61 (lv_at hl 1 rfl) ?_
      refine lv_idiv S.1 S.2.1 d_R_item_63 ((fun z => c_1 (by rw [z]; decide))) ?_
      refine lv_iadd S.1 S.2.1 d_R_item_64 ?_
      refine lv_istore (lv' := [(7, .int ((o * 16) + (left / each))), (6, .int left), (5, .int each), (3, .int o), (0, .ref (bO b))]) S.1 S.2.1 d_R_item_65 hl (by decide) rfl (fun ls hl => ?_)
      refine lv_iload S.1 S.2.1 d_R_item_67 (lv_at hl 1 rfl) ?_
      refine lv_iload S.1 S.2.1 d_R_item_69 (lv_at hl 2 rfl) ?_
      refine lv_irem S.1 S.2.1 d_R_item_71 ((fun z => c_1 (by rw [z]; decide))) ?_
      refine lv_istore (lv' := [(6, .int (left - left / each * each)), (7, .int ((o * 16) + (left / each))), (5, .int each), (3, .int o), (0, .ref (bO b))]) S.1 S.2.1 d_R_item_72 hl (by decide) rfl (fun ls hl => ?_)
      refine lv_iload S.1 S.2.1 d_R_item_74 (lv_at hl 2 rfl) ?_
      refine lv_bipush (v := 15) S.1 S.2.1 d_R_item_76 (by decide) ?_
      refine lv_idiv S.1 S.2.1 d_R_item_78 (by decide) ?_
      refine lv_istore (lv' := [(5, .int (each / 15)), (6, .int (left - left / each * each)), (7, .int ((o * 16) + (left / each))), (3, .int o), (0, .ref (bO b))]) S.1 S.2.1 d_R_item_79 hl (by decide) rfl (fun ls hl => ?_)
      refine lv_aload_n S.1 S.2.1 d_R_item_81 rfl (lv_at hl 4 rfl) ?_
      refine rx_get S hw (j := 7) (v := .ref (bRow b)) (by decide) tb_360 rfl rfl d_R_item_82 ?_
      refine lv_iload S.1 S.2.1 d_R_item_85 (lv_at hl 2 rfl) ?_
      refine rx_ldRow S hw (i := (o * 16) + (left / each)) (hs.1) d_R_item_87 ?_
      refine lv_if_ne (tgt := 114) S.1 S.2.1 d_R_item_88 (by decide) (fun c_2 => ?_) (fun c_2 => ?_)
      · refine lv_aload_n S.1 S.2.1 d_R_item_114 rfl (lv_at hl 4 rfl) ?_
        refine rx_get S hw (j := 7) (v := .ref (bRow b)) (by decide) tb_360 rfl rfl d_R_item_115 ?_
        refine lv_iload S.1 S.2.1 d_R_item_118 (lv_at hl 2 rfl) ?_
        refine rx_ldRow S hw (i := (o * 16) + (left / each)) (hs.1) d_R_item_120 ?_
        refine lv_iconst (v := 1) S.1 S.2.1 d_R_item_121 (by decide) ?_
        refine lv_isub S.1 S.2.1 d_R_item_122 ?_
        refine lv_istore_n (lv' := [(3, .int ((rRow τ ((o * 16) + (left / each)).toNatClampNeg) - 1)), (5, .int (each / 15)), (6, .int (left - left / each * each)), (7, .int ((o * 16) + (left / each))), (0, .ref (bO b))]) S.1 S.2.1 d_R_item_123 rfl hl (by decide) rfl (fun ls hl => ?_)
        refine lv_goto (tgt := 49) S.1 S.2.1 d_R_item_124 (by decide) ?_
        have hs2 := hs.2.resolve_left c_2
        have hr2 : r = rm_itemN τ (rRow τ (o * 16 + left / each).toNatClampNeg - 1) (left - left / each * each) (each / 15) c9 := by rw [hrr, rm_itemN]; simp only [if_neg c_1, if_neg c_2]
        exact ih _ _ _ _ _ _ ls r hr2 hs2 hw (lv_sub hl [2, 1, 0, 4] rfl)
      · refine lv_aload_n S.1 S.2.1 d_R_item_91 rfl (lv_at hl 4 rfl) ?_
        refine lv_iload S.1 S.2.1 d_R_item_92 (lv_at hl 2 rfl) ?_
        refine rx_put S hw (ρ' := vGap τ ((o * 16) + (left / each))) (j := 18) (ty := .int) (by decide) tb_371 rfl rfl rfl rfl rfl rfl d_R_item_94 (fun H locs hw => ?_)
        refine lv_aload_n S.1 S.2.1 d_R_item_97 rfl (lv_at hl 4 rfl) ?_
        refine lv_iload S.1 S.2.1 d_R_item_98 (lv_at hl 0 rfl) ?_
        refine lv_iconst (v := 1) S.1 S.2.1 d_R_item_100 (by decide) ?_
        refine lv_icmp_ne (tgt := 108) S.1 S.2.1 d_R_item_101 (by decide) (fun c_3 => ?_) (fun c_3 => ?_)
        · refine lv_iconst (v := 0) S.1 S.2.1 d_R_item_108 (by decide) ?_
          refine rx_put S hw (ρ' := vGil (vGap τ ((o * 16) + (left / each))) (0)) (j := 19) (ty := .boolean) (by decide) tb_372 rfl rfl rfl rfl rfl rfl d_R_item_109 (fun H locs hw => ?_)
          refine lv_iconst (v := -1) S.1 S.2.1 d_R_item_112 (by decide) ?_
          exact rx_retI S hr hlk hw (by rw [hrr, rm_itemN]; simp only [if_neg c_1, if_pos c_2, if_neg c_3]) (by rw [hrr, rm_itemN]; simp only [if_neg c_1, if_pos c_2, if_neg c_3]) d_R_item_113
        · refine lv_iconst (v := 1) S.1 S.2.1 d_R_item_104 (by decide) ?_
          refine lv_goto (tgt := 109) S.1 S.2.1 d_R_item_105 (by decide) ?_
          refine rx_put S hw (ρ' := vGil (vGap τ ((o * 16) + (left / each))) (1)) (j := 19) (ty := .boolean) (by decide) tb_372 rfl rfl rfl rfl rfl rfl d_R_item_109 (fun H locs hw => ?_)
          refine lv_iconst (v := -1) S.1 S.2.1 d_R_item_112 (by decide) ?_
          exact rx_retI S hr hlk hw (by rw [hrr, rm_itemN]; simp only [if_neg c_1, if_pos c_2, if_pos c_3]) (by rw [hrr, rm_itemN]; simp only [if_neg c_1, if_pos c_2, if_pos c_3]) d_R_item_113
end LRI
set_option maxHeartbeats 400000 in
set_option maxRecDepth 100000 in
theorem c_R_item (l : Launch) (D : va_G) (cs : rx_c) (b : rx_a) (k lim : Int32) (ρ : rm_S) (r i : Int32) (h : rs_item ρ r i) : rx_Met l D cs b k lim y_R_item b_R_item 8 (some .int) 1 20 [.ref (bO b), .int r, .int i] ρ (some (.int ((rm_item ρ r i).1))) ((rm_item ρ r i).2) := by
  refine rx_start (by decide) (Nat.le_of_ble_eq_true rfl) ?_
  intro p e R s m args below meth c A ls S hr hlk hfr hlc hw hl
  have hl : lv_has ls 8 [(0, .ref (bO b)), (1, .int r), (2, .int i)] := hl
  refine lv_aload_n S.1 S.2.1 d_R_item_0 rfl (lv_at hl 0 rfl) ?_
  refine rx_get S hw (j := 11) (v := .ref (bReg b)) (by decide) tb_364 rfl rfl d_R_item_1 ?_
  refine lv_iload_n S.1 S.2.1 d_R_item_4 rfl (lv_at hl 1 rfl) ?_
  refine rx_ldReg S hw (i := r) (h.1) d_R_item_5 ?_
  refine lv_iconst (v := 1) S.1 S.2.1 d_R_item_6 (by decide) ?_
  refine lv_isub S.1 S.2.1 d_R_item_7 ?_
  refine lv_istore_n (lv' := [(3, .int ((rReg ρ (r).toNatClampNeg) - 1)), (0, .ref (bO b)), (1, .int r), (2, .int i)]) S.1 S.2.1 d_R_item_8 rfl hl (by decide) rfl (fun ls hl => ?_)
  refine lv_aload_n S.1 S.2.1 d_R_item_9 rfl (lv_at hl 1 rfl) ?_
  refine rx_get S hw (j := 5) (v := .ref (bLen b)) (by decide) tb_358 rfl rfl d_R_item_10 ?_
  refine lv_iload_n S.1 S.2.1 d_R_item_13 rfl (lv_at hl 0 rfl) ?_
  refine rx_ldLen S hw (i := (rReg ρ (r).toNatClampNeg) - 1) (h.2.1) d_R_item_14 ?_
  refine cx_fn S (As := [.int (rLen ρ ((rReg ρ (r).toNatClampNeg) - 1).toNatClampNeg)]) (rest := []) (c_R_levels l (rLen ρ ((rReg ρ (r).toNatClampNeg) - 1).toNatClampNeg)) tb_454 tb_452 tb_453 tb_5 hdf_R_levels rfl ⟨by omega, by omega⟩ hl.1 rfl (Nat.le_of_ble_eq_true rfl) d_R_item_15 ⟨Nat.zero_le _, Nat.zero_le _⟩ ?_
  refine lv_istore (lv' := [(4, .int (rm_levels (rLen ρ ((rReg ρ (r).toNatClampNeg) - 1).toNatClampNeg))), (3, .int ((rReg ρ (r).toNatClampNeg) - 1)), (0, .ref (bO b)), (1, .int r), (2, .int i)]) S.1 S.2.1 d_R_item_18 hl (by decide) rfl (fun ls hl => ?_)
  refine lv_iload S.1 S.2.1 d_R_item_20 (lv_at hl 0 rfl) ?_
  refine lv_iconst (v := 3) S.1 S.2.1 d_R_item_22 (by decide) ?_
  refine lv_icmp_ne (tgt := 32) S.1 S.2.1 d_R_item_23 (by decide) (fun c_1 => ?_) (fun c_1 => ?_)
  · refine lv_iload S.1 S.2.1 d_R_item_32 (lv_at hl 0 rfl) ?_
    refine lv_iconst (v := 2) S.1 S.2.1 d_R_item_34 (by decide) ?_
    refine lv_icmp_ne (tgt := 43) S.1 S.2.1 d_R_item_35 (by decide) (fun c_2 => ?_) (fun c_2 => ?_)
    · refine lv_iconst (v := 1) S.1 S.2.1 d_R_item_43 (by decide) ?_
      refine lv_istore (lv' := [(5, .int 1), (4, .int (rm_levels (rLen ρ ((rReg ρ (r).toNatClampNeg) - 1).toNatClampNeg))), (3, .int ((rReg ρ (r).toNatClampNeg) - 1)), (0, .ref (bO b)), (1, .int r), (2, .int i)]) S.1 S.2.1 d_R_item_44 hl (by decide) rfl (fun ls hl => ?_)
      refine lv_iload_n S.1 S.2.1 d_R_item_46 rfl (lv_at hl 5 rfl) ?_
      refine lv_istore (lv' := [(6, .int i), (5, .int 1), (4, .int (rm_levels (rLen ρ ((rReg ρ (r).toNatClampNeg) - 1).toNatClampNeg))), (3, .int ((rReg ρ (r).toNatClampNeg) - 1)), (0, .ref (bO b)), (1, .int r), (2, .int i)]) S.1 S.2.1 d_R_item_47 hl (by decide) rfl (fun ls hl => ?_)
      have ee : rm_each (rm_levels (rLen ρ (rm_o ρ r).toNatClampNeg)) = 1 := by unfold rm_each; simp only [if_neg c_1, if_neg c_2]
      have hs3 := h.2.2
      rw [ee] at hs3
      exact lr_item S hr hlk 3 ρ (rm_o ρ r) i 1 _ _ ls (rm_item ρ r i) (by unfold rm_item; rw [ee]) hs3 hw (lv_sub hl [0, 1, 3, 4] rfl)
    · refine lv_bipush (v := 15) S.1 S.2.1 d_R_item_38 (by decide) ?_
      refine lv_goto (tgt := 44) S.1 S.2.1 d_R_item_40 (by decide) ?_
      refine lv_istore (lv' := [(5, .int 15), (4, .int (rm_levels (rLen ρ ((rReg ρ (r).toNatClampNeg) - 1).toNatClampNeg))), (3, .int ((rReg ρ (r).toNatClampNeg) - 1)), (0, .ref (bO b)), (1, .int r), (2, .int i)]) S.1 S.2.1 d_R_item_44 hl (by decide) rfl (fun ls hl => ?_)
      refine lv_iload_n S.1 S.2.1 d_R_item_46 rfl (lv_at hl 5 rfl) ?_
      refine lv_istore (lv' := [(6, .int i), (5, .int 15), (4, .int (rm_levels (rLen ρ ((rReg ρ (r).toNatClampNeg) - 1).toNatClampNeg))), (3, .int ((rReg ρ (r).toNatClampNeg) - 1)), (0, .ref (bO b)), (1, .int r), (2, .int i)]) S.1 S.2.1 d_R_item_47 hl (by decide) rfl (fun ls hl => ?_)
      have ee : rm_each (rm_levels (rLen ρ (rm_o ρ r).toNatClampNeg)) = 15 := by unfold rm_each; simp only [if_neg c_1, if_pos c_2]
      have hs3 := h.2.2
      rw [ee] at hs3
      exact lr_item S hr hlk 3 ρ (rm_o ρ r) i 15 _ _ ls (rm_item ρ r i) (by unfold rm_item; rw [ee]) hs3 hw (lv_sub hl [0, 1, 3, 4] rfl)
  · refine lv_sipush (v := 225) S.1 S.2.1 d_R_item_26 (by decide) ?_
    refine lv_goto (tgt := 44) S.1 S.2.1 d_R_item_29 (by decide) ?_
    refine lv_istore (lv' := [(5, .int 225), (4, .int (rm_levels (rLen ρ ((rReg ρ (r).toNatClampNeg) - 1).toNatClampNeg))), (3, .int ((rReg ρ (r).toNatClampNeg) - 1)), (0, .ref (bO b)), (1, .int r), (2, .int i)]) S.1 S.2.1 d_R_item_44 hl (by decide) rfl (fun ls hl => ?_)
    refine lv_iload_n S.1 S.2.1 d_R_item_46 rfl (lv_at hl 5 rfl) ?_
    refine lv_istore (lv' := [(6, .int i), (5, .int 225), (4, .int (rm_levels (rLen ρ ((rReg ρ (r).toNatClampNeg) - 1).toNatClampNeg))), (3, .int ((rReg ρ (r).toNatClampNeg) - 1)), (0, .ref (bO b)), (1, .int r), (2, .int i)]) S.1 S.2.1 d_R_item_47 hl (by decide) rfl (fun ls hl => ?_)
    have ee : rm_each (rm_levels (rLen ρ (rm_o ρ r).toNatClampNeg)) = 225 := by unfold rm_each; simp only [if_pos c_1]
    have hs3 := h.2.2
    rw [ee] at hs3
    exact lr_item S hr hlk 3 ρ (rm_o ρ r) i 225 _ _ ls (rm_item ρ r i) (by unfold rm_item; rw [ee]) hs3 hw (lv_sub hl [0, 1, 3, 4] rfl)
set_option maxHeartbeats 400000 in
set_option maxRecDepth 100000 in
theorem c_R_fill (l : Launch) (D : va_G) (cs : rx_c) (b : rx_a) (k lim : Int32) (ρ : rm_S) (x : Int32) (h : rs_fill k lim ρ) {N : Nat} (hN : rObj ρ = nI N) (hN9 : N < 2 ^ 30) : rx_Met l D cs b k lim y_R_fill b_R_fill 4 (some .int) 3 66 [.ref (bO b), .int x] ρ (some (.int ((rm_fill k lim ρ x).1))) ((rm_fill k lim ρ x).2) := by
  refine rx_start (by decide) (Nat.le_of_ble_eq_true rfl) ?_
  intro p e R s m args below meth c A ls S hr hlk hfr hlc hw hl
  have hl : lv_has ls 4 [(0, .ref (bO b)), (1, .int x)] := hl
  refine lv_aload_n S.1 S.2.1 d_R_fill_0 rfl (lv_at hl 0 rfl) ?_
  refine lv_bipush (v := 16) S.1 S.2.1 d_R_fill_1 (by decide) ?_
  refine rx_call S hw (As := [.int 16]) (rest := []) (c_R_hasRoom l D cs b k lim ρ 16 h.1.1 hN hN9) tb_427 tb_424 tb_426 tp_13 tb_5 hd_R_hasRoom rfl ⟨by omega, by omega⟩ hl.1 rfl (Nat.le_of_ble_eq_true rfl) d_R_fill_3 (fun H locs hw => ?_)
  generalize hq_1 : rm_room k lim ρ 16 = q_1 at hw ⊢
  refine W.eq (g2 := F0 m 6 ls [.int q_1.1]) rfl ?_
  refine lv_if_ne (tgt := 11) S.1 S.2.1 d_R_fill_6 (by decide) (fun c_1 => ?_) (fun c_1 => ?_)
  · refine lv_iload_n S.1 S.2.1 d_R_fill_11 rfl (lv_at hl 1 rfl) ?_
    refine lv_if_ne (tgt := 22) S.1 S.2.1 d_R_fill_12 (by decide) (fun c_2 => ?_) (fun c_2 => ?_)
    · refine lv_iconst (v := 1) S.1 S.2.1 d_R_fill_22 (by decide) ?_
      refine lv_goto (tgt := 27) S.1 S.2.1 d_R_fill_23 (by decide) ?_
      refine lv_istore_n (lv' := [(2, .int 1), (0, .ref (bO b)), (1, .int x)]) S.1 S.2.1 d_R_fill_27 rfl hl (by decide) rfl (fun ls hl => ?_)
      refine lv_aload_n S.1 S.2.1 d_R_fill_28 rfl (lv_at hl 1 rfl) ?_
      refine rx_get S hw (j := 18) (v := .int (rGap q_1.2)) (by decide) tb_371 rfl rfl d_R_fill_29 ?_
      refine lv_istore_n (lv' := [(3, .int (rGap q_1.2)), (2, .int 1), (0, .ref (bO b)), (1, .int x)]) S.1 S.2.1 d_R_fill_32 rfl hl (by decide) rfl (fun ls hl => ?_)
      refine lv_aload_n S.1 S.2.1 d_R_fill_33 rfl (lv_at hl 2 rfl) ?_
      refine rx_get S hw (j := 7) (v := .ref (bRow b)) (by decide) tb_360 rfl rfl d_R_fill_34 ?_
      refine lv_iload_n S.1 S.2.1 d_R_fill_37 rfl (lv_at hl 0 rfl) ?_
      refine lv_aload_n S.1 S.2.1 d_R_fill_38 rfl (lv_at hl 2 rfl) ?_
      refine lv_iconst (v := 3) S.1 S.2.1 d_R_fill_39 (by decide) ?_
      refine lv_iload_n S.1 S.2.1 d_R_fill_40 rfl (lv_at hl 1 rfl) ?_
      refine lv_if_eq (tgt := 49) S.1 S.2.1 d_R_fill_41 (by decide) (fun c_3 => absurd c_3 (by decide)) (fun c_3 => ?_)
      refine lv_bipush (v := 15) S.1 S.2.1 d_R_fill_44 (by decide) ?_
      refine lv_goto (tgt := 50) S.1 S.2.1 d_R_fill_46 (by decide) ?_
      refine lv_iload_n S.1 S.2.1 d_R_fill_50 rfl (lv_at hl 1 rfl) ?_
      refine lv_if_eq (tgt := 58) S.1 S.2.1 d_R_fill_51 (by decide) (fun c_4 => absurd c_4 (by decide)) (fun c_4 => ?_)
      refine lv_iconst (v := 0) S.1 S.2.1 d_R_fill_54 (by decide) ?_
      refine lv_goto (tgt := 60) S.1 S.2.1 d_R_fill_55 (by decide) ?_
      refine rx_call S hw (As := [.int 3, .int 15, .int 0]) (rest := [.int (rGap q_1.2), .ref (bRow b)]) (c_R_add l D cs b k lim q_1.2 3 15 0 (by rw [← hq_1]; exact h.1.2 _)) tb_447 tb_444 tb_446 tp_18 tb_5 hd_R_add rfl ⟨by omega, by omega⟩ hl.1 rfl (Nat.le_of_ble_eq_true rfl) d_R_fill_60 (fun H locs hw => ?_)
      generalize hq_2 : rm_add q_1.2 3 15 0 = q_2 at hw ⊢
      refine W.eq (g2 := F0 m 63 ls [.int q_2.1, .int (rGap q_1.2), .ref (bRow b)]) rfl ?_
      refine lv_iconst (v := 1) S.1 S.2.1 d_R_fill_63 (by decide) ?_
      refine lv_iadd S.1 S.2.1 d_R_fill_64 ?_
      refine rx_stRow S hw (i := rGap q_1.2) (x := q_2.1 + 1) (by rw [← hq_1]; exact h.2) d_R_fill_65 (fun H locs hw => ?_)
      refine lv_iconst (v := 2) S.1 S.2.1 d_R_fill_66 (by decide) ?_
      exact rx_retI S hr hlk hw (by first | (unfold rm_fill rm_filFin; simp only [hq_1, if_neg c_1, if_neg c_2, hq_2]; done) | (subst hq_2; subst hq_1; unfold rm_fill rm_filFin; simp only [if_neg c_1, if_neg c_2]; done)) (by first | (unfold rm_fill rm_filFin; simp only [hq_1, if_neg c_1, if_neg c_2, hq_2]; done) | (subst hq_2; subst hq_1; unfold rm_fill rm_filFin; simp only [if_neg c_1, if_neg c_2]; done)) d_R_fill_67
    · refine lv_aload_n S.1 S.2.1 d_R_fill_15 rfl (lv_at hl 0 rfl) ?_
      refine rx_get S hw (j := 19) (v := .int (rGil q_1.2)) (by decide) tb_372 rfl rfl d_R_fill_16 ?_
      refine lv_if_ne (tgt := 26) S.1 S.2.1 d_R_fill_19 (by decide) (fun c_5 => ?_) (fun c_5 => ?_)
      · refine lv_iconst (v := 0) S.1 S.2.1 d_R_fill_26 (by decide) ?_
        refine lv_istore_n (lv' := [(2, .int 0), (0, .ref (bO b)), (1, .int x)]) S.1 S.2.1 d_R_fill_27 rfl hl (by decide) rfl (fun ls hl => ?_)
        refine lv_aload_n S.1 S.2.1 d_R_fill_28 rfl (lv_at hl 1 rfl) ?_
        refine rx_get S hw (j := 18) (v := .int (rGap q_1.2)) (by decide) tb_371 rfl rfl d_R_fill_29 ?_
        refine lv_istore_n (lv' := [(3, .int (rGap q_1.2)), (2, .int 0), (0, .ref (bO b)), (1, .int x)]) S.1 S.2.1 d_R_fill_32 rfl hl (by decide) rfl (fun ls hl => ?_)
        refine lv_aload_n S.1 S.2.1 d_R_fill_33 rfl (lv_at hl 2 rfl) ?_
        refine rx_get S hw (j := 7) (v := .ref (bRow b)) (by decide) tb_360 rfl rfl d_R_fill_34 ?_
        refine lv_iload_n S.1 S.2.1 d_R_fill_37 rfl (lv_at hl 0 rfl) ?_
        refine lv_aload_n S.1 S.2.1 d_R_fill_38 rfl (lv_at hl 2 rfl) ?_
        refine lv_iconst (v := 3) S.1 S.2.1 d_R_fill_39 (by decide) ?_
        refine lv_iload_n S.1 S.2.1 d_R_fill_40 rfl (lv_at hl 1 rfl) ?_
        refine lv_if_eq (tgt := 49) S.1 S.2.1 d_R_fill_41 (by decide) (fun c_6 => ?_) (fun c_6 => absurd c_6 (by decide))
        refine lv_iconst (v := 0) S.1 S.2.1 d_R_fill_49 (by decide) ?_
        refine lv_iload_n S.1 S.2.1 d_R_fill_50 rfl (lv_at hl 1 rfl) ?_
        refine lv_if_eq (tgt := 58) S.1 S.2.1 d_R_fill_51 (by decide) (fun c_7 => ?_) (fun c_7 => absurd c_7 (by decide))
        refine lv_bipush (v := 15) S.1 S.2.1 d_R_fill_58 (by decide) ?_
        refine rx_call S hw (As := [.int 3, .int 0, .int 15]) (rest := [.int (rGap q_1.2), .ref (bRow b)]) (c_R_add l D cs b k lim q_1.2 3 0 15 (by rw [← hq_1]; exact h.1.2 _)) tb_447 tb_444 tb_446 tp_18 tb_5 hd_R_add rfl ⟨by omega, by omega⟩ hl.1 rfl (Nat.le_of_ble_eq_true rfl) d_R_fill_60 (fun H locs hw => ?_)
        generalize hq_3 : rm_add q_1.2 3 0 15 = q_3 at hw ⊢
        refine W.eq (g2 := F0 m 63 ls [.int q_3.1, .int (rGap q_1.2), .ref (bRow b)]) rfl ?_
        refine lv_iconst (v := 1) S.1 S.2.1 d_R_fill_63 (by decide) ?_
        refine lv_iadd S.1 S.2.1 d_R_fill_64 ?_
        refine rx_stRow S hw (i := rGap q_1.2) (x := q_3.1 + 1) (by rw [← hq_1]; exact h.2) d_R_fill_65 (fun H locs hw => ?_)
        refine lv_iconst (v := 2) S.1 S.2.1 d_R_fill_66 (by decide) ?_
        exact rx_retI S hr hlk hw (by first | (unfold rm_fill rm_filFin; simp only [hq_1, if_neg c_1, if_pos c_2, if_neg c_5, hq_3]; done) | (subst hq_3; subst hq_1; unfold rm_fill rm_filFin; simp only [if_neg c_1, if_pos c_2, if_neg c_5]; done)) (by first | (unfold rm_fill rm_filFin; simp only [hq_1, if_neg c_1, if_pos c_2, if_neg c_5, hq_3]; done) | (subst hq_3; subst hq_1; unfold rm_fill rm_filFin; simp only [if_neg c_1, if_pos c_2, if_neg c_5]; done)) d_R_fill_67
      · refine lv_iconst (v := 1) S.1 S.2.1 d_R_fill_22 (by decide) ?_
        refine lv_goto (tgt := 27) S.1 S.2.1 d_R_fill_23 (by decide) ?_
        refine lv_istore_n (lv' := [(2, .int 1), (0, .ref (bO b)), (1, .int x)]) S.1 S.2.1 d_R_fill_27 rfl hl (by decide) rfl (fun ls hl => ?_)
        refine lv_aload_n S.1 S.2.1 d_R_fill_28 rfl (lv_at hl 1 rfl) ?_
        refine rx_get S hw (j := 18) (v := .int (rGap q_1.2)) (by decide) tb_371 rfl rfl d_R_fill_29 ?_
        refine lv_istore_n (lv' := [(3, .int (rGap q_1.2)), (2, .int 1), (0, .ref (bO b)), (1, .int x)]) S.1 S.2.1 d_R_fill_32 rfl hl (by decide) rfl (fun ls hl => ?_)
        refine lv_aload_n S.1 S.2.1 d_R_fill_33 rfl (lv_at hl 2 rfl) ?_
        refine rx_get S hw (j := 7) (v := .ref (bRow b)) (by decide) tb_360 rfl rfl d_R_fill_34 ?_
        refine lv_iload_n S.1 S.2.1 d_R_fill_37 rfl (lv_at hl 0 rfl) ?_
        refine lv_aload_n S.1 S.2.1 d_R_fill_38 rfl (lv_at hl 2 rfl) ?_
        refine lv_iconst (v := 3) S.1 S.2.1 d_R_fill_39 (by decide) ?_
        refine lv_iload_n S.1 S.2.1 d_R_fill_40 rfl (lv_at hl 1 rfl) ?_
        refine lv_if_eq (tgt := 49) S.1 S.2.1 d_R_fill_41 (by decide) (fun c_8 => absurd c_8 (by decide)) (fun c_8 => ?_)
        refine lv_bipush (v := 15) S.1 S.2.1 d_R_fill_44 (by decide) ?_
        refine lv_goto (tgt := 50) S.1 S.2.1 d_R_fill_46 (by decide) ?_
        refine lv_iload_n S.1 S.2.1 d_R_fill_50 rfl (lv_at hl 1 rfl) ?_
        refine lv_if_eq (tgt := 58) S.1 S.2.1 d_R_fill_51 (by decide) (fun c_9 => absurd c_9 (by decide)) (fun c_9 => ?_)
        refine lv_iconst (v := 0) S.1 S.2.1 d_R_fill_54 (by decide) ?_
        refine lv_goto (tgt := 60) S.1 S.2.1 d_R_fill_55 (by decide) ?_
        refine rx_call S hw (As := [.int 3, .int 15, .int 0]) (rest := [.int (rGap q_1.2), .ref (bRow b)]) (c_R_add l D cs b k lim q_1.2 3 15 0 (by rw [← hq_1]; exact h.1.2 _)) tb_447 tb_444 tb_446 tp_18 tb_5 hd_R_add rfl ⟨by omega, by omega⟩ hl.1 rfl (Nat.le_of_ble_eq_true rfl) d_R_fill_60 (fun H locs hw => ?_)
        generalize hq_4 : rm_add q_1.2 3 15 0 = q_4 at hw ⊢
        refine W.eq (g2 := F0 m 63 ls [.int q_4.1, .int (rGap q_1.2), .ref (bRow b)]) rfl ?_
        refine lv_iconst (v := 1) S.1 S.2.1 d_R_fill_63 (by decide) ?_
        refine lv_iadd S.1 S.2.1 d_R_fill_64 ?_
        refine rx_stRow S hw (i := rGap q_1.2) (x := q_4.1 + 1) (by rw [← hq_1]; exact h.2) d_R_fill_65 (fun H locs hw => ?_)
        refine lv_iconst (v := 2) S.1 S.2.1 d_R_fill_66 (by decide) ?_
        exact rx_retI S hr hlk hw (by first | (unfold rm_fill rm_filFin; simp only [hq_1, if_neg c_1, if_pos c_2, if_pos c_5, hq_4]; done) | (subst hq_4; subst hq_1; unfold rm_fill rm_filFin; simp only [if_neg c_1, if_pos c_2, if_pos c_5]; done)) (by first | (unfold rm_fill rm_filFin; simp only [hq_1, if_neg c_1, if_pos c_2, if_pos c_5, hq_4]; done) | (subst hq_4; subst hq_1; unfold rm_fill rm_filFin; simp only [if_neg c_1, if_pos c_2, if_pos c_5]; done)) d_R_fill_67
  · refine lv_iconst (v := 0) S.1 S.2.1 d_R_fill_9 (by decide) ?_
    exact rx_retI S hr hlk hw (by first | (unfold rm_fill rm_filFin; simp only [hq_1, if_pos c_1]; done) | (subst hq_1; unfold rm_fill rm_filFin; simp only [if_pos c_1]; done)) (by first | (unfold rm_fill rm_filFin; simp only [hq_1, if_pos c_1]; done) | (subst hq_1; unfold rm_fill rm_filFin; simp only [if_pos c_1]; done)) d_R_fill_10
