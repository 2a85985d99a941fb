/-! ===== THE REFERENCE: goOver, hasRoom, add ===== -/
set_option maxHeartbeats 4000000 in
set_option maxRecDepth 100000 in
theorem c_R_goOver (l : Launch) (D : va_G) (cs : rx_c) (b : rx_a) (k lim : Int32) (ρ : rm_S) (h : rs_go ρ) {N : Nat} (hN : rObj ρ = nI N) (hN9 : N < 2 ^ 30) : rx_Met l D cs b k lim y_R_goOver b_R_goOver 5 (some .int) 1 21 [.ref (bO b)] ρ (some (.int ((rm_go ρ).1))) ((rm_go ρ).2) := by
  refine rx_start (by decide) (Nat.le_of_ble_eq_true rfl) ?_
  intro p e R s m args below meth c A ls S hr hlk hfr hlc hw hl
  have hl : lv_has ls 5 [(0, .ref (bO b))] := hl
  refine lv_aload_n S.1 S.2.1 d_R_goOver_0 rfl (lv_at hl 0 rfl) ?_
  refine lv_iconst (v := 0) S.1 S.2.1 d_R_goOver_1 (by decide) ?_
  refine rx_put S hw (ρ' := vPus ρ (0)) (j := 17) (ty := .int) (by decide) tb_370 rfl rfl rfl rfl rfl rfl d_R_goOver_2 (fun H locs hw => ?_)
  refine lv_iconst (v := 0) S.1 S.2.1 d_R_goOver_5 (by decide) ?_
  refine lv_istore_n (lv' := [(1, .int 0), (0, .ref (bO b))]) S.1 S.2.1 d_R_goOver_6 rfl hl (by decide) rfl (fun ls hl => ?_)
  refine lr_regs S (by omega) (by omega) 8 0 (vPus ρ 0) _ _ ls (by omega) h.1 hw hl (fun H locs ls hw hl => ?_)
  have hw : rx_Wd D cs b k lim s A (rm_go1 ρ) H locs := hw
  refine lv_iconst (v := 0) S.1 S.2.1 d_R_goOver_29 (by decide) ?_
  refine lv_istore_n (lv' := [(1, .int 0), (0, .ref (bO b))]) S.1 S.2.1 d_R_goOver_30 rfl hl (by decide) rfl (fun ls hl => ?_)
  refine lv_iconst (v := 0) S.1 S.2.1 d_R_goOver_31 (by decide) ?_
  refine lv_istore_n (lv' := [(2, .int 0), (1, .int 0), (0, .ref (bO b))]) S.1 S.2.1 d_R_goOver_32 rfl hl (by decide) rfl (fun ls hl => ?_)
  refine lr_pile S (by omega) (by omega) (rObj ρ).toNatClampNeg (rm_go1 ρ) 0 0 _ _ ls h.2.1 hw hl (fun H locs ls n9 hw hl => ?_)
  have hw : rx_Wd D cs b k lim s A (rm_go2 ρ).2 H locs := hw
  have hl : lv_has ls 5 [(2, .int n9), (1, .int (rm_go2 ρ).1), (0, .ref (bO b))] := hl
  refine lv_iconst (v := 0) S.1 S.2.1 d_R_goOver_98 (by decide) ?_
  refine lv_istore_n (lv' := [(2, .int 0), (1, .int (rm_go2 ρ).1), (0, .ref (bO b))]) S.1 S.2.1 d_R_goOver_99 rfl hl (by decide) rfl (fun ls hl => ?_)
  have hN2 : (rObj ρ).toNatClampNeg = N := by rw [hN, nI_clamp (by omega)]
  refine lr_clr S hN9 N 0 0 (rm_go2 ρ).2 _ _ ls rfl (by omega) (by rw [rp_go2]; exact hN) (by rw [← hN2]; exact h.2.2) hw (lv_sub hl [0, 1, 2] rfl) (fun H locs ls o9 hw hl => ?_)
  refine lv_iload_n S.1 S.2.1 d_R_goOver_166 rfl (lv_at hl 1 rfl) ?_
  exact rx_retI S hr hlk hw rfl (by unfold rm_go; rw [hN2]) d_R_goOver_167
set_option maxHeartbeats 4000000 in
set_option maxRecDepth 100000 in
theorem c_R_hasRoom (l : Launch) (D : va_G) (cs : rx_c) (b : rx_a) (k lim : Int32) (ρ : rm_S) (n : Int32) (h : rs_room ρ) {N : Nat} (hN : rObj ρ = nI N) (hN9 : N < 2 ^ 30) : rx_Met l D cs b k lim y_R_hasRoom b_R_hasRoom 2 (some .boolean) 2 45 [.ref (bO b), .int n] ρ (some (.int ((rm_room k lim ρ n).1))) ((rm_room k lim ρ n).2) := by
  refine rx_start (by decide) (Nat.le_of_ble_eq_true rfl) ?_
  intro p e R s m args below meth c A ls S hr hlk hfr hlc hw hl
  have hl : lv_has ls 2 [(0, .ref (bO b)), (1, .int n)] := hl
  refine lv_aload_n S.1 S.2.1 d_R_hasRoom_0 rfl (lv_at hl 0 rfl) ?_
  refine rx_rd S hw (As := []) (rest := []) (c_R_isDone l D cs b k lim ρ ) tb_431 tb_428 tb_430 tp_14 tb_5 hd_R_isDone rfl ⟨by omega, by omega⟩ hl.1 rfl (Nat.le_of_ble_eq_true rfl) d_R_hasRoom_1 ?_
  refine lv_if_eq (tgt := 65) S.1 S.2.1 d_R_hasRoom_4 (by decide) (fun c_1 => ?_) (fun c_1 => ?_)
  · refine lv_aload_n S.1 S.2.1 d_R_hasRoom_65 rfl (lv_at hl 0 rfl) ?_
    refine lv_dup S.1 S.2.1 d_R_hasRoom_66 rfl ?_
    refine rx_get S hw (j := 14) (v := .long (rMade ρ)) (by decide) tb_367 rfl rfl d_R_hasRoom_67 ?_
    refine lv_iload_n S.1 S.2.1 d_R_hasRoom_70 rfl (lv_at hl 1 rfl) ?_
    refine lv_i2l S.1 S.2.1 d_R_hasRoom_71 rfl ?_
    refine lv_ladd S.1 S.2.1 d_R_hasRoom_72 ?_
    refine rx_put S hw (ρ' := vMade ρ ((rMade ρ) + n.toInt64)) (j := 14) (ty := .long) (by decide) tb_367 rfl rfl rfl rfl rfl rfl d_R_hasRoom_73 (fun H locs hw => ?_)
    refine lv_iconst (v := 1) S.1 S.2.1 d_R_hasRoom_76 (by decide) ?_
    exact rx_retZ S hr hlk hw (by first | (unfold rm_room; simp only [if_pos c_1]; done) | (unfold rm_room; simp only [if_pos c_1]; rfl) | (unfold rm_room; rfl) | rfl) (Or.inr rfl) (by first | (unfold rm_room; simp only [if_pos c_1]; done) | (unfold rm_room; simp only [if_pos c_1]; rfl) | (unfold rm_room; rfl) | rfl) d_R_hasRoom_77
  · refine lv_aload_n S.1 S.2.1 d_R_hasRoom_7 rfl (lv_at hl 0 rfl) ?_
    refine rx_get S hw (j := 13) (v := .int (rRea ρ)) (by decide) tb_366 rfl rfl d_R_hasRoom_8 ?_
    refine lv_aload_n S.1 S.2.1 d_R_hasRoom_11 rfl (lv_at hl 0 rfl) ?_
    refine rx_get S hw (j := 1) (v := .int lim) (by decide) tb_354 rfl rfl d_R_hasRoom_12 ?_
    refine lv_icmp_le (tgt := 20) S.1 S.2.1 d_R_hasRoom_15 (by decide) (fun c_2 => ?_) (fun c_2 => ?_)
    · refine lv_aload_n S.1 S.2.1 d_R_hasRoom_20 rfl (lv_at hl 0 rfl) ?_
      refine rx_get S hw (j := 13) (v := .int (rRea ρ)) (by decide) tb_366 rfl rfl d_R_hasRoom_21 ?_
      refine lv_i2l S.1 S.2.1 d_R_hasRoom_24 rfl ?_
      refine lv_aload_n S.1 S.2.1 d_R_hasRoom_25 rfl (lv_at hl 0 rfl) ?_
      refine rx_get S hw (j := 14) (v := .long (rMade ρ)) (by decide) tb_367 rfl rfl d_R_hasRoom_26 ?_
      refine lv_ladd S.1 S.2.1 d_R_hasRoom_29 ?_
      refine lv_iload_n S.1 S.2.1 d_R_hasRoom_30 rfl (lv_at hl 1 rfl) ?_
      refine lv_i2l S.1 S.2.1 d_R_hasRoom_31 rfl ?_
      refine lv_ladd S.1 S.2.1 d_R_hasRoom_32 ?_
      refine lv_aload_n S.1 S.2.1 d_R_hasRoom_33 rfl (lv_at hl 0 rfl) ?_
      refine rx_get S hw (j := 1) (v := .int lim) (by decide) tb_354 rfl rfl d_R_hasRoom_34 ?_
      refine lv_i2l S.1 S.2.1 d_R_hasRoom_37 rfl ?_
      refine W.lcmp S.1 S.2.1 d_R_hasRoom_38 ?_
      refine lv_if_le (tgt := 65) S.1 S.2.1 d_R_hasRoom_39 (by decide) (fun c_3 => ?_) (fun c_3 => ?_)
      · refine lv_aload_n S.1 S.2.1 d_R_hasRoom_65 rfl (lv_at hl 0 rfl) ?_
        refine lv_dup S.1 S.2.1 d_R_hasRoom_66 rfl ?_
        refine rx_get S hw (j := 14) (v := .long (rMade ρ)) (by decide) tb_367 rfl rfl d_R_hasRoom_67 ?_
        refine lv_iload_n S.1 S.2.1 d_R_hasRoom_70 rfl (lv_at hl 1 rfl) ?_
        refine lv_i2l S.1 S.2.1 d_R_hasRoom_71 rfl ?_
        refine lv_ladd S.1 S.2.1 d_R_hasRoom_72 ?_
        refine rx_put S hw (ρ' := vMade ρ ((rMade ρ) + n.toInt64)) (j := 14) (ty := .long) (by decide) tb_367 rfl rfl rfl rfl rfl rfl d_R_hasRoom_73 (fun H locs hw => ?_)
        refine lv_iconst (v := 1) S.1 S.2.1 d_R_hasRoom_76 (by decide) ?_
        exact rx_retZ S hr hlk hw (by first | exact absurd c_2 c_1 | exact absurd c_3 c_1 | (unfold rm_room; simp only [if_neg c_1, if_pos c_2, if_pos c_3]; done) | (unfold rm_room; simp only [if_neg c_1, if_pos c_2, if_pos c_3]; rfl) | (unfold rm_room; rfl) | rfl) (Or.inr rfl) (by first | exact absurd c_2 c_1 | exact absurd c_3 c_1 | (unfold rm_room; simp only [if_neg c_1, if_pos c_2, if_pos c_3]; done) | (unfold rm_room; simp only [if_neg c_1, if_pos c_2, if_pos c_3]; rfl) | (unfold rm_room; rfl) | rfl) d_R_hasRoom_77
      · refine lv_aload_n S.1 S.2.1 d_R_hasRoom_42 rfl (lv_at hl 0 rfl) ?_
        refine lv_dup S.1 S.2.1 d_R_hasRoom_43 rfl ?_
        refine rx_get S hw (j := 12) (v := .int (rCyc ρ)) (by decide) tb_365 rfl rfl d_R_hasRoom_44 ?_
        refine lv_iconst (v := 1) S.1 S.2.1 d_R_hasRoom_47 (by decide) ?_
        refine lv_iadd S.1 S.2.1 d_R_hasRoom_48 ?_
        refine rx_put S hw (ρ' := vCyc ρ ((rCyc ρ) + 1)) (j := 12) (ty := .int) (by decide) tb_365 rfl rfl rfl rfl rfl rfl d_R_hasRoom_49 (fun H locs hw => ?_)
        refine lv_aload_n S.1 S.2.1 d_R_hasRoom_52 rfl (lv_at hl 0 rfl) ?_
        refine lv_aload_n S.1 S.2.1 d_R_hasRoom_53 rfl (lv_at hl 0 rfl) ?_
        refine rx_call S hw (As := []) (rest := [.ref (bO b)]) (c_R_goOver l D cs b k lim (vCyc ρ ((rCyc ρ) + 1))  h hN hN9) tb_435 tb_432 tb_434 tp_15 tb_5 hd_R_goOver rfl ⟨by omega, by omega⟩ hl.1 rfl (Nat.le_of_ble_eq_true rfl) d_R_hasRoom_54 (fun H locs hw => ?_)
        generalize hq_1 : rm_go (vCyc ρ ((rCyc ρ) + 1)) = q_1 at hw ⊢
        refine W.eq (g2 := F0 m 57 ls [.int q_1.1, .ref (bO b)]) rfl ?_
        refine rx_put S hw (ρ' := vRea q_1.2 (q_1.1)) (j := 13) (ty := .int) (by decide) tb_366 rfl rfl rfl rfl rfl rfl d_R_hasRoom_57 (fun H locs hw => ?_)
        refine lv_aload_n S.1 S.2.1 d_R_hasRoom_60 rfl (lv_at hl 0 rfl) ?_
        refine lv_lconst (v := 0) S.1 S.2.1 d_R_hasRoom_61 (by decide) ?_
        refine rx_put S hw (ρ' := vMade (vRea q_1.2 (q_1.1)) (0)) (j := 14) (ty := .long) (by decide) tb_367 rfl rfl rfl rfl rfl rfl d_R_hasRoom_62 (fun H locs hw => ?_)
        refine lv_aload_n S.1 S.2.1 d_R_hasRoom_65 rfl (lv_at hl 0 rfl) ?_
        refine lv_dup S.1 S.2.1 d_R_hasRoom_66 rfl ?_
        refine rx_get S hw (j := 14) (v := .long (rMade (vMade (vRea q_1.2 (q_1.1)) (0)))) (by decide) tb_367 rfl rfl d_R_hasRoom_67 ?_
        refine lv_iload_n S.1 S.2.1 d_R_hasRoom_70 rfl (lv_at hl 1 rfl) ?_
        refine lv_i2l S.1 S.2.1 d_R_hasRoom_71 rfl ?_
        refine lv_ladd S.1 S.2.1 d_R_hasRoom_72 ?_
        refine rx_put S hw (ρ' := vMade (vMade (vRea q_1.2 (q_1.1)) (0)) ((rMade (vMade (vRea q_1.2 (q_1.1)) (0))) + n.toInt64)) (j := 14) (ty := .long) (by decide) tb_367 rfl rfl rfl rfl rfl rfl d_R_hasRoom_73 (fun H locs hw => ?_)
        refine lv_iconst (v := 1) S.1 S.2.1 d_R_hasRoom_76 (by decide) ?_
        exact rx_retZ S hr hlk hw (by first | exact absurd c_2 c_1 | exact absurd c_2 c_3 | (unfold rm_room; simp only [if_neg c_1, if_pos c_2, if_neg c_3, hq_1]; done) | (unfold rm_room; simp only [if_neg c_1, if_pos c_2, if_neg c_3, hq_1]; rfl) | (unfold rm_room; rfl) | rfl) (Or.inr rfl) (by first | exact absurd c_2 c_1 | exact absurd c_2 c_3 | (unfold rm_room; simp only [if_neg c_1, if_pos c_2, if_neg c_3, hq_1]; done) | (unfold rm_room; simp only [if_neg c_1, if_pos c_2, if_neg c_3, hq_1]; rfl) | (unfold rm_room; rfl) | rfl) d_R_hasRoom_77
    · refine lv_iconst (v := 0) S.1 S.2.1 d_R_hasRoom_18 (by decide) ?_
      exact rx_retZ S hr hlk hw (by first | (unfold rm_room; simp only [if_neg c_1, if_neg c_2]; done) | (unfold rm_room; simp only [if_neg c_1, if_neg c_2]; rfl) | (unfold rm_room; rfl) | rfl) (Or.inl rfl) (by first | (unfold rm_room; simp only [if_neg c_1, if_neg c_2]; done) | (unfold rm_room; simp only [if_neg c_1, if_neg c_2]; rfl) | (unfold rm_room; rfl) | rfl) d_R_hasRoom_19
section LRA
variable {p : Program} {l : Launch} {e : Env} {R : Room} {s : State} {m : MethodId} {args : Array Value} {below : List Frame} {meth : Method} {c : Code} {Q : State → Prop} {D : va_G} {cs : rx_c} {b : rx_a} {k lim : Int32} {A : Nat → Prop} {c1 : Cond}
set_option maxHeartbeats 4000000 in
set_option maxRecDepth 100000 in
theorem lr_add (S : CallFix p m c b_R_add 6 s args (c1 :: bt) "StepHeapModel") {τ : rm_S} {o w r i : Int32} :
    ∀ (n j : Nat) (f : Int32) (row : Nat → Int32) (H : Heap) (locs : List Loc) (ls : Array Slot), f = nI j → j + n = 16 → rs_zeroN o f n → rx_Wd D cs b k lim s A (vRow τ row) H locs → lv_has ls 6 [(5, .int f), (4, .int o), (0, .ref (bO b)), (1, .int w), (2, .int r), (3, .int i)] →
    (∀ (H' : Heap) (locs' : List Loc) (ls' : Array Slot) (f' : Int32), rx_Wd D cs b k lim s A (vRow τ (rm_zeroN row o f n)) H' locs' → lv_has ls' 6 [(5, .int f'), (4, .int o), (0, .ref (bO b)), (1, .int w), (2, .int r), (3, .int i)] → W p l e R s m args below meth c H' locs' 0 0 Q (F0 m 104 ls' [])) →
    W p l e R s m args below meth c H locs 0 0 Q (F0 m 77 ls []) := by
  intro n
  induction n with
  | zero =>
    intro j f row H locs ls hf hj hs hw hl K
    refine lv_iload S.1 S.2.1 d_R_add_77 (lv_at hl 0 rfl) ?_
    refine lv_bipush (v := 16) S.1 S.2.1 d_R_add_79 (by decide) ?_
    refine lv_icmp_ge (tgt := 104) S.1 S.2.1 d_R_add_81 (by decide) (fun c_1 => ?_) (fun c_1 => ?_)
    · have c_1n := i32_nlt c_1
      exact K H locs ls f hw hl
    · have c_1n := i32_lt c_1
      exact absurd (by rw [hf, show j = 16 by omega]; decide) c_1
  | succ n ih =>
    intro j f row H locs ls hf hj hs hw hl K
    refine lv_iload S.1 S.2.1 d_R_add_77 (lv_at hl 0 rfl) ?_
    refine lv_bipush (v := 16) S.1 S.2.1 d_R_add_79 (by decide) ?_
    refine lv_icmp_ge (tgt := 104) S.1 S.2.1 d_R_add_81 (by decide) (fun c_1 => ?_) (fun c_1 => ?_)
    · have c_1n := i32_nlt c_1
      exact absurd (by rw [hf] at c_1; exact c_1) (nI_ge (show j < 16 by omega) (by decide))
    · have c_1n := i32_lt c_1
      refine lv_aload_n S.1 S.2.1 d_R_add_84 rfl (lv_at hl 2 rfl) ?_
      refine rx_get S hw (j := 7) (v := .ref (bRow b)) (by decide) tb_360 rfl rfl d_R_add_85 ?_
      refine lv_iload S.1 S.2.1 d_R_add_88 (lv_at hl 1 rfl) ?_
      refine lv_bipush (v := 16) S.1 S.2.1 d_R_add_90 (by decide) ?_
      refine lv_imul S.1 S.2.1 d_R_add_92 ?_
      refine lv_iload S.1 S.2.1 d_R_add_93 (lv_at hl 0 rfl) ?_
      refine lv_iadd S.1 S.2.1 d_R_add_95 ?_
      refine lv_iconst (v := 0) S.1 S.2.1 d_R_add_96 (by decide) ?_
      refine rx_stRow S hw (i := (o * 16) + f) (x := 0) (hs.1) d_R_add_97 (fun H locs hw => ?_)
      refine lv_iinc (v := f + 1) (lv' := [(5, .int (f + 1)), (4, .int o), (0, .ref (bO b)), (1, .int w), (2, .int r), (3, .int i)]) S.1 S.2.1 d_R_add_98 hl (k := 0) rfl rfl (by decide) rfl (fun ls hl => ?_)
      refine lv_goto (tgt := 77) S.1 S.2.1 d_R_add_101 (by decide) ?_
      exact ih (j + 1) (f + 1) _ H locs ls (by rw [hf]; exact nI_1 j) (by omega) hs.2 hw (lv_sub hl [0, 1, 2, 3, 4, 5] rfl) K
end LRA
theorem rp_tk (ρ : rm_S) : rRow (rm_tk ρ) = rRow ρ ∧ rKind (rm_tk ρ) = rKind ρ ∧ rRefs (rm_tk ρ) = rRefs ρ ∧ rInts (rm_tk ρ) = rInts ρ := by
  unfold rm_tk
  split <;> exact ⟨rfl, rfl, rfl, rfl⟩
set_option maxHeartbeats 4000000 in
set_option maxRecDepth 100000 in
theorem c_R_add (l : Launch) (D : va_G) (cs : rx_c) (b : rx_a) (k lim : Int32) (ρ : rm_S) (w r i : Int32) (h : rs_add ρ) : rx_Met l D cs b k lim y_R_add b_R_add 6 (some .int) 0 0 [.ref (bO b), .int w, .int r, .int i] ρ (some (.int ((rm_add ρ w r i).1))) ((rm_add ρ w r i).2) := by
  refine rx_start (by decide) (Nat.le_of_ble_eq_true rfl) ?_
  intro p e R s m args below meth c A ls S hr hlk hfr hlc hw hl
  have hl : lv_has ls 6 [(0, .ref (bO b)), (1, .int w), (2, .int r), (3, .int i)] := hl
  refine lv_aload_n S.1 S.2.1 d_R_add_0 rfl (lv_at hl 0 rfl) ?_
  refine rx_get S hw (j := 8) (v := .int (rObj ρ)) (by decide) tb_361 rfl rfl d_R_add_1 ?_
  refine lv_istore (lv' := [(4, .int (rObj ρ)), (0, .ref (bO b)), (1, .int w), (2, .int r), (3, .int i)]) S.1 S.2.1 d_R_add_4 hl (by decide) rfl (fun ls hl => ?_)
  refine lv_aload_n S.1 S.2.1 d_R_add_6 rfl (lv_at hl 1 rfl) ?_
  refine rx_get S hw (j := 10) (v := .int (rGiv ρ)) (by decide) tb_363 rfl rfl d_R_add_7 ?_
  refine lv_if_le (tgt := 37) S.1 S.2.1 d_R_add_10 (by decide) (fun c_1 => ?_) (fun c_1 => ?_)
  · refine lv_aload_n S.1 S.2.1 d_R_add_37 rfl (lv_at hl 1 rfl) ?_
    refine lv_dup S.1 S.2.1 d_R_add_38 rfl ?_
    refine rx_get S hw (j := 8) (v := .int (rObj ρ)) (by decide) tb_361 rfl rfl d_R_add_39 ?_
    refine lv_iconst (v := 1) S.1 S.2.1 d_R_add_42 (by decide) ?_
    refine lv_iadd S.1 S.2.1 d_R_add_43 ?_
    refine rx_put S hw (ρ' := vObj ρ ((rObj ρ) + 1)) (j := 8) (ty := .int) (by decide) tb_361 rfl rfl rfl rfl rfl rfl d_R_add_44 (fun H locs hw => ?_)
    have eo : rm_new ρ = rObj ρ := by unfold rm_new; rw [if_pos c_1]
    have et : rm_tk ρ = vObj ρ (rObj ρ + 1) := by unfold rm_tk; rw [if_pos c_1]
    have hl : lv_has ls 6 [(4, .int (rm_new ρ)), (0, .ref (bO b)), (1, .int w), (2, .int r), (3, .int i)] := by rw [eo]; exact lv_sub hl [0, 1, 2, 3, 4] rfl
    have hw : rx_Wd D cs b k lim s A (rm_tk ρ) H locs := by rw [et]; exact hw
    refine lv_aload_n S.1 S.2.1 d_R_add_47 rfl (lv_at hl 1 rfl) ?_
    refine rx_get S hw (j := 2) (v := .ref (bKind b)) (by decide) tb_355 rfl rfl d_R_add_48 ?_
    refine lv_iload S.1 S.2.1 d_R_add_51 (lv_at hl 0 rfl) ?_
    refine lv_iload_n S.1 S.2.1 d_R_add_53 rfl (lv_at hl 2 rfl) ?_
    refine lv_i2b S.1 S.2.1 d_R_add_54 rfl ?_
    refine rx_stKind S hw (i := rm_new ρ) (x := w.toInt8.toInt32) (h.2.1) d_R_add_55 (fun H locs hw => ?_)
    refine lv_aload_n S.1 S.2.1 d_R_add_56 rfl (lv_at hl 1 rfl) ?_
    refine rx_get S hw (j := 3) (v := .ref (bRefs b)) (by decide) tb_356 rfl rfl d_R_add_57 ?_
    refine lv_iload S.1 S.2.1 d_R_add_60 (lv_at hl 0 rfl) ?_
    refine lv_iload_n S.1 S.2.1 d_R_add_62 rfl (lv_at hl 3 rfl) ?_
    refine lv_i2b S.1 S.2.1 d_R_add_63 rfl ?_
    refine rx_stRefs S hw (i := rm_new ρ) (x := r.toInt8.toInt32) (h.2.1) d_R_add_64 (fun H locs hw => ?_)
    refine lv_aload_n S.1 S.2.1 d_R_add_65 rfl (lv_at hl 1 rfl) ?_
    refine rx_get S hw (j := 4) (v := .ref (bInts b)) (by decide) tb_357 rfl rfl d_R_add_66 ?_
    refine lv_iload S.1 S.2.1 d_R_add_69 (lv_at hl 0 rfl) ?_
    refine lv_iload_n S.1 S.2.1 d_R_add_71 rfl (lv_at hl 4 rfl) ?_
    refine lv_i2b S.1 S.2.1 d_R_add_72 rfl ?_
    refine rx_stInts S hw (i := rm_new ρ) (x := i.toInt8.toInt32) (h.2.1) d_R_add_73 (fun H locs hw => ?_)
    refine lv_iconst (v := 0) S.1 S.2.1 d_R_add_74 (by decide) ?_
    refine lv_istore (lv' := [(5, .int 0), (4, .int (rm_new ρ)), (0, .ref (bO b)), (1, .int w), (2, .int r), (3, .int i)]) S.1 S.2.1 d_R_add_75 hl (by decide) rfl (fun ls hl => ?_)
    generalize hb16 : (16 : Nat) = n16
    have hs16 : rs_zeroN (rm_new ρ) 0 n16 := by rw [← hb16]; exact h.2.2
    refine lr_add S (τ := vInts (vRefs (vKind (rm_tk ρ) (upd (rKind (rm_tk ρ)) (rm_new ρ).toNatClampNeg (vp_nar .byte (w.toInt8.toInt32)))) (upd (rRefs (vKind (rm_tk ρ) (upd (rKind (rm_tk ρ)) (rm_new ρ).toNatClampNeg (vp_nar .byte (w.toInt8.toInt32))))) (rm_new ρ).toNatClampNeg (vp_nar .byte (r.toInt8.toInt32)))) (upd (rInts (vRefs (vKind (rm_tk ρ) (upd (rKind (rm_tk ρ)) (rm_new ρ).toNatClampNeg (vp_nar .byte (w.toInt8.toInt32)))) (upd (rRefs (vKind (rm_tk ρ) (upd (rKind (rm_tk ρ)) (rm_new ρ).toNatClampNeg (vp_nar .byte (w.toInt8.toInt32))))) (rm_new ρ).toNatClampNeg (vp_nar .byte (r.toInt8.toInt32))))) (rm_new ρ).toNatClampNeg (vp_nar .byte (i.toInt8.toInt32)))) n16 0 0 (rRow (vInts (vRefs (vKind (rm_tk ρ) (upd (rKind (rm_tk ρ)) (rm_new ρ).toNatClampNeg (vp_nar .byte (w.toInt8.toInt32)))) (upd (rRefs (vKind (rm_tk ρ) (upd (rKind (rm_tk ρ)) (rm_new ρ).toNatClampNeg (vp_nar .byte (w.toInt8.toInt32))))) (rm_new ρ).toNatClampNeg (vp_nar .byte (r.toInt8.toInt32)))) (upd (rInts (vRefs (vKind (rm_tk ρ) (upd (rKind (rm_tk ρ)) (rm_new ρ).toNatClampNeg (vp_nar .byte (w.toInt8.toInt32)))) (upd (rRefs (vKind (rm_tk ρ) (upd (rKind (rm_tk ρ)) (rm_new ρ).toNatClampNeg (vp_nar .byte (w.toInt8.toInt32))))) (rm_new ρ).toNatClampNeg (vp_nar .byte (r.toInt8.toInt32))))) (rm_new ρ).toNatClampNeg (vp_nar .byte (i.toInt8.toInt32))))) _ _ ls rfl (by omega) hs16 hw (lv_sub hl [0, 1, 2, 3, 4, 5] rfl) (fun H locs ls f9 hw hl => ?_)
    refine lv_iload S.1 S.2.1 d_R_add_104 (lv_at hl 1 rfl) ?_
    exact rx_retI S hr hlk hw rfl (by subst hb16; unfold rm_add rm_add1; rw [← (rp_tk ρ).1]) d_R_add_106
  · refine lv_aload_n S.1 S.2.1 d_R_add_13 rfl (lv_at hl 1 rfl) ?_
    refine lv_dup S.1 S.2.1 d_R_add_14 rfl ?_
    refine rx_get S hw (j := 10) (v := .int (rGiv ρ)) (by decide) tb_363 rfl rfl d_R_add_15 ?_
    refine lv_iconst (v := 1) S.1 S.2.1 d_R_add_18 (by decide) ?_
    refine lv_isub S.1 S.2.1 d_R_add_19 ?_
    refine rx_put S hw (ρ' := vGiv ρ ((rGiv ρ) - 1)) (j := 10) (ty := .int) (by decide) tb_363 rfl rfl rfl rfl rfl rfl d_R_add_20 (fun H locs hw => ?_)
    refine lv_aload_n S.1 S.2.1 d_R_add_23 rfl (lv_at hl 1 rfl) ?_
    refine rx_get S hw (j := 9) (v := .ref (bBack b)) (by decide) tb_362 rfl rfl d_R_add_24 ?_
    refine lv_aload_n S.1 S.2.1 d_R_add_27 rfl (lv_at hl 1 rfl) ?_
    refine rx_get S hw (j := 10) (v := .int (rGiv (vGiv ρ ((rGiv ρ) - 1)))) (by decide) tb_363 rfl rfl d_R_add_28 ?_
    refine rx_ldBack S hw (i := rGiv (vGiv ρ ((rGiv ρ) - 1))) (h.1 c_1) d_R_add_31 ?_
    refine lv_istore (lv' := [(4, .int (rBack (vGiv ρ ((rGiv ρ) - 1)) (rGiv (vGiv ρ ((rGiv ρ) - 1))).toNatClampNeg)), (0, .ref (bO b)), (1, .int w), (2, .int r), (3, .int i)]) S.1 S.2.1 d_R_add_32 hl (by decide) rfl (fun ls hl => ?_)
    refine lv_goto (tgt := 47) S.1 S.2.1 d_R_add_34 (by decide) ?_
    have eo : rm_new ρ = rBack ρ (rGiv ρ - 1).toNatClampNeg := by unfold rm_new; rw [if_neg c_1]
    have et : rm_tk ρ = vGiv ρ (rGiv ρ - 1) := by unfold rm_tk; rw [if_neg c_1]
    have hl : lv_has ls 6 [(4, .int (rm_new ρ)), (0, .ref (bO b)), (1, .int w), (2, .int r), (3, .int i)] := by rw [eo]; exact lv_sub hl [0, 1, 2, 3, 4] rfl
    have hw : rx_Wd D cs b k lim s A (rm_tk ρ) H locs := by rw [et]; exact hw
    refine lv_aload_n S.1 S.2.1 d_R_add_47 rfl (lv_at hl 1 rfl) ?_
    refine rx_get S hw (j := 2) (v := .ref (bKind b)) (by decide) tb_355 rfl rfl d_R_add_48 ?_
    refine lv_iload S.1 S.2.1 d_R_add_51 (lv_at hl 0 rfl) ?_
    refine lv_iload_n S.1 S.2.1 d_R_add_53 rfl (lv_at hl 2 rfl) ?_
    refine lv_i2b S.1 S.2.1 d_R_add_54 rfl ?_
    refine rx_stKind S hw (i := rm_new ρ) (x := w.toInt8.toInt32) (h.2.1) d_R_add_55 (fun H locs hw => ?_)
    refine lv_aload_n S.1 S.2.1 d_R_add_56 rfl (lv_at hl 1 rfl) ?_
    refine rx_get S hw (j := 3) (v := .ref (bRefs b)) (by decide) tb_356 rfl rfl d_R_add_57 ?_
    refine lv_iload S.1 S.2.1 d_R_add_60 (lv_at hl 0 rfl) ?_
    refine lv_iload_n S.1 S.2.1 d_R_add_62 rfl (lv_at hl 3 rfl) ?_
    refine lv_i2b S.1 S.2.1 d_R_add_63 rfl ?_
    refine rx_stRefs S hw (i := rm_new ρ) (x := r.toInt8.toInt32) (h.2.1) d_R_add_64 (fun H locs hw => ?_)
    refine lv_aload_n S.1 S.2.1 d_R_add_65 rfl (lv_at hl 1 rfl) ?_
    refine rx_get S hw (j := 4) (v := .ref (bInts b)) (by decide) tb_357 rfl rfl d_R_add_66 ?_
    refine lv_iload S.1 S.2.1 d_R_add_69 (lv_at hl 0 rfl) ?_
    refine lv_iload_n S.1 S.2.1 d_R_add_71 rfl (lv_at hl 4 rfl) ?_
    refine lv_i2b S.1 S.2.1 d_R_add_72 rfl ?_
    refine rx_stInts S hw (i := rm_new ρ) (x := i.toInt8.toInt32) (h.2.1) d_R_add_73 (fun H locs hw => ?_)
    refine lv_iconst (v := 0) S.1 S.2.1 d_R_add_74 (by decide) ?_
    refine lv_istore (lv' := [(5, .int 0), (4, .int (rm_new ρ)), (0, .ref (bO b)), (1, .int w), (2, .int r), (3, .int i)]) S.1 S.2.1 d_R_add_75 hl (by decide) rfl (fun ls hl => ?_)
    generalize hb16 : (16 : Nat) = n16
    have hs16 : rs_zeroN (rm_new ρ) 0 n16 := by rw [← hb16]; exact h.2.2
    refine lr_add S (τ := vInts (vRefs (vKind (rm_tk ρ) (upd (rKind (rm_tk ρ)) (rm_new ρ).toNatClampNeg (vp_nar .byte (w.toInt8.toInt32)))) (upd (rRefs (vKind (rm_tk ρ) (upd (rKind (rm_tk ρ)) (rm_new ρ).toNatClampNeg (vp_nar .byte (w.toInt8.toInt32))))) (rm_new ρ).toNatClampNeg (vp_nar .byte (r.toInt8.toInt32)))) (upd (rInts (vRefs (vKind (rm_tk ρ) (upd (rKind (rm_tk ρ)) (rm_new ρ).toNatClampNeg (vp_nar .byte (w.toInt8.toInt32)))) (upd (rRefs (vKind (rm_tk ρ) (upd (rKind (rm_tk ρ)) (rm_new ρ).toNatClampNeg (vp_nar .byte (w.toInt8.toInt32))))) (rm_new ρ).toNatClampNeg (vp_nar .byte (r.toInt8.toInt32))))) (rm_new ρ).toNatClampNeg (vp_nar .byte (i.toInt8.toInt32)))) n16 0 0 (rRow (vInts (vRefs (vKind (rm_tk ρ) (upd (rKind (rm_tk ρ)) (rm_new ρ).toNatClampNeg (vp_nar .byte (w.toInt8.toInt32)))) (upd (rRefs (vKind (rm_tk ρ) (upd (rKind (rm_tk ρ)) (rm_new ρ).toNatClampNeg (vp_nar .byte (w.toInt8.toInt32))))) (rm_new ρ).toNatClampNeg (vp_nar .byte (r.toInt8.toInt32)))) (upd (rInts (vRefs (vKind (rm_tk ρ) (upd (rKind (rm_tk ρ)) (rm_new ρ).toNatClampNeg (vp_nar .byte (w.toInt8.toInt32)))) (upd (rRefs (vKind (rm_tk ρ) (upd (rKind (rm_tk ρ)) (rm_new ρ).toNatClampNeg (vp_nar .byte (w.toInt8.toInt32))))) (rm_new ρ).toNatClampNeg (vp_nar .byte (r.toInt8.toInt32))))) (rm_new ρ).toNatClampNeg (vp_nar .byte (i.toInt8.toInt32))))) _ _ ls rfl (by omega) hs16 hw (lv_sub hl [0, 1, 2, 3, 4, 5] rfl) (fun H locs ls f9 hw hl => ?_)
    refine lv_iload S.1 S.2.1 d_R_add_104 (lv_at hl 1 rfl) ?_
    exact rx_retI S hr hlk hw rfl (by subst hb16; unfold rm_add rm_add1; rw [← (rp_tk ρ).1]) d_R_add_106
