/-! ===== THE REFERENCE: reach, goOver ===== -/
set_option maxHeartbeats 4000000 in
set_option maxRecDepth 100000 in
theorem c_R_reach (l : Launch) (D : va_G) (cs : rx_c) (b : rx_a) (k lim : Int32) (ρ : rm_S) (f : Int32) (h : rs_reach ρ f) : rx_Met l D cs b k lim y_R_reach b_R_reach 2 (none) 0 0 [.ref (bO b), .int f] ρ (none) (rm_reach ρ f) := by
  refine rx_start (by decide) (Nat.le_of_ble_eq_true rfl) ?_
  intro p e R s m args below meth c A ls S hr hlk hfr hlc hw hl
  have hl : lv_has ls 2 [(0, .ref (bO b)), (1, .int f)] := hl
  refine lv_iload_n S.1 S.2.1 d_R_reach_0 rfl (lv_at hl 1 rfl) ?_
  refine lv_if_eq (tgt := 46) S.1 S.2.1 d_R_reach_1 (by decide) (fun c_1 => ?_) (fun c_1 => ?_)
  · exact rx_retV S hr hlk hw rfl (by first | (unfold rm_reach; simp only [if_pos c_1]; done) | (unfold rm_reach; simp only [if_pos c_1]; rfl) | (unfold rm_reach; rfl) | rfl) d_R_reach_46
  · refine lv_aload_n S.1 S.2.1 d_R_reach_4 rfl (lv_at hl 0 rfl) ?_
    refine rx_get S hw (j := 15) (v := .ref (bMark b)) (by decide) tb_368 rfl rfl d_R_reach_5 ?_
    refine lv_iload_n S.1 S.2.1 d_R_reach_8 rfl (lv_at hl 1 rfl) ?_
    refine lv_iconst (v := 1) S.1 S.2.1 d_R_reach_9 (by decide) ?_
    refine lv_isub S.1 S.2.1 d_R_reach_10 ?_
    refine rx_ldMark S hw (i := f - 1) (h.1 c_1) d_R_reach_11 ?_
    refine lv_if_ne (tgt := 46) S.1 S.2.1 d_R_reach_12 (by decide) (fun c_2 => ?_) (fun c_2 => ?_)
    · exact rx_retV S hr hlk hw rfl (by first | (unfold rm_reach; simp only [if_neg c_1, if_neg c_2]; done) | (unfold rm_reach; simp only [if_neg c_1, if_neg c_2]; rfl) | (unfold rm_reach; rfl) | rfl) d_R_reach_46
    · refine lv_aload_n S.1 S.2.1 d_R_reach_15 rfl (lv_at hl 0 rfl) ?_
      refine rx_get S hw (j := 15) (v := .ref (bMark b)) (by decide) tb_368 rfl rfl d_R_reach_16 ?_
      refine lv_iload_n S.1 S.2.1 d_R_reach_19 rfl (lv_at hl 1 rfl) ?_
      refine lv_iconst (v := 1) S.1 S.2.1 d_R_reach_20 (by decide) ?_
      refine lv_isub S.1 S.2.1 d_R_reach_21 ?_
      refine lv_iconst (v := 1) S.1 S.2.1 d_R_reach_22 (by decide) ?_
      refine rx_stMark S hw (i := f - 1) (x := 1) (h.1 c_1) d_R_reach_23 (fun H locs hw => ?_)
      refine lv_aload_n S.1 S.2.1 d_R_reach_24 rfl (lv_at hl 0 rfl) ?_
      refine rx_get S hw (j := 16) (v := .ref (bPile b)) (by decide) tb_369 rfl rfl d_R_reach_25 ?_
      refine lv_aload_n S.1 S.2.1 d_R_reach_28 rfl (lv_at hl 0 rfl) ?_
      refine rx_get S hw (j := 17) (v := .int (rPus (vMark ρ (upd (rMark ρ) (f - 1).toNatClampNeg (vp_nar .boolean (1)))))) (by decide) tb_370 rfl rfl d_R_reach_29 ?_
      refine lv_iload_n S.1 S.2.1 d_R_reach_32 rfl (lv_at hl 1 rfl) ?_
      refine lv_iconst (v := 1) S.1 S.2.1 d_R_reach_33 (by decide) ?_
      refine lv_isub S.1 S.2.1 d_R_reach_34 ?_
      refine rx_stPile S hw (i := rPus (vMark ρ (upd (rMark ρ) (f - 1).toNatClampNeg (vp_nar .boolean (1))))) (x := f - 1) (h.2) d_R_reach_35 (fun H locs hw => ?_)
      refine lv_aload_n S.1 S.2.1 d_R_reach_36 rfl (lv_at hl 0 rfl) ?_
      refine lv_dup S.1 S.2.1 d_R_reach_37 rfl ?_
      refine rx_get S hw (j := 17) (v := .int (rPus (vPile (vMark ρ (upd (rMark ρ) (f - 1).toNatClampNeg (vp_nar .boolean (1)))) (upd (rPile (vMark ρ (upd (rMark ρ) (f - 1).toNatClampNeg (vp_nar .boolean (1))))) (rPus (vMark ρ (upd (rMark ρ) (f - 1).toNatClampNeg (vp_nar .boolean (1))))).toNatClampNeg (f - 1))))) (by decide) tb_370 rfl rfl d_R_reach_38 ?_
      refine lv_iconst (v := 1) S.1 S.2.1 d_R_reach_41 (by decide) ?_
      refine lv_iadd S.1 S.2.1 d_R_reach_42 ?_
      refine rx_put S hw (ρ' := vPus (vPile (vMark ρ (upd (rMark ρ) (f - 1).toNatClampNeg (vp_nar .boolean (1)))) (upd (rPile (vMark ρ (upd (rMark ρ) (f - 1).toNatClampNeg (vp_nar .boolean (1))))) (rPus (vMark ρ (upd (rMark ρ) (f - 1).toNatClampNeg (vp_nar .boolean (1))))).toNatClampNeg (f - 1))) ((rPus (vPile (vMark ρ (upd (rMark ρ) (f - 1).toNatClampNeg (vp_nar .boolean (1)))) (upd (rPile (vMark ρ (upd (rMark ρ) (f - 1).toNatClampNeg (vp_nar .boolean (1))))) (rPus (vMark ρ (upd (rMark ρ) (f - 1).toNatClampNeg (vp_nar .boolean (1))))).toNatClampNeg (f - 1)))) + 1)) (j := 17) (ty := .int) (by decide) tb_370 rfl rfl rfl rfl rfl rfl d_R_reach_43 (fun H locs hw => ?_)
      exact rx_retV S hr hlk hw rfl (by first | exact absurd c_2 c_1 | (unfold rm_reach; simp only [if_neg c_1, if_pos c_2]; done) | (unfold rm_reach; simp only [if_neg c_1, if_pos c_2]; rfl) | (unfold rm_reach; rfl) | rfl) d_R_reach_46
section LRG
variable {p : Program} {l : Launch} {e : Env} {R : Room} {s : State} {m : MethodId} {args : Array Value} {below : List Frame} {meth : Method} {c : Code} {Q : State → Prop} {D : va_G} {cs : rx_c} {b : rx_a} {k lim : Int32} {A : Nat → Prop} {c1 : Cond}
set_option maxHeartbeats 4000000 in
set_option maxRecDepth 100000 in
theorem lr_regs (S : CallFix p m c b_R_goOver 5 s args (c1 :: bt) "StepHeapModel") (hfr : 1 ≤ R.frames) (hlc : 21 ≤ R.locals) :
    ∀ (n j : Nat) (τ : rm_S) (H : Heap) (locs : List Loc) (ls : Array Slot), j + n = 8 → rs_regsN τ j n → rx_Wd D cs b k lim s A τ H locs → lv_has ls 5 [(1, .int (nI j)), (0, .ref (bO b))] →
    (∀ (H' : Heap) (locs' : List Loc) (ls' : Array Slot), rx_Wd D cs b k lim s A (rm_regsN τ j n) H' locs' → lv_has ls' 5 [(0, .ref (bO b))] → W p l e R s m args below meth c H' locs' 0 0 Q (F0 m 29 ls' [])) →
    W p l e R s m args below meth c H locs 0 0 Q (F0 m 7 ls []) := by
  intro n
  induction n with
  | zero =>
    intro j τ H locs ls hj hs hw hl K
    refine lv_iload_n S.1 S.2.1 d_R_goOver_7 rfl (lv_at hl 0 rfl) ?_
    refine lv_bipush (v := 8) S.1 S.2.1 d_R_goOver_8 (by decide) ?_
    refine lv_icmp_ge (tgt := 29) S.1 S.2.1 d_R_goOver_10 (by decide) (fun c_1 => ?_) (fun c_1 => ?_)
    · have c_1n := i32_nlt c_1
      exact K H locs ls hw (lv_sub hl [1] rfl)
    · have c_1n := i32_lt c_1
      exact absurd (by rw [show j = 8 by omega]; decide) c_1
  | succ n ih =>
    intro j τ H locs ls hj hs hw hl K
    refine lv_iload_n S.1 S.2.1 d_R_goOver_7 rfl (lv_at hl 0 rfl) ?_
    refine lv_bipush (v := 8) S.1 S.2.1 d_R_goOver_8 (by decide) ?_
    refine lv_icmp_ge (tgt := 29) S.1 S.2.1 d_R_goOver_10 (by decide) (fun c_1 => ?_) (fun c_1 => ?_)
    · have c_1n := i32_nlt c_1
      exact absurd c_1 (nI_ge (show j < 8 by omega) (by decide))
    · have c_1n := i32_lt c_1
      refine lv_aload_n S.1 S.2.1 d_R_goOver_13 rfl (lv_at hl 1 rfl) ?_
      refine lv_aload_n S.1 S.2.1 d_R_goOver_14 rfl (lv_at hl 1 rfl) ?_
      refine rx_get S hw (j := 11) (v := .ref (bReg b)) (by decide) tb_364 rfl rfl d_R_goOver_15 ?_
      refine lv_iload_n S.1 S.2.1 d_R_goOver_18 rfl (lv_at hl 0 rfl) ?_
      refine rx_ldReg S hw (i := nI j) (vp_in_nI (by omega) (by decide)) d_R_goOver_19 ?_
      rw [nI_clamp (show j < 2 ^ 31 by omega)]
      refine rx_call S hw (As := [.int (rReg τ j)]) (rest := []) (c_R_reach l D cs b k lim τ (rReg τ j) hs.1) tb_439 tb_436 tb_438 tp_16 tb_5 hd_R_reach rfl ⟨by omega, by omega⟩ hl.1 rfl (Nat.le_of_ble_eq_true rfl) d_R_goOver_20 (fun H locs hw => ?_)
      generalize hq_1 : rm_reach τ (rReg τ j) = q_1 at hw ⊢
      refine W.eq (g2 := F0 m 23 ls []) rfl ?_
      refine lv_iinc (v := (nI j) + 1) (lv' := [(1, .int ((nI j) + 1)), (0, .ref (bO b))]) S.1 S.2.1 d_R_goOver_23 hl (k := 0) rfl rfl (by decide) rfl (fun ls hl => ?_)
      refine lv_goto (tgt := 7) S.1 S.2.1 d_R_goOver_26 (by decide) ?_
      subst hq_1
      rw [nI_1] at hl
      exact ih (j + 1) _ H locs ls (by omega) hs.2 hw hl K
end LRG
section LRR
variable {p : Program} {l : Launch} {e : Env} {R : Room} {s : State} {m : MethodId} {args : Array Value} {below : List Frame} {meth : Method} {c : Code} {Q : State → Prop} {D : va_G} {cs : rx_c} {b : rx_a} {k lim : Int32} {A : Nat → Prop} {c1 : Cond}
set_option maxHeartbeats 4000000 in
set_option maxRecDepth 100000 in
theorem lr_row (S : CallFix p m c b_R_goOver 5 s args (c1 :: bt) "StepHeapModel") (hfr : 1 ≤ R.frames) (hlc : 21 ≤ R.locals) {o sm n2 : Int32} {N : Nat} (ho : vp_in o 120064) (hN15 : N ≤ 15) :
    ∀ (n j : Nat) (f : Int32) (τ : rm_S) (H : Heap) (locs : List Loc) (ls : Array Slot), f = nI j → j + n = N → rRefs τ o.toNatClampNeg = nI N → rs_rowN τ o f n → rx_Wd D cs b k lim s A τ H locs → lv_has ls 5 [(4, .int f), (1, .int sm), (3, .int o), (2, .int n2), (0, .ref (bO b))] →
    (∀ (H' : Heap) (locs' : List Loc) (ls' : Array Slot) (f' : Int32), rx_Wd D cs b k lim s A (rm_rowN τ o f n) H' locs' → lv_has ls' 5 [(4, .int f'), (1, .int sm), (3, .int o), (2, .int n2), (0, .ref (bO b))] → W p l e R s m args below meth c H' locs' 0 0 Q (F0 m 92 ls' [])) →
    W p l e R s m args below meth c H locs 0 0 Q (F0 m 59 ls []) := by
  intro n
  induction n with
  | zero =>
    intro j f τ H locs ls hf hj hN hs hw hl K
    refine lv_iload S.1 S.2.1 d_R_goOver_59 (lv_at hl 0 rfl) ?_
    refine lv_aload_n S.1 S.2.1 d_R_goOver_61 rfl (lv_at hl 4 rfl) ?_
    refine rx_get S hw (j := 3) (v := .ref (bRefs b)) (by decide) tb_356 rfl rfl d_R_goOver_62 ?_
    refine lv_iload_n S.1 S.2.1 d_R_goOver_65 rfl (lv_at hl 2 rfl) ?_
    refine rx_ldRefs S hw (i := o) (ho) d_R_goOver_66 ?_
    refine lv_icmp_ge (tgt := 92) S.1 S.2.1 d_R_goOver_67 (by decide) (fun c_1 => ?_) (fun c_1 => ?_)
    · have c_1n := i32_nlt c_1
      exact K H locs ls f hw hl
    · have c_1n := i32_lt c_1
      exact absurd (by rw [hN, hf, show j = N by omega]; exact nI_le (Nat.le_refl _) (by omega)) c_1
  | succ n ih =>
    intro j f τ H locs ls hf hj hN hs hw hl K
    refine lv_iload S.1 S.2.1 d_R_goOver_59 (lv_at hl 0 rfl) ?_
    refine lv_aload_n S.1 S.2.1 d_R_goOver_61 rfl (lv_at hl 4 rfl) ?_
    refine rx_get S hw (j := 3) (v := .ref (bRefs b)) (by decide) tb_356 rfl rfl d_R_goOver_62 ?_
    refine lv_iload_n S.1 S.2.1 d_R_goOver_65 rfl (lv_at hl 2 rfl) ?_
    refine rx_ldRefs S hw (i := o) (ho) d_R_goOver_66 ?_
    refine lv_icmp_ge (tgt := 92) S.1 S.2.1 d_R_goOver_67 (by decide) (fun c_1 => ?_) (fun c_1 => ?_)
    · have c_1n := i32_nlt c_1
      exact absurd (by rw [hN, hf] at c_1; exact c_1) (nI_ge (show j < N by omega) (by omega))
    · have c_1n := i32_lt c_1
      refine lv_aload_n S.1 S.2.1 d_R_goOver_70 rfl (lv_at hl 4 rfl) ?_
      refine lv_aload_n S.1 S.2.1 d_R_goOver_71 rfl (lv_at hl 4 rfl) ?_
      refine rx_get S hw (j := 7) (v := .ref (bRow b)) (by decide) tb_360 rfl rfl d_R_goOver_72 ?_
      refine lv_iload_n S.1 S.2.1 d_R_goOver_75 rfl (lv_at hl 2 rfl) ?_
      refine lv_bipush (v := 16) S.1 S.2.1 d_R_goOver_76 (by decide) ?_
      refine lv_imul S.1 S.2.1 d_R_goOver_78 ?_
      refine lv_iload S.1 S.2.1 d_R_goOver_79 (lv_at hl 0 rfl) ?_
      refine lv_iadd S.1 S.2.1 d_R_goOver_81 ?_
      refine rx_ldRow S hw (i := (o * 16) + f) (hs.1) d_R_goOver_82 ?_
      refine rx_call S hw (As := [.int (rRow τ ((o * 16) + f).toNatClampNeg)]) (rest := []) (c_R_reach l D cs b k lim τ (rRow τ ((o * 16) + f).toNatClampNeg) hs.2.1) tb_439 tb_436 tb_438 tp_16 tb_5 hd_R_reach rfl ⟨by omega, by omega⟩ hl.1 rfl (Nat.le_of_ble_eq_true rfl) d_R_goOver_83 (fun H locs hw => ?_)
      generalize hq_1 : rm_reach τ (rRow τ ((o * 16) + f).toNatClampNeg) = q_1 at hw ⊢
      refine W.eq (g2 := F0 m 86 ls []) rfl ?_
      refine lv_iinc (v := f + 1) (lv' := [(4, .int (f + 1)), (1, .int sm), (3, .int o), (2, .int n2), (0, .ref (bO b))]) S.1 S.2.1 d_R_goOver_86 hl (k := 0) rfl rfl (by decide) rfl (fun ls hl => ?_)
      refine lv_goto (tgt := 59) S.1 S.2.1 d_R_goOver_89 (by decide) ?_
      subst hq_1
      exact ih (j + 1) (f + 1) _ H locs ls (by rw [hf]; exact nI_1 j) (by omega) (by rw [(rp_reach _ _).1]; exact hN) hs.2.2 hw (lv_sub hl [0, 1, 2, 3, 4] rfl) K
end LRR
section LRP
variable {p : Program} {l : Launch} {e : Env} {R : Room} {s : State} {m : MethodId} {args : Array Value} {below : List Frame} {meth : Method} {c : Code} {Q : State → Prop} {D : va_G} {cs : rx_c} {b : rx_a} {k lim : Int32} {A : Nat → Prop} {c1 : Cond}
set_option maxHeartbeats 4000000 in
set_option maxRecDepth 100000 in
theorem lr_pile (S : CallFix p m c b_R_goOver 5 s args (c1 :: bt) "StepHeapModel") (hfr : 1 ≤ R.frames) (hlc : 21 ≤ R.locals) :
    ∀ (c9 : Nat) (τ : rm_S) (sm n2 : Int32) (H : Heap) (locs : List Loc) (ls : Array Slot), rs_pileN τ n2 c9 → rx_Wd D cs b k lim s A τ H locs → lv_has ls 5 [(2, .int n2), (1, .int sm), (0, .ref (bO b))] →
    (∀ (H' : Heap) (locs' : List Loc) (ls' : Array Slot) (n' : Int32), rx_Wd D cs b k lim s A (rm_pileN τ sm n2 c9).2 H' locs' → lv_has ls' 5 [(2, .int n'), (1, .int (rm_pileN τ sm n2 c9).1), (0, .ref (bO b))] → W p l e R s m args below meth c H' locs' 0 0 Q (F0 m 98 ls' [])) →
    W p l e R s m args below meth c H locs 0 0 Q (F0 m 33 ls []) := by
  intro c9
  induction c9 with
  | zero =>
    intro τ sm n2 H locs ls hs hw hl K
    refine lv_iload_n S.1 S.2.1 d_R_goOver_33 rfl (lv_at hl 0 rfl) ?_
    refine lv_aload_n S.1 S.2.1 d_R_goOver_34 rfl (lv_at hl 2 rfl) ?_
    refine rx_get S hw (j := 17) (v := .int (rPus τ)) (by decide) tb_370 rfl rfl d_R_goOver_35 ?_
    refine lv_icmp_ge (tgt := 98) S.1 S.2.1 d_R_goOver_38 (by decide) (fun c_1 => ?_) (fun c_1 => ?_)
    · have c_1n := i32_nlt c_1
      exact K H locs ls n2 hw hl
    · have c_1n := i32_lt c_1
      exact absurd hs c_1
  | succ c9 ih =>
    intro τ sm n2 H locs ls hs hw hl K
    refine lv_iload_n S.1 S.2.1 d_R_goOver_33 rfl (lv_at hl 0 rfl) ?_
    refine lv_aload_n S.1 S.2.1 d_R_goOver_34 rfl (lv_at hl 2 rfl) ?_
    refine rx_get S hw (j := 17) (v := .int (rPus τ)) (by decide) tb_370 rfl rfl d_R_goOver_35 ?_
    refine lv_icmp_ge (tgt := 98) S.1 S.2.1 d_R_goOver_38 (by decide) (fun c_1 => ?_) (fun c_1 => ?_)
    · have c_1n := i32_nlt c_1
      have eN : rm_pileN τ sm n2 (c9 + 1) = (sm, τ) := by rw [rm_pileN, if_pos c_1]
      rw [eN] at K
      exact K H locs ls n2 hw hl
    · have c_1n := i32_lt c_1
      have hs := hs.resolve_left c_1
      refine lv_aload_n S.1 S.2.1 d_R_goOver_41 rfl (lv_at hl 2 rfl) ?_
      refine rx_get S hw (j := 16) (v := .ref (bPile b)) (by decide) tb_369 rfl rfl d_R_goOver_42 ?_
      refine lv_iload_n S.1 S.2.1 d_R_goOver_45 rfl (lv_at hl 0 rfl) ?_
      refine rx_ldPile S hw (i := n2) (hs.1) d_R_goOver_46 ?_
      refine lv_istore_n (lv' := [(3, .int (rPile τ (n2).toNatClampNeg)), (2, .int n2), (1, .int sm), (0, .ref (bO b))]) S.1 S.2.1 d_R_goOver_47 rfl hl (by decide) rfl (fun ls hl => ?_)
      refine lv_iload_n S.1 S.2.1 d_R_goOver_48 rfl (lv_at hl 2 rfl) ?_
      refine lv_aload_n S.1 S.2.1 d_R_goOver_49 rfl (lv_at hl 3 rfl) ?_
      refine lv_iload_n S.1 S.2.1 d_R_goOver_50 rfl (lv_at hl 0 rfl) ?_
      refine rx_rd S hw (As := [.int (rPile τ (n2).toNatClampNeg)]) (rest := [.int sm]) (c_R_cells l D cs b k lim τ (rPile τ (n2).toNatClampNeg) hs.2.1) tb_443 tb_440 tb_442 tp_17 tb_5 hd_R_cells rfl ⟨by omega, by omega⟩ hl.1 rfl (Nat.le_of_ble_eq_true rfl) d_R_goOver_51 ?_
      refine lv_iadd S.1 S.2.1 d_R_goOver_54 ?_
      refine lv_istore_n (lv' := [(1, .int (sm + (rm_cells τ (rPile τ (n2).toNatClampNeg)))), (3, .int (rPile τ (n2).toNatClampNeg)), (2, .int n2), (0, .ref (bO b))]) S.1 S.2.1 d_R_goOver_55 rfl hl (by decide) rfl (fun ls hl => ?_)
      refine lv_iconst (v := 0) S.1 S.2.1 d_R_goOver_56 (by decide) ?_
      refine lv_istore (lv' := [(4, .int 0), (1, .int (sm + (rm_cells τ (rPile τ (n2).toNatClampNeg)))), (3, .int (rPile τ (n2).toNatClampNeg)), (2, .int n2), (0, .ref (bO b))]) S.1 S.2.1 d_R_goOver_57 hl (by decide) rfl (fun ls hl => ?_)
      obtain ⟨N, hN1, hN2, hN3⟩ := hs.2.2.1
      refine lr_row S (by omega) (by omega) hs.2.1 hN1 N 0 0 τ _ _ ls rfl (by omega) hN2 hN3 hw (lv_sub hl [0, 1, 2, 3, 4] rfl) (fun H locs ls f9 hw hl => ?_)
      generalize hq_1 : rm_rowN τ (rPile τ (n2).toNatClampNeg) 0 N = q_1 at hw ⊢
      refine lv_iinc (v := n2 + 1) (lv' := [(2, .int (n2 + 1)), (4, .int f9), (1, .int (sm + (rm_cells τ (rPile τ (n2).toNatClampNeg)))), (3, .int (rPile τ (n2).toNatClampNeg)), (0, .ref (bO b))]) S.1 S.2.1 d_R_goOver_92 hl (k := 3) rfl rfl (by decide) rfl (fun ls hl => ?_)
      refine lv_goto (tgt := 33) S.1 S.2.1 d_R_goOver_95 (by decide) ?_
      have eN : rm_pileN τ sm n2 (c9 + 1) = rm_pileN q_1 (sm + rm_cells τ (rPile τ n2.toNatClampNeg)) (n2 + 1) c9 := by rw [rm_pileN, if_neg c_1, hN2, nI_clamp (by omega), hq_1]
      rw [eN] at K
      have hs4 := hs.2.2.2
      rw [hN2, nI_clamp (by omega), hq_1] at hs4
      exact ih _ _ _ H locs ls hs4 hw (lv_sub hl [0, 2, 4] rfl) K
end LRP
section LRC
variable {p : Program} {l : Launch} {e : Env} {R : Room} {s : State} {m : MethodId} {args : Array Value} {below : List Frame} {meth : Method} {c : Code} {Q : State → Prop} {D : va_G} {cs : rx_c} {b : rx_a} {k lim : Int32} {A : Nat → Prop} {c1 : Cond}
set_option maxHeartbeats 4000000 in
set_option maxRecDepth 100000 in
theorem lr_clr (S : CallFix p m c b_R_goOver 5 s args (c1 :: bt) "StepHeapModel") {sm : Int32} {N : Nat} (hN9 : N < 2 ^ 30) :
    ∀ (n j : Nat) (o : Int32) (τ : rm_S) (H : Heap) (locs : List Loc) (ls : Array Slot), o = nI j → j + n = N → rObj τ = nI N → rs_clrN τ o n → rx_Wd D cs b k lim s A τ H locs → lv_has ls 5 [(2, .int o), (1, .int sm), (0, .ref (bO b))] →
    (∀ (H' : Heap) (locs' : List Loc) (ls' : Array Slot) (o' : Int32), rx_Wd D cs b k lim s A (rm_clrN τ o n) H' locs' → lv_has ls' 5 [(2, .int o'), (1, .int sm), (0, .ref (bO b))] → W p l e R s m args below meth c H' locs' 0 0 Q (F0 m 166 ls' [])) →
    W p l e R s m args below meth c H locs 0 0 Q (F0 m 100 ls []) := by
  intro n
  induction n with
  | zero =>
    intro j o τ H locs ls ho hj hN hs hw hl K
    refine lv_iload_n S.1 S.2.1 d_R_goOver_100 rfl (lv_at hl 0 rfl) ?_
    refine lv_aload_n S.1 S.2.1 d_R_goOver_101 rfl (lv_at hl 2 rfl) ?_
    refine rx_get S hw (j := 8) (v := .int (rObj τ)) (by decide) tb_361 rfl rfl d_R_goOver_102 ?_
    refine lv_icmp_ge (tgt := 166) S.1 S.2.1 d_R_goOver_105 (by decide) (fun c_1 => ?_) (fun c_1 => ?_)
    · have c_1n := i32_nlt c_1
      exact K H locs ls o hw hl
    · have c_1n := i32_lt c_1
      exact absurd (by rw [hN, ho, show j = N by omega]; exact nI_le (Nat.le_refl _) (by omega)) c_1
  | succ n ih =>
    intro j o τ H locs ls ho hj hN hs hw hl K
    refine lv_iload_n S.1 S.2.1 d_R_goOver_100 rfl (lv_at hl 0 rfl) ?_
    refine lv_aload_n S.1 S.2.1 d_R_goOver_101 rfl (lv_at hl 2 rfl) ?_
    refine rx_get S hw (j := 8) (v := .int (rObj τ)) (by decide) tb_361 rfl rfl d_R_goOver_102 ?_
    refine lv_icmp_ge (tgt := 166) S.1 S.2.1 d_R_goOver_105 (by decide) (fun c_1 => ?_) (fun c_1 => ?_)
    · have c_1n := i32_nlt c_1
      exact absurd (by rw [hN, ho] at c_1; exact c_1) (nI_ge (show j < N by omega) (by omega))
    · have c_1n := i32_lt c_1
      refine lv_aload_n S.1 S.2.1 d_R_goOver_108 rfl (lv_at hl 2 rfl) ?_
      refine rx_get S hw (j := 15) (v := .ref (bMark b)) (by decide) tb_368 rfl rfl d_R_goOver_109 ?_
      refine lv_iload_n S.1 S.2.1 d_R_goOver_112 rfl (lv_at hl 0 rfl) ?_
      refine rx_ldMark S hw (i := o) (hs.1) d_R_goOver_113 ?_
      refine lv_if_ne (tgt := 153) S.1 S.2.1 d_R_goOver_114 (by decide) (fun c_2 => ?_) (fun c_2 => ?_)
      · refine lv_aload_n S.1 S.2.1 d_R_goOver_153 rfl (lv_at hl 2 rfl) ?_
        refine rx_get S hw (j := 15) (v := .ref (bMark b)) (by decide) tb_368 rfl rfl d_R_goOver_154 ?_
        refine lv_iload_n S.1 S.2.1 d_R_goOver_157 rfl (lv_at hl 0 rfl) ?_
        refine lv_iconst (v := 0) S.1 S.2.1 d_R_goOver_158 (by decide) ?_
        refine rx_stMark S hw (i := o) (x := 0) (hs.1) d_R_goOver_159 (fun H locs hw => ?_)
        refine lv_iinc (v := o + 1) (lv' := [(2, .int (o + 1)), (1, .int sm), (0, .ref (bO b))]) S.1 S.2.1 d_R_goOver_160 hl (k := 0) rfl rfl (by decide) rfl (fun ls hl => ?_)
        refine lv_goto (tgt := 100) S.1 S.2.1 d_R_goOver_163 (by decide) ?_
        have est : rm_clr1 τ o = vMark τ (upd (rMark τ) (o).toNatClampNeg (vp_nar .boolean (0))) := by unfold rm_clr1; simp only [if_pos c_1n, if_neg c_2]; try rfl
        have hs3 := hs.2.2
        rw [rm_clrN, est] at K
        rw [est] at hs3
        exact ih (j + 1) (o + 1) _ H locs ls (by rw [ho]; exact nI_1 j) (by omega) (by rw [← est, rp_clr1]; exact hN) hs3 hw (lv_sub hl [0, 1, 2] rfl) K
      · refine lv_aload_n S.1 S.2.1 d_R_goOver_117 rfl (lv_at hl 2 rfl) ?_
        refine rx_get S hw (j := 2) (v := .ref (bKind b)) (by decide) tb_355 rfl rfl d_R_goOver_118 ?_
        refine lv_iload_n S.1 S.2.1 d_R_goOver_121 rfl (lv_at hl 0 rfl) ?_
        refine rx_ldKind S hw (i := o) (hs.1) d_R_goOver_122 ?_
        refine lv_if_eq (tgt := 153) S.1 S.2.1 d_R_goOver_123 (by decide) (fun c_3 => ?_) (fun c_3 => ?_)
        · refine lv_aload_n S.1 S.2.1 d_R_goOver_153 rfl (lv_at hl 2 rfl) ?_
          refine rx_get S hw (j := 15) (v := .ref (bMark b)) (by decide) tb_368 rfl rfl d_R_goOver_154 ?_
          refine lv_iload_n S.1 S.2.1 d_R_goOver_157 rfl (lv_at hl 0 rfl) ?_
          refine lv_iconst (v := 0) S.1 S.2.1 d_R_goOver_158 (by decide) ?_
          refine rx_stMark S hw (i := o) (x := 0) (hs.1) d_R_goOver_159 (fun H locs hw => ?_)
          refine lv_iinc (v := o + 1) (lv' := [(2, .int (o + 1)), (1, .int sm), (0, .ref (bO b))]) S.1 S.2.1 d_R_goOver_160 hl (k := 0) rfl rfl (by decide) rfl (fun ls hl => ?_)
          refine lv_goto (tgt := 100) S.1 S.2.1 d_R_goOver_163 (by decide) ?_
          have est : rm_clr1 τ o = vMark τ (upd (rMark τ) (o).toNatClampNeg (vp_nar .boolean (0))) := by unfold rm_clr1; simp only [if_pos c_1n, if_pos c_2, if_pos c_3]; try rfl
          have hs3 := hs.2.2
          rw [rm_clrN, est] at K
          rw [est] at hs3
          exact ih (j + 1) (o + 1) _ H locs ls (by rw [ho]; exact nI_1 j) (by omega) (by rw [← est, rp_clr1]; exact hN) hs3 hw (lv_sub hl [0, 1, 2] rfl) K
        · refine lv_aload_n S.1 S.2.1 d_R_goOver_126 rfl (lv_at hl 2 rfl) ?_
          refine rx_get S hw (j := 2) (v := .ref (bKind b)) (by decide) tb_355 rfl rfl d_R_goOver_127 ?_
          refine lv_iload_n S.1 S.2.1 d_R_goOver_130 rfl (lv_at hl 0 rfl) ?_
          refine lv_iconst (v := 0) S.1 S.2.1 d_R_goOver_131 (by decide) ?_
          refine rx_stKind S hw (i := o) (x := 0) (hs.1) d_R_goOver_132 (fun H locs hw => ?_)
          refine lv_aload_n S.1 S.2.1 d_R_goOver_133 rfl (lv_at hl 2 rfl) ?_
          refine rx_get S hw (j := 9) (v := .ref (bBack b)) (by decide) tb_362 rfl rfl d_R_goOver_134 ?_
          refine lv_aload_n S.1 S.2.1 d_R_goOver_137 rfl (lv_at hl 2 rfl) ?_
          refine rx_get S hw (j := 10) (v := .int (rGiv (vKind τ (upd (rKind τ) (o).toNatClampNeg (vp_nar .byte (0)))))) (by decide) tb_363 rfl rfl d_R_goOver_138 ?_
          refine lv_iload_n S.1 S.2.1 d_R_goOver_141 rfl (lv_at hl 0 rfl) ?_
          refine rx_stBack S hw (i := rGiv (vKind τ (upd (rKind τ) (o).toNatClampNeg (vp_nar .byte (0))))) (x := o) (hs.2.1) d_R_goOver_142 (fun H locs hw => ?_)
          refine lv_aload_n S.1 S.2.1 d_R_goOver_143 rfl (lv_at hl 2 rfl) ?_
          refine lv_dup S.1 S.2.1 d_R_goOver_144 rfl ?_
          refine rx_get S hw (j := 10) (v := .int (rGiv (vBack (vKind τ (upd (rKind τ) (o).toNatClampNeg (vp_nar .byte (0)))) (upd (rBack (vKind τ (upd (rKind τ) (o).toNatClampNeg (vp_nar .byte (0))))) (rGiv (vKind τ (upd (rKind τ) (o).toNatClampNeg (vp_nar .byte (0))))).toNatClampNeg (o))))) (by decide) tb_363 rfl rfl d_R_goOver_145 ?_
          refine lv_iconst (v := 1) S.1 S.2.1 d_R_goOver_148 (by decide) ?_
          refine lv_iadd S.1 S.2.1 d_R_goOver_149 ?_
          refine rx_put S hw (ρ' := vGiv (vBack (vKind τ (upd (rKind τ) (o).toNatClampNeg (vp_nar .byte (0)))) (upd (rBack (vKind τ (upd (rKind τ) (o).toNatClampNeg (vp_nar .byte (0))))) (rGiv (vKind τ (upd (rKind τ) (o).toNatClampNeg (vp_nar .byte (0))))).toNatClampNeg (o))) ((rGiv (vBack (vKind τ (upd (rKind τ) (o).toNatClampNeg (vp_nar .byte (0)))) (upd (rBack (vKind τ (upd (rKind τ) (o).toNatClampNeg (vp_nar .byte (0))))) (rGiv (vKind τ (upd (rKind τ) (o).toNatClampNeg (vp_nar .byte (0))))).toNatClampNeg (o)))) + 1)) (j := 10) (ty := .int) (by decide) tb_363 rfl rfl rfl rfl rfl rfl d_R_goOver_150 (fun H locs hw => ?_)
          refine lv_aload_n S.1 S.2.1 d_R_goOver_153 rfl (lv_at hl 2 rfl) ?_
          refine rx_get S hw (j := 15) (v := .ref (bMark b)) (by decide) tb_368 rfl rfl d_R_goOver_154 ?_
          refine lv_iload_n S.1 S.2.1 d_R_goOver_157 rfl (lv_at hl 0 rfl) ?_
          refine lv_iconst (v := 0) S.1 S.2.1 d_R_goOver_158 (by decide) ?_
          refine rx_stMark S hw (i := o) (x := 0) (hs.1) d_R_goOver_159 (fun H locs hw => ?_)
          refine lv_iinc (v := o + 1) (lv' := [(2, .int (o + 1)), (1, .int sm), (0, .ref (bO b))]) S.1 S.2.1 d_R_goOver_160 hl (k := 0) rfl rfl (by decide) rfl (fun ls hl => ?_)
          refine lv_goto (tgt := 100) S.1 S.2.1 d_R_goOver_163 (by decide) ?_
          have est : rm_clr1 τ o = vMark (vGiv (vBack (vKind τ (upd (rKind τ) (o).toNatClampNeg (vp_nar .byte (0)))) (upd (rBack (vKind τ (upd (rKind τ) (o).toNatClampNeg (vp_nar .byte (0))))) (rGiv (vKind τ (upd (rKind τ) (o).toNatClampNeg (vp_nar .byte (0))))).toNatClampNeg (o))) ((rGiv (vBack (vKind τ (upd (rKind τ) (o).toNatClampNeg (vp_nar .byte (0)))) (upd (rBack (vKind τ (upd (rKind τ) (o).toNatClampNeg (vp_nar .byte (0))))) (rGiv (vKind τ (upd (rKind τ) (o).toNatClampNeg (vp_nar .byte (0))))).toNatClampNeg (o)))) + 1)) (upd (rMark (vGiv (vBack (vKind τ (upd (rKind τ) (o).toNatClampNeg (vp_nar .byte (0)))) (upd (rBack (vKind τ (upd (rKind τ) (o).toNatClampNeg (vp_nar .byte (0))))) (rGiv (vKind τ (upd (rKind τ) (o).toNatClampNeg (vp_nar .byte (0))))).toNatClampNeg (o))) ((rGiv (vBack (vKind τ (upd (rKind τ) (o).toNatClampNeg (vp_nar .byte (0)))) (upd (rBack (vKind τ (upd (rKind τ) (o).toNatClampNeg (vp_nar .byte (0))))) (rGiv (vKind τ (upd (rKind τ) (o).toNatClampNeg (vp_nar .byte (0))))).toNatClampNeg (o)))) + 1))) (o).toNatClampNeg (vp_nar .boolean (0))) := by unfold rm_clr1; simp only [if_pos c_1n, if_pos c_2, if_neg c_3]; try rfl
          have hs3 := hs.2.2
          rw [rm_clrN, est] at K
          rw [est] at hs3
          exact ih (j + 1) (o + 1) _ H locs ls (by rw [ho]; exact nI_1 j) (by omega) (by rw [← est, rp_clr1]; exact hN) hs3 hw (lv_sub hl [0, 1, 2] rfl) K
end LRC
