/-! ===== StepHeap: levelOfGap, cellOnWay, openWay ===== -/
theorem gp_dec {lv : Int32} {n : Nat} (h : lv.toInt ≤ (n + 1 : Nat)) (h0 : ¬ lv ≤ 0) : (lv + (-1)).toInt ≤ n := by
  rw [Int32.le_iff_toInt_le, Int32.toInt_zero] at h0
  have h1 : (lv + (-1)).toInt = lv.toInt - 1 := by
    obtain ⟨k, hk, rfl⟩ := nI_of (x := lv) (fun z => by rw [Int32.lt_iff_toInt_lt, Int32.toInt_zero] at z; omega)
    rw [nI_toInt hk] at h0 ⊢
    obtain ⟨k', rfl⟩ : ∃ k', k = k' + 1 := ⟨k - 1, by omega⟩
    rw [pk_m1, nI_toInt (by omega)]
    omega
  omega
theorem gp_zero {lv : Int32} (h : lv.toInt ≤ (0 : Nat)) : lv ≤ 0 := by
  rw [Int32.le_iff_toInt_le, Int32.toInt_zero]
  exact h
theorem gp_height (h : Int32) : (hd_height h).toInt ≤ (3 : Nat) ∧ (hd_height h = 0 ∨ hd_height h = 1 ∨ hd_height h = 2) := by
  unfold hd_height
  split
  · split
    · exact ⟨by decide, Or.inl rfl⟩
    · exact ⟨by decide, Or.inr (Or.inl rfl)⟩
  · exact ⟨by decide, Or.inr (Or.inr rfl)⟩
section LPG
variable {p : Program} {l : Launch} {e : Env} {R : Room} {s : State} {m : MethodId} {args : Array Value} {below : List Frame} {meth : Method} {c : Code} {D : va_G} {cI cP : ClassId} {a : cx_a} {κ : sh_K} {np n0 : Nat} {A : Nat → Prop} {c1 : Cond}
set_option maxHeartbeats 4000000 in
set_option maxRecDepth 100000 in
theorem lp_gap (S : CallFix p m c b_X_levelOfGap 6 s args (c1 :: bt) "StepHeap") (hr : meth.sig.returnType = some .int) (hlk : meth.locks = false) (hbud : 2 * (np - n0) ≤ R.cells ∧ 1025 * (np - n0) ≤ R.slots) (hfr : 5 ≤ R.frames) (hlc : 101 ≤ R.locals) {o h i : Int32} :
    ∀ (n : Nat) (τ : sh_S) (nd lv : Int32) (H : Heap) (locs : List Loc) (ls : Array Slot) (r : Int32 × sh_S), r = sh_gapN κ τ i nd lv n → lv.toInt ≤ (n : Nat) → cx_Wd D cI cP a κ np s A n0 τ H locs → lv_has ls 6 [(5, .int lv), (4, .int nd), (0, .ref (aXX a)), (1, .int o), (2, .int h), (3, .int i)] →
    W p l e R s m args below meth c H locs (2 * (nal τ - n0)) (1025 * (nal τ - n0)) (MQ below (sx_Q (some (.int r.1)) (fun t => ∃ Lp', cx_St D cI cP a κ np r.2 Lp' A t.heap) A (2 * (nal r.2 - n0)) (1025 * (nal r.2 - n0))) args s R.cells R.slots A) (F0 m 16 ls []) := by
  intro n
  induction n with
  | zero =>
    intro τ nd lv H locs ls r hrr hm hw hl
    refine lv_iload S.1 S.2.1 d_X_levelOfGap_16 (lv_at hl 0 rfl) ?_
    refine lv_if_le (tgt := 55) S.1 S.2.1 d_X_levelOfGap_18 (by decide) (fun c_1 => ?_) (fun c_1 => ?_)
    · refine lv_iconst (v := 0) S.1 S.2.1 d_X_levelOfGap_55 (by decide) ?_
      exact cx_retI S hr hlk hw hbud (by rw [hrr]; rfl) (by rw [hrr]; rfl) d_X_levelOfGap_56
    · exact absurd (gp_zero hm) c_1
  | succ n ih =>
    intro τ nd lv H locs ls r hrr hm hw hl
    refine lv_iload S.1 S.2.1 d_X_levelOfGap_16 (lv_at hl 0 rfl) ?_
    refine lv_if_le (tgt := 55) S.1 S.2.1 d_X_levelOfGap_18 (by decide) (fun c_1 => ?_) (fun c_1 => ?_)
    · refine lv_iconst (v := 0) S.1 S.2.1 d_X_levelOfGap_55 (by decide) ?_
      exact cx_retI S hr hlk hw hbud (by rw [hrr, sh_gapN]; simp only [if_pos c_1]) (by rw [hrr, sh_gapN]; simp only [if_pos c_1]) d_X_levelOfGap_56
    · refine lv_aload_n S.1 S.2.1 d_X_levelOfGap_21 rfl (lv_at hl 2 rfl) ?_
      refine cx_get S hw (q0 := 0) (ci := 0) (k := 1) (v := .ref (aXM a)) (fun _ => rfl) rfl (by decide) inX tb_104 rfl rfl d_X_levelOfGap_22 ?_
      refine lv_iload S.1 S.2.1 d_X_levelOfGap_25 (lv_at hl 1 rfl) ?_
      refine lv_iconst (v := 1) S.1 S.2.1 d_X_levelOfGap_27 (by decide) ?_
      refine lv_iadd S.1 S.2.1 d_X_levelOfGap_28 ?_
      refine lv_iload_n S.1 S.2.1 d_X_levelOfGap_29 rfl (lv_at hl 5 rfl) ?_
      refine lv_iload S.1 S.2.1 d_X_levelOfGap_30 (lv_at hl 0 rfl) ?_
      refine cx_fn S (As := [.int i, .int lv]) (rest := [.int (nd + 1), .ref (aXM a)]) (c_X_slot l i lv) tb_290 tb_288 tb_289 tb_1 hdf_X_slot rfl ⟨by omega, by omega⟩ hl.1 rfl (Nat.le_of_ble_eq_true rfl) d_X_levelOfGap_32 (hw.fit hbud) ?_
      refine lv_iadd S.1 S.2.1 d_X_levelOfGap_35 ?_
      refine cx_call S hw hbud (As := [.int ((nd + 1) + (sh_slot i lv))]) (rest := []) (c_M_follow l D cI cP a κ np τ ((nd + 1) + (sh_slot i lv))) (q0 := 2) (fun _ => rfl) rfl tb_241 tb_238 tb_239 tb_240 tb_3 hd_M_follow rfl ⟨by omega, by omega⟩ hl.1 rfl (Nat.le_of_ble_eq_true rfl) d_X_levelOfGap_36 (fun H locs hw => ?_)
      generalize hq_1 : sh_follow κ τ ((nd + 1) + (sh_slot i lv)) = q_1 at hw ⊢
      refine W.eq (g2 := F0 m 39 ls [.int q_1.1]) rfl ?_
      refine lv_istore (lv' := [(4, .int q_1.1), (5, .int lv), (0, .ref (aXX a)), (1, .int o), (2, .int h), (3, .int i)]) S.1 S.2.1 d_X_levelOfGap_39 hl (by decide) rfl (fun ls hl => ?_)
      refine lv_iload S.1 S.2.1 d_X_levelOfGap_41 (lv_at hl 0 rfl) ?_
      refine lv_if_ne (tgt := 49) S.1 S.2.1 d_X_levelOfGap_43 (by decide) (fun c_2 => ?_) (fun c_2 => ?_)
      · refine lv_iinc (v := lv + (-1)) (lv' := [(5, .int (lv + (-1))), (4, .int q_1.1), (0, .ref (aXX a)), (1, .int o), (2, .int h), (3, .int i)]) S.1 S.2.1 d_X_levelOfGap_49 hl (k := 1) rfl rfl (by decide) rfl (fun ls hl => ?_)
        refine lv_goto (tgt := 16) S.1 S.2.1 d_X_levelOfGap_52 (by decide) ?_
        have hr2 : r = sh_gapN κ q_1.2 i q_1.1 (lv + (-1)) n := by rw [hrr, sh_gapN]; simp only [if_neg c_1, hq_1, if_neg c_2]
        exact ih q_1.2 q_1.1 (lv + (-1)) H locs ls r hr2 (gp_dec hm c_1) hw (lv_sub hl [0, 1, 2, 3, 4, 5] rfl)
      · refine lv_iload S.1 S.2.1 d_X_levelOfGap_46 (lv_at hl 1 rfl) ?_
        exact cx_retI S hr hlk hw hbud (by rw [hrr, sh_gapN]; simp only [if_neg c_1, hq_1, if_pos c_2]) (by rw [hrr, sh_gapN]; simp only [if_neg c_1, hq_1, if_pos c_2]) d_X_levelOfGap_48
end LPG
set_option maxHeartbeats 4000000 in
set_option maxRecDepth 100000 in
theorem c_X_levelOfGap (l : Launch) (D : va_G) (cI cP : ClassId) (a : cx_a) (κ : sh_K) (np : Nat) (σ : sh_S) (o h i : Int32) : cx_Met l D cI cP a κ np y_X_levelOfGap b_X_levelOfGap 6 (some .int) 5 101 [.ref (aXX a), .int o, .int h, .int i] σ (some (.int ((sh_gap κ σ o h i).1))) ((sh_gap κ σ o h i).2) := by
  refine cx_start (by decide) (Nat.le_of_ble_eq_true rfl) mo_gap ?_
  intro p e R s m args below meth c A ls S hr hlk hfr hlc hw hbud hl
  have hl : lv_has ls 6 [(0, .ref (aXX a)), (1, .int o), (2, .int h), (3, .int i)] := hl
  refine lv_aload_n S.1 S.2.1 d_X_levelOfGap_0 rfl (lv_at hl 0 rfl) ?_
  refine cx_get S hw (q0 := 0) (ci := 0) (k := 1) (v := .ref (aXM a)) (fun _ => rfl) rfl (by decide) inX tb_104 rfl rfl d_X_levelOfGap_1 ?_
  refine lv_iload_n S.1 S.2.1 d_X_levelOfGap_4 rfl (lv_at hl 1 rfl) ?_
  refine cx_rd S hw (hw.fit hbud) (As := [.int o]) (rest := []) (c_M_register l D cI cP a κ np σ o) (q0 := 2) (fun _ => rfl) rfl tb_226 tb_223 tb_224 tb_225 tb_3 hd_M_register rfl ⟨by omega, by omega⟩ hl.1 rfl (Nat.le_of_ble_eq_true rfl) d_X_levelOfGap_5 ?_
  refine lv_istore (lv' := [(4, .int (sh_reg σ o)), (0, .ref (aXX a)), (1, .int o), (2, .int h), (3, .int i)]) S.1 S.2.1 d_X_levelOfGap_8 hl (by decide) rfl (fun ls hl => ?_)
  refine lv_iload_n S.1 S.2.1 d_X_levelOfGap_10 rfl (lv_at hl 3 rfl) ?_
  refine cx_fn S (As := [.int h]) (rest := []) (c_H_height l h) tb_287 tb_285 tb_286 tb_6 hdf_H_height rfl ⟨by omega, by omega⟩ hl.1 rfl (Nat.le_of_ble_eq_true rfl) d_X_levelOfGap_11 (hw.fit hbud) ?_
  refine lv_istore (lv' := [(5, .int (hd_height h)), (4, .int (sh_reg σ o)), (0, .ref (aXX a)), (1, .int o), (2, .int h), (3, .int i)]) S.1 S.2.1 d_X_levelOfGap_14 hl (by decide) rfl (fun ls hl => ?_)
  exact lp_gap S hr hlk hbud (by omega) (by omega) 3 σ _ _ _ _ ls (sh_gap κ σ o h i) rfl (gp_height h).1 hw (lv_sub hl [0, 1, 2, 3, 4, 5] rfl)
theorem wy_zero {ab v : Int32} {n : Nat} (h : ab.toInt ≤ v.toInt + (0 : Nat)) : ab ≤ v := by
  rw [Int32.le_iff_toInt_le]
  omega
theorem wy_dec {ab v : Int32} {n : Nat} (h : ab.toInt ≤ v.toInt + (n + 1 : Nat)) (h1 : ¬ ab ≤ v) (h0 : -1 ≤ v.toInt) : (ab + (-1)).toInt ≤ v.toInt + n := by
  rw [Int32.le_iff_toInt_le] at h1
  obtain ⟨k, hk, rfl⟩ := nI_of (x := ab) (fun z => by rw [Int32.lt_iff_toInt_lt, Int32.toInt_zero] at z; omega)
  rw [nI_toInt hk] at h h1
  cases k with
  | zero =>
    have : (nI 0 + (-1) : Int32).toInt = -1 := by decide
    omega
  | succ k =>
    rw [pk_m1, nI_toInt (by omega)]
    omega
section LPY
variable {p : Program} {l : Launch} {e : Env} {R : Room} {s : State} {m : MethodId} {args : Array Value} {below : List Frame} {meth : Method} {c : Code} {Q : State → Prop} {D : va_G} {cI cP : ClassId} {a : cx_a} {κ : sh_K} {np n0 : Nat} {A : Nat → Prop} {c1 : Cond}
set_option maxHeartbeats 4000000 in
set_option maxRecDepth 100000 in
theorem lp_way (S : CallFix p m c b_X_cellOnWay 7 s args (c1 :: bt) "StepHeap") (hbud : 2 * (np - n0) ≤ R.cells ∧ 1025 * (np - n0) ≤ R.slots) (hfr : 5 ≤ R.frames) (hlc : 101 ≤ R.locals) {o h i v : Int32} (h0 : -1 ≤ v.toInt) :
    ∀ (n : Nat) (τ : sh_S) (nd ab : Int32) (H : Heap) (locs : List Loc) (ls : Array Slot), ab.toInt ≤ v.toInt + (n : Nat) → cx_Wd D cI cP a κ np s A n0 τ H locs → lv_has ls 7 [(6, .int ab), (5, .int nd), (0, .ref (aXX a)), (1, .int o), (2, .int h), (3, .int i), (4, .int v)] →
    (∀ (H' : Heap) (locs' : List Loc) (ls' : Array Slot) (ab' : Int32), cx_Wd D cI cP a κ np s A n0 (sh_wayN κ τ i v nd ab n).2 H' locs' → lv_has ls' 7 [(6, .int ab'), (5, .int (sh_wayN κ τ i v nd ab n).1), (0, .ref (aXX a)), (1, .int o), (2, .int h), (3, .int i), (4, .int v)] → W p l e R s m args below meth c H' locs' (2 * (nal ((sh_wayN κ τ i v nd ab n).2) - n0)) (1025 * (nal ((sh_wayN κ τ i v nd ab n).2) - n0)) Q (F0 m 49 ls' [])) →
    W p l e R s m args below meth c H locs (2 * (nal (τ) - n0)) (1025 * (nal (τ) - n0)) Q (F0 m 16 ls []) := by
  intro n
  induction n with
  | zero =>
    intro τ nd ab H locs ls hm hw hl K
    refine lv_iload S.1 S.2.1 d_X_cellOnWay_16 (lv_at hl 0 rfl) ?_
    refine lv_iload S.1 S.2.1 d_X_cellOnWay_18 (lv_at hl 6 rfl) ?_
    refine lv_icmp_le (tgt := 49) S.1 S.2.1 d_X_cellOnWay_20 (by decide) (fun c_1 => ?_) (fun c_1 => ?_)
    · exact K H locs ls ab hw hl
    · exact absurd (wy_zero (n := 0) hm) c_1
  | succ n ih =>
    intro τ nd ab H locs ls hm hw hl K
    refine lv_iload S.1 S.2.1 d_X_cellOnWay_16 (lv_at hl 0 rfl) ?_
    refine lv_iload S.1 S.2.1 d_X_cellOnWay_18 (lv_at hl 6 rfl) ?_
    refine lv_icmp_le (tgt := 49) S.1 S.2.1 d_X_cellOnWay_20 (by decide) (fun c_1 => ?_) (fun c_1 => ?_)
    · have eN : sh_wayN κ τ i v nd ab (n + 1) = (nd, τ) := by rw [sh_wayN]; simp only [if_pos c_1]
      rw [eN] at K
      exact K H locs ls ab hw hl
    · refine lv_aload_n S.1 S.2.1 d_X_cellOnWay_23 rfl (lv_at hl 2 rfl) ?_
      refine cx_get S hw (q0 := 0) (ci := 0) (k := 1) (v := .ref (aXM a)) (fun _ => rfl) rfl (by decide) inX tb_104 rfl rfl d_X_cellOnWay_24 ?_
      refine lv_iload S.1 S.2.1 d_X_cellOnWay_27 (lv_at hl 1 rfl) ?_
      refine lv_iconst (v := 1) S.1 S.2.1 d_X_cellOnWay_29 (by decide) ?_
      refine lv_iadd S.1 S.2.1 d_X_cellOnWay_30 ?_
      refine lv_iload_n S.1 S.2.1 d_X_cellOnWay_31 rfl (lv_at hl 5 rfl) ?_
      refine lv_iload S.1 S.2.1 d_X_cellOnWay_32 (lv_at hl 0 rfl) ?_
      refine cx_fn S (As := [.int i, .int ab]) (rest := [.int (nd + 1), .ref (aXM a)]) (c_X_slot l i ab) tb_290 tb_288 tb_289 tb_1 hdf_X_slot rfl ⟨by omega, by omega⟩ hl.1 rfl (Nat.le_of_ble_eq_true rfl) d_X_cellOnWay_34 (hw.fit hbud) ?_
      refine lv_iadd S.1 S.2.1 d_X_cellOnWay_37 ?_
      refine cx_call S hw hbud (As := [.int ((nd + 1) + (sh_slot i ab))]) (rest := []) (c_M_follow l D cI cP a κ np τ ((nd + 1) + (sh_slot i ab))) (q0 := 2) (fun _ => rfl) rfl tb_241 tb_238 tb_239 tb_240 tb_3 hd_M_follow rfl ⟨by omega, by omega⟩ hl.1 rfl (Nat.le_of_ble_eq_true rfl) d_X_cellOnWay_38 (fun H locs hw => ?_)
      generalize hq_1 : sh_follow κ τ ((nd + 1) + (sh_slot i ab)) = q_1 at hw ⊢
      refine W.eq (g2 := F0 m 41 ls [.int q_1.1]) rfl ?_
      refine lv_istore (lv' := [(5, .int q_1.1), (6, .int ab), (0, .ref (aXX a)), (1, .int o), (2, .int h), (3, .int i), (4, .int v)]) S.1 S.2.1 d_X_cellOnWay_41 hl (by decide) rfl (fun ls hl => ?_)
      refine lv_iinc (v := ab + (-1)) (lv' := [(6, .int (ab + (-1))), (5, .int q_1.1), (0, .ref (aXX a)), (1, .int o), (2, .int h), (3, .int i), (4, .int v)]) S.1 S.2.1 d_X_cellOnWay_43 hl (k := 1) rfl rfl (by decide) rfl (fun ls hl => ?_)
      refine lv_goto (tgt := 16) S.1 S.2.1 d_X_cellOnWay_46 (by decide) ?_
      have eN : sh_wayN κ τ i v nd ab (n + 1) = sh_wayN κ q_1.2 i v q_1.1 (ab + (-1)) n := by rw [sh_wayN]; simp only [if_neg c_1, hq_1]
      rw [eN] at K
      exact ih q_1.2 q_1.1 (ab + (-1)) H locs ls (wy_dec hm c_1 h0) hw (lv_sub hl [0, 1, 2, 3, 4, 5, 6] rfl) K
end LPY
