/-! ===== Mover.follow, link, beginCycle, hasRoom ===== -/
set_option maxHeartbeats 4000000 in
set_option maxRecDepth 100000 in
theorem c_M_follow (l : Launch) (D : va_G) (cI cP : ClassId) (a : cx_a) (κ : sh_K) (np : Nat) (σ : sh_S) (x : Int32) : cx_Met l D cI cP a κ np y_M_follow b_M_follow 2 (some .int) 4 80 [.ref (aXM a), .int x] σ (some (.int ((sh_follow κ σ x).1))) ((sh_follow κ σ x).2) := by
  refine cx_start (by decide) (Nat.le_of_ble_eq_true rfl) mo_follow ?_
  intro p e R s m args below meth c A ls S hr hlk hfr hlc hw hbud hl
  have hl : lv_has ls 2 [(0, .ref (aXM a)), (1, .int x)] := hl
  refine lv_aload_n S.1 S.2.1 d_M_follow_0 rfl (lv_at hl 0 rfl) ?_
  refine lv_aload_n S.1 S.2.1 d_M_follow_1 rfl (lv_at hl 0 rfl) ?_
  refine cx_get S hw (q0 := 2) (ci := 2) (k := 0) (v := .ref (aXC a)) (fun _ => rfl) rfl (by decide) inM tb_59 rfl rfl d_M_follow_2 ?_
  refine lv_iload_n S.1 S.2.1 d_M_follow_5 rfl (lv_at hl 1 rfl) ?_
  refine cx_call S hw hbud (As := [.int x]) (rest := [.ref (aXM a)]) (c_C_read l D cI cP a κ np σ x) (q0 := 1) (fun _ => rfl) rfl tb_170 tb_167 tb_168 tb_169 tb_4 hd_C_read rfl ⟨by omega, by omega⟩ hl.1 rfl (Nat.le_of_ble_eq_true rfl) d_M_follow_6 (fun H locs hw => ?_)
  refine W.eq (g2 := F0 m 9 ls [.int (sh_val κ (σ).1 x), .ref (aXM a)]) rfl ?_
  refine cx_call S hw hbud (As := [.int (sh_val κ (σ).1 x)]) (rest := []) (c_M_placeInUse l D cI cP a κ np (uC σ (sh_touch κ (σ).1)) (sh_val κ (σ).1 x)) (q0 := 2) (fun _ => rfl) rfl tb_162 tb_159 tb_161 tp_3 tb_3 hd_M_placeInUse rfl ⟨by omega, by omega⟩ hl.1 rfl (Nat.le_of_ble_eq_true rfl) d_M_follow_9 (fun H locs hw => ?_)
  generalize hq_1 : sh_piu κ (uC σ (sh_touch κ (σ).1)) (sh_val κ (σ).1 x) = q_1 at hw ⊢
  refine W.eq (g2 := F0 m 12 ls [.int q_1.1]) rfl ?_
  exact cx_retI S hr hlk hw hbud (by first | (unfold sh_follow; simp only [hq_1]; done) | (unfold sh_follow; dsimp only; simp only [hq_1]; done) | (subst hq_1; unfold sh_follow; simp only [hC_eq, hC_clamp]; try rfl; done)) (by first | (unfold sh_follow; simp only [hq_1]; done) | (unfold sh_follow; dsimp only; simp only [hq_1]; done) | (subst hq_1; unfold sh_follow; simp only [hC_eq, hC_clamp]; try rfl; done)) d_M_follow_12
set_option maxHeartbeats 4000000 in
set_option maxRecDepth 100000 in
theorem c_M_link (l : Launch) (D : va_G) (cI cP : ClassId) (a : cx_a) (κ : sh_K) (np : Nat) (σ : sh_S) (x v : Int32) : cx_Met l D cI cP a κ np y_M_link b_M_link 3 (none) 5 101 [.ref (aXM a), .int x, .int v] σ (none) (sh_link κ σ x v) := by
  refine cx_start (by decide) (Nat.le_of_ble_eq_true rfl) mo_link ?_
  intro p e R s m args below meth c A ls S hr hlk hfr hlc hw hbud hl
  have hl : lv_has ls 3 [(0, .ref (aXM a)), (1, .int x), (2, .int v)] := hl
  refine lv_aload_n S.1 S.2.1 d_M_link_0 rfl (lv_at hl 0 rfl) ?_
  refine lv_iload_n S.1 S.2.1 d_M_link_1 rfl (lv_at hl 1 rfl) ?_
  refine cx_call S hw hbud (As := [.int x]) (rest := []) (c_M_follow l D cI cP a κ np σ x) (q0 := 2) (fun _ => rfl) rfl tb_241 tb_250 tb_239 tb_240 tb_3 hd_M_follow rfl ⟨by omega, by omega⟩ hl.1 rfl (Nat.le_of_ble_eq_true rfl) d_M_link_2 (fun H locs hw => ?_)
  generalize hq_1 : sh_follow κ σ x = q_1 at hw ⊢
  refine W.eq (g2 := F0 m 5 ls [.int q_1.1]) rfl ?_
  refine lv_pop S.1 S.2.1 d_M_link_5 rfl ?_
  refine lv_aload_n S.1 S.2.1 d_M_link_6 rfl (lv_at hl 0 rfl) ?_
  refine cx_get S hw (q0 := 2) (ci := 2) (k := 0) (v := .ref (aXC a)) (fun _ => rfl) rfl (by decide) inM tb_59 rfl rfl d_M_link_7 ?_
  refine lv_iload_n S.1 S.2.1 d_M_link_10 rfl (lv_at hl 1 rfl) ?_
  refine lv_iload_n S.1 S.2.1 d_M_link_11 rfl (lv_at hl 2 rfl) ?_
  refine cx_call S hw hbud (As := [.int x, .int v]) (rest := []) (c_C_write l D cI cP a κ np q_1.2 x v) (q0 := 1) (fun _ => rfl) rfl tb_179 tb_176 tb_177 tb_178 tb_4 hd_C_write rfl ⟨by omega, by omega⟩ hl.1 rfl (Nat.le_of_ble_eq_true rfl) d_M_link_12 (fun H locs hw => ?_)
  generalize hq_2 : sh_write κ (q_1.2).1 x v = q_2 at hw ⊢
  refine W.eq (g2 := F0 m 15 ls []) rfl ?_
  exact cx_retV S hr hlk hw hbud rfl (by first | (unfold sh_link; simp only [hq_1, hq_2]; done) | (unfold sh_link; dsimp only; simp only [hq_1, hq_2]; done) | (subst hq_2; subst hq_1; unfold sh_link; simp only [hC_eq, hC_clamp]; try rfl; done)) d_M_link_15
section CXL
variable {p : Program} {l : Launch} {e : Env} {R : Room} {s : State} {m : MethodId} {args : Array Value} {below : List Frame} {meth : Method} {c : Code} {H : Heap} {locs : List Loc} {Q : State → Prop} {D : va_G} {cI cP : ClassId} {a : cx_a} {κ : sh_K} {np n0 nL : Nat} {A : Nat → Prop} {σ : sh_S} {cc : ByteArray} {pc cells slots : Nat} {ls : Array Slot} {rest : List Value} {c1 : Cond} {own : String}
theorem cx_rlen (S : CallFix p m c cc nL s args (c1 :: bt) own) (hw : cx_Wd D cI cP a κ np s A n0 σ H locs) (hdg : decode cc pc = .ok (.arraylength, 1)) (kk : W p l e R s m args below meth c H locs cells slots Q (F0 m (pc + 1) ls (.int 8 :: rest))) : W p l e R s m args below meth c H locs cells slots Q (F0 m pc ls (.ref (aXR a) :: rest)) := by
  obtain ⟨hx, hb, hml, hown, hts⟩ := S
  obtain ⟨⟨Lp, -, hP, hD⟩, hS, hK, -⟩ := hw
  exact va_alen (D := D) (v := 8) hx hb hK hP 3 0 rfl rfl rfl hdg kk
end CXL
section LPB
variable {p : Program} {l : Launch} {e : Env} {R : Room} {s : State} {m : MethodId} {args : Array Value} {below : List Frame} {meth : Method} {c : Code} {Q : State → Prop} {D : va_G} {cI cP : ClassId} {a : cx_a} {κ : sh_K} {np n0 : Nat} {A : Nat → Prop} {c1 : Cond}
set_option maxHeartbeats 4000000 in
set_option maxRecDepth 100000 in
theorem lp_beg (S : CallFix p m c b_M_beginCycle 2 s args (c1 :: bt) "StepHeap$Mover") (hbud : 2 * (np - n0) ≤ R.cells ∧ 1025 * (np - n0) ≤ R.slots) (hfr : 4 ≤ R.frames) (hlc : 80 ≤ R.locals) :
    ∀ (n j : Nat) (τ : sh_S) (H : Heap) (locs : List Loc) (ls : Array Slot), j + n = 8 → cx_Wd D cI cP a κ np s A n0 τ H locs → lv_has ls 2 [(1, .int (nI j)), (0, .ref (aXM a))] →
    (∀ (H' : Heap) (locs' : List Loc) (ls' : Array Slot), cx_Wd D cI cP a κ np s A n0 (sh_regsN κ τ j n) H' locs' → W p l e R s m args below meth c H' locs' (2 * (nal (sh_regsN κ τ j n) - n0)) (1025 * (nal (sh_regsN κ τ j n) - n0)) Q (F0 m 70 ls' [])) →
    W p l e R s m args below meth c H locs (2 * (nal (τ) - n0)) (1025 * (nal (τ) - n0)) Q (F0 m 39 ls []) := by
  intro n
  induction n with
  | zero =>
    intro j τ H locs ls hj hw hl K
    refine lv_iload_n S.1 S.2.1 d_M_beginCycle_39 rfl (lv_at hl 0 rfl) ?_
    refine lv_aload_n S.1 S.2.1 d_M_beginCycle_40 rfl (lv_at hl 1 rfl) ?_
    refine cx_get S hw (q0 := 2) (ci := 2) (k := 4) (v := .ref (aXR a)) (fun _ => rfl) rfl (by decide) inM tb_65 rfl rfl d_M_beginCycle_41 ?_
    refine cx_rlen S hw d_M_beginCycle_44 ?_
    refine lv_icmp_ge (tgt := 70) S.1 S.2.1 d_M_beginCycle_45 (by decide) (fun c_1 => ?_) (fun c_1 => ?_)
    · have c_1n := i32_nlt c_1
      exact K H locs ls hw
    · have c_1n := i32_lt c_1
      exact absurd (by rw [show j = 8 by omega]; decide) c_1
  | succ n ih =>
    intro j τ H locs ls hj hw hl K
    refine lv_iload_n S.1 S.2.1 d_M_beginCycle_39 rfl (lv_at hl 0 rfl) ?_
    refine lv_aload_n S.1 S.2.1 d_M_beginCycle_40 rfl (lv_at hl 1 rfl) ?_
    refine cx_get S hw (q0 := 2) (ci := 2) (k := 4) (v := .ref (aXR a)) (fun _ => rfl) rfl (by decide) inM tb_65 rfl rfl d_M_beginCycle_41 ?_
    refine cx_rlen S hw d_M_beginCycle_44 ?_
    refine lv_icmp_ge (tgt := 70) S.1 S.2.1 d_M_beginCycle_45 (by decide) (fun c_1 => ?_) (fun c_1 => ?_)
    · have c_1n := i32_nlt c_1
      exact absurd c_1 (nI_ge (show j < 8 by omega) (by decide))
    · have c_1n := i32_lt c_1
      refine lv_aload_n S.1 S.2.1 d_M_beginCycle_48 rfl (lv_at hl 1 rfl) ?_
      refine cx_get S hw (q0 := 2) (ci := 2) (k := 4) (v := .ref (aXR a)) (fun _ => rfl) rfl (by decide) inM tb_65 rfl rfl d_M_beginCycle_49 ?_
      refine lv_iload_n S.1 S.2.1 d_M_beginCycle_52 rfl (lv_at hl 0 rfl) ?_
      refine lv_aload_n S.1 S.2.1 d_M_beginCycle_53 rfl (lv_at hl 1 rfl) ?_
      refine lv_aload_n S.1 S.2.1 d_M_beginCycle_54 rfl (lv_at hl 1 rfl) ?_
      refine cx_get S hw (q0 := 2) (ci := 2) (k := 4) (v := .ref (aXR a)) (fun _ => rfl) rfl (by decide) inM tb_65 rfl rfl d_M_beginCycle_55 ?_
      refine lv_iload_n S.1 S.2.1 d_M_beginCycle_58 rfl (lv_at hl 0 rfl) ?_
      refine cx_rld S hw (i := nI j) (vp_in_nI (by omega) (by decide)) d_M_beginCycle_59 ?_
      rw [nI_clamp (show j < 2 ^ 31 by omega)]
      refine cx_call S hw hbud (As := [.int (sReg τ j)]) (rest := [.int (nI j), .ref (aXR a)]) (c_M_placeInUse l D cI cP a κ np τ (sReg τ j)) (q0 := 2) (fun _ => rfl) rfl tb_162 tb_159 tb_161 tp_3 tb_3 hd_M_placeInUse rfl ⟨by omega, by omega⟩ hl.1 rfl (Nat.le_of_ble_eq_true rfl) d_M_beginCycle_60 (fun H locs hw => ?_)
      generalize hq_1 : sh_piu κ τ (sReg τ j) = q_1 at hw ⊢
      refine W.eq (g2 := F0 m 63 ls [.int q_1.1, .int (nI j), .ref (aXR a)]) rfl ?_
      refine cx_rst S hw (i := nI j) (v := q_1.1) (vp_in_nI (by omega) (by decide)) d_M_beginCycle_63 (fun H locs hw => ?_)
      rw [nI_clamp (show j < 2 ^ 31 by omega)] at hw
      refine W.cs (cells' := 2 * (nal (uReg q_1.2 (upd (sReg q_1.2) j (q_1.1))) - n0)) (slots' := 1025 * (nal (uReg q_1.2 (upd (sReg q_1.2) j (q_1.1))) - n0)) rfl rfl ?_
      refine lv_iinc (v := (nI j) + 1) (lv' := [(1, .int ((nI j) + 1)), (0, .ref (aXM a))]) S.1 S.2.1 d_M_beginCycle_64 hl (k := 0) rfl rfl (by decide) rfl (fun ls hl => ?_)
      refine lv_goto (tgt := 39) S.1 S.2.1 d_M_beginCycle_67 (by decide) ?_
      subst hq_1
      rw [nI_1] at hl
      exact ih (j + 1) _ H locs ls (by omega) hw hl K
end LPB
set_option maxHeartbeats 4000000 in
set_option maxRecDepth 100000 in
theorem c_M_beginCycle (l : Launch) (D : va_G) (cI cP : ClassId) (a : cx_a) (κ : sh_K) (np : Nat) (σ : sh_S) : cx_Met l D cI cP a κ np y_M_beginCycle b_M_beginCycle 2 (none) 4 80 [.ref (aXM a)] σ (none) (sh_begin κ σ) := by
  refine cx_start (by decide) (Nat.le_of_ble_eq_true rfl) mo_begin ?_
  intro p e R s m args below meth c A ls S hr hlk hfr hlc hw hbud hl
  have hl : lv_has ls 2 [(0, .ref (aXM a))] := hl
  refine lv_aload_n S.1 S.2.1 d_M_beginCycle_0 rfl (lv_at hl 0 rfl) ?_
  refine lv_aload_n S.1 S.2.1 d_M_beginCycle_1 rfl (lv_at hl 0 rfl) ?_
  refine cx_get S hw (q0 := 2) (ci := 2) (k := 7) (v := .int (sBase σ)) (fun _ => rfl) rfl (by decide) inM tb_70 rfl rfl d_M_beginCycle_2 ?_
  refine lv_iconst (v := 1) S.1 S.2.1 d_M_beginCycle_5 (by decide) ?_
  refine lv_icmp_ne (tgt := 18) S.1 S.2.1 d_M_beginCycle_6 (by decide) (fun c_1 => ?_) (fun c_1 => ?_)
  · refine lv_iconst (v := 1) S.1 S.2.1 d_M_beginCycle_18 (by decide) ?_
    refine cx_call S hw hbud (As := [.int 1]) (rest := []) (c_M_useHalf l D cI cP a κ np σ 1) (q0 := 2) (fun _ => rfl) rfl tb_58 tb_55 tb_57 tp_0 tb_3 hd_M_useHalf rfl ⟨by omega, by omega⟩ hl.1 rfl (Nat.le_of_ble_eq_true rfl) d_M_beginCycle_19 (fun H locs hw => ?_)
    refine W.eq (g2 := F0 m 22 ls []) rfl ?_
    refine lv_aload_n S.1 S.2.1 d_M_beginCycle_22 rfl (lv_at hl 0 rfl) ?_
    refine lv_iconst (v := 0) S.1 S.2.1 d_M_beginCycle_23 (by decide) ?_
    refine cx_put S hw (q0 := 2) (ci := 2) (k := 5) (σ' := uMade (sh_useHalf κ σ 1) (0)) (ty := .int) (fun _ => rfl) rfl (by decide) inM tyM tyM_ok nmM tb_66 rfl rfl rfl rfl rfl (Nat.le_of_ble_eq_true rfl) (fun _ => rfl) rfl rfl d_M_beginCycle_24 (fun H locs hw => ?_)
    refine W.cs (cells' := 2 * (nal (uMade (sh_useHalf κ σ 1) (0)) - nal σ)) (slots' := 1025 * (nal (uMade (sh_useHalf κ σ 1) (0)) - nal σ)) rfl rfl ?_
    refine lv_aload_n S.1 S.2.1 d_M_beginCycle_27 rfl (lv_at hl 0 rfl) ?_
    refine lv_dup S.1 S.2.1 d_M_beginCycle_28 rfl ?_
    refine cx_get S hw (q0 := 2) (ci := 2) (k := 6) (v := .int (sBeg (uMade (sh_useHalf κ σ 1) (0)))) (fun _ => rfl) rfl (by decide) inM tb_68 rfl rfl d_M_beginCycle_29 ?_
    refine lv_iconst (v := 1) S.1 S.2.1 d_M_beginCycle_32 (by decide) ?_
    refine lv_iadd S.1 S.2.1 d_M_beginCycle_33 ?_
    refine cx_put S hw (q0 := 2) (ci := 2) (k := 6) (σ' := uBeg (uMade (sh_useHalf κ σ 1) (0)) ((sBeg (uMade (sh_useHalf κ σ 1) (0))) + 1)) (ty := .int) (fun _ => rfl) rfl (by decide) inM tyM tyM_ok nmM tb_68 rfl rfl rfl rfl rfl (Nat.le_of_ble_eq_true rfl) (fun _ => rfl) rfl rfl d_M_beginCycle_34 (fun H locs hw => ?_)
    refine W.cs (cells' := 2 * (nal (uBeg (uMade (sh_useHalf κ σ 1) (0)) ((sBeg (uMade (sh_useHalf κ σ 1) (0))) + 1)) - nal σ)) (slots' := 1025 * (nal (uBeg (uMade (sh_useHalf κ σ 1) (0)) ((sBeg (uMade (sh_useHalf κ σ 1) (0))) + 1)) - nal σ)) rfl rfl ?_
    refine lv_iconst (v := 0) S.1 S.2.1 d_M_beginCycle_37 (by decide) ?_
    refine lv_istore_n (lv' := [(1, .int 0), (0, .ref (aXM a))]) S.1 S.2.1 d_M_beginCycle_38 rfl hl (by decide) rfl (fun ls hl => ?_)
    generalize hb8 : (8 : Nat) = n8
    refine lp_beg S hbud (by omega) (by omega) n8 0 _ H locs ls (by omega) hw hl (fun H locs ls hw => ?_)
    generalize hq_1 : sh_regsN κ (uBeg (uMade (sh_useHalf κ σ 1) (0)) ((sBeg (uMade (sh_useHalf κ σ 1) (0))) + 1)) 0 n8 = q_1 at hw ⊢
    exact cx_retV S hr hlk hw hbud rfl (by subst hq_1; subst hb8; unfold sh_begin; simp only [if_neg c_1]) d_M_beginCycle_70
  · refine lv_iconst (v := 1) S.1 S.2.1 d_M_beginCycle_9 (by decide) ?_
    refine lv_aload_n S.1 S.2.1 d_M_beginCycle_10 rfl (lv_at hl 0 rfl) ?_
    refine cx_get S hw (q0 := 2) (ci := 2) (k := 1) (v := .int (kHalf κ)) (fun _ => rfl) rfl (by decide) inM tb_61 rfl rfl d_M_beginCycle_11 ?_
    refine lv_iadd S.1 S.2.1 d_M_beginCycle_14 ?_
    refine lv_goto (tgt := 19) S.1 S.2.1 d_M_beginCycle_15 (by decide) ?_
    refine cx_call S hw hbud (As := [.int (1 + (kHalf κ))]) (rest := []) (c_M_useHalf l D cI cP a κ np σ (1 + (kHalf κ))) (q0 := 2) (fun _ => rfl) rfl tb_58 tb_55 tb_57 tp_0 tb_3 hd_M_useHalf rfl ⟨by omega, by omega⟩ hl.1 rfl (Nat.le_of_ble_eq_true rfl) d_M_beginCycle_19 (fun H locs hw => ?_)
    refine W.eq (g2 := F0 m 22 ls []) rfl ?_
    refine lv_aload_n S.1 S.2.1 d_M_beginCycle_22 rfl (lv_at hl 0 rfl) ?_
    refine lv_iconst (v := 0) S.1 S.2.1 d_M_beginCycle_23 (by decide) ?_
    refine cx_put S hw (q0 := 2) (ci := 2) (k := 5) (σ' := uMade (sh_useHalf κ σ (1 + (kHalf κ))) (0)) (ty := .int) (fun _ => rfl) rfl (by decide) inM tyM tyM_ok nmM tb_66 rfl rfl rfl rfl rfl (Nat.le_of_ble_eq_true rfl) (fun _ => rfl) rfl rfl d_M_beginCycle_24 (fun H locs hw => ?_)
    refine W.cs (cells' := 2 * (nal (uMade (sh_useHalf κ σ (1 + (kHalf κ))) (0)) - nal σ)) (slots' := 1025 * (nal (uMade (sh_useHalf κ σ (1 + (kHalf κ))) (0)) - nal σ)) rfl rfl ?_
    refine lv_aload_n S.1 S.2.1 d_M_beginCycle_27 rfl (lv_at hl 0 rfl) ?_
    refine lv_dup S.1 S.2.1 d_M_beginCycle_28 rfl ?_
    refine cx_get S hw (q0 := 2) (ci := 2) (k := 6) (v := .int (sBeg (uMade (sh_useHalf κ σ (1 + (kHalf κ))) (0)))) (fun _ => rfl) rfl (by decide) inM tb_68 rfl rfl d_M_beginCycle_29 ?_
    refine lv_iconst (v := 1) S.1 S.2.1 d_M_beginCycle_32 (by decide) ?_
    refine lv_iadd S.1 S.2.1 d_M_beginCycle_33 ?_
    refine cx_put S hw (q0 := 2) (ci := 2) (k := 6) (σ' := uBeg (uMade (sh_useHalf κ σ (1 + (kHalf κ))) (0)) ((sBeg (uMade (sh_useHalf κ σ (1 + (kHalf κ))) (0))) + 1)) (ty := .int) (fun _ => rfl) rfl (by decide) inM tyM tyM_ok nmM tb_68 rfl rfl rfl rfl rfl (Nat.le_of_ble_eq_true rfl) (fun _ => rfl) rfl rfl d_M_beginCycle_34 (fun H locs hw => ?_)
    refine W.cs (cells' := 2 * (nal (uBeg (uMade (sh_useHalf κ σ (1 + (kHalf κ))) (0)) ((sBeg (uMade (sh_useHalf κ σ (1 + (kHalf κ))) (0))) + 1)) - nal σ)) (slots' := 1025 * (nal (uBeg (uMade (sh_useHalf κ σ (1 + (kHalf κ))) (0)) ((sBeg (uMade (sh_useHalf κ σ (1 + (kHalf κ))) (0))) + 1)) - nal σ)) rfl rfl ?_
    refine lv_iconst (v := 0) S.1 S.2.1 d_M_beginCycle_37 (by decide) ?_
    refine lv_istore_n (lv' := [(1, .int 0), (0, .ref (aXM a))]) S.1 S.2.1 d_M_beginCycle_38 rfl hl (by decide) rfl (fun ls hl => ?_)
    generalize hb8 : (8 : Nat) = n8
    refine lp_beg S hbud (by omega) (by omega) n8 0 _ H locs ls (by omega) hw hl (fun H locs ls hw => ?_)
    generalize hq_2 : sh_regsN κ (uBeg (uMade (sh_useHalf κ σ (1 + (kHalf κ))) (0)) ((sBeg (uMade (sh_useHalf κ σ (1 + (kHalf κ))) (0))) + 1)) 0 n8 = q_2 at hw ⊢
    exact cx_retV S hr hlk hw hbud rfl (by subst hq_2; subst hb8; unfold sh_begin; simp only [if_pos c_1]) d_M_beginCycle_70
theorem z_done (κ : sh_K) (σ : sh_S) : sh_done κ σ = 0 ∨ sh_done κ σ = 1 := by unfold sh_done; split; split; exact Or.inl rfl; exact Or.inr rfl; exact Or.inl rfl
set_option maxHeartbeats 4000000 in
set_option maxRecDepth 100000 in
theorem c_M_hasRoom (l : Launch) (D : va_G) (cI cP : ClassId) (a : cx_a) (κ : sh_K) (np : Nat) (σ : sh_S) (n : Int32) : cx_Met l D cI cP a κ np y_M_hasRoom b_M_hasRoom 2 (some .boolean) 5 101 [.ref (aXM a), .int n] σ (some (.int ((sh_room κ σ n).1))) ((sh_room κ σ n).2) := by
  refine cx_start (by decide) (Nat.le_of_ble_eq_true rfl) mo_room ?_
  intro p e R s m args below meth c A ls S hr hlk hfr hlc hw hbud hl
  have hl : lv_has ls 2 [(0, .ref (aXM a)), (1, .int n)] := hl
  refine lv_aload_n S.1 S.2.1 d_M_hasRoom_0 rfl (lv_at hl 0 rfl) ?_
  refine cx_rd S hw (hw.fit hbud) (As := []) (rest := []) (c_M_isDone l D cI cP a κ np σ ) (q0 := 2) (fun _ => rfl) rfl tb_150 tb_147 tb_148 tb_149 tb_3 hd_M_isDone rfl ⟨by omega, by omega⟩ hl.1 rfl (Nat.le_of_ble_eq_true rfl) d_M_hasRoom_1 ?_
  refine lv_if_ne (tgt := 9) S.1 S.2.1 d_M_hasRoom_4 (by decide) (fun c_1 => ?_) (fun c_1 => ?_)
  · refine lv_aload_n S.1 S.2.1 d_M_hasRoom_9 rfl (lv_at hl 0 rfl) ?_
    refine cx_rd S hw (hw.fit hbud) (As := []) (rest := []) (c_M_moved l D cI cP a κ np σ ) (q0 := 2) (fun _ => rfl) rfl tb_154 tb_151 tb_152 tb_153 tb_3 hd_M_moved rfl ⟨by omega, by omega⟩ hl.1 rfl (Nat.le_of_ble_eq_true rfl) d_M_hasRoom_10 ?_
    refine lv_aload_n S.1 S.2.1 d_M_hasRoom_13 rfl (lv_at hl 0 rfl) ?_
    refine cx_get S hw (q0 := 2) (ci := 2) (k := 3) (v := .int (kLim κ)) (fun _ => rfl) rfl (by decide) inM tb_63 rfl rfl d_M_hasRoom_14 ?_
    refine lv_icmp_le (tgt := 22) S.1 S.2.1 d_M_hasRoom_17 (by decide) (fun c_2 => ?_) (fun c_2 => ?_)
    · refine lv_aload_n S.1 S.2.1 d_M_hasRoom_22 rfl (lv_at hl 0 rfl) ?_
      refine cx_rd S hw (hw.fit hbud) (As := []) (rest := []) (c_M_moved l D cI cP a κ np σ ) (q0 := 2) (fun _ => rfl) rfl tb_154 tb_151 tb_152 tb_153 tb_3 hd_M_moved rfl ⟨by omega, by omega⟩ hl.1 rfl (Nat.le_of_ble_eq_true rfl) d_M_hasRoom_23 ?_
      refine lv_aload_n S.1 S.2.1 d_M_hasRoom_26 rfl (lv_at hl 0 rfl) ?_
      refine cx_get S hw (q0 := 2) (ci := 2) (k := 5) (v := .int (sMade σ)) (fun _ => rfl) rfl (by decide) inM tb_66 rfl rfl d_M_hasRoom_27 ?_
      refine lv_iadd S.1 S.2.1 d_M_hasRoom_30 ?_
      refine lv_iload_n S.1 S.2.1 d_M_hasRoom_31 rfl (lv_at hl 1 rfl) ?_
      refine lv_iadd S.1 S.2.1 d_M_hasRoom_32 ?_
      refine lv_aload_n S.1 S.2.1 d_M_hasRoom_33 rfl (lv_at hl 0 rfl) ?_
      refine cx_get S hw (q0 := 2) (ci := 2) (k := 3) (v := .int (kLim κ)) (fun _ => rfl) rfl (by decide) inM tb_63 rfl rfl d_M_hasRoom_34 ?_
      refine lv_icmp_le (tgt := 44) S.1 S.2.1 d_M_hasRoom_37 (by decide) (fun c_3 => ?_) (fun c_3 => ?_)
      · refine lv_iconst (v := 1) S.1 S.2.1 d_M_hasRoom_44 (by decide) ?_
        exact cx_retZ S hr hlk hw hbud (by first | exact absurd c_2 c_1 | exact absurd c_3 c_1 | (unfold sh_room; simp only [if_neg c_1, if_pos c_2, if_pos c_3]; done) | (unfold sh_room; dsimp only; simp only [if_neg c_1, if_pos c_2, if_pos c_3]; done) | (unfold sh_room; simp only [if_neg c_1, if_pos c_2, if_pos c_3, hC_eq, hC_clamp]; try rfl; done)) (Or.inr rfl) (by first | exact absurd c_2 c_1 | exact absurd c_3 c_1 | (unfold sh_room; simp only [if_neg c_1, if_pos c_2, if_pos c_3]; done) | (unfold sh_room; dsimp only; simp only [if_neg c_1, if_pos c_2, if_pos c_3]; done) | (unfold sh_room; simp only [if_neg c_1, if_pos c_2, if_pos c_3, hC_eq, hC_clamp]; try rfl; done)) d_M_hasRoom_45
      · refine lv_aload_n S.1 S.2.1 d_M_hasRoom_40 rfl (lv_at hl 0 rfl) ?_
        refine cx_call S hw hbud (As := []) (rest := []) (c_M_beginCycle l D cI cP a κ np σ ) (q0 := 2) (fun _ => rfl) rfl tb_158 tb_155 tb_157 tp_2 tb_3 hd_M_beginCycle rfl ⟨by omega, by omega⟩ hl.1 rfl (Nat.le_of_ble_eq_true rfl) d_M_hasRoom_41 (fun H locs hw => ?_)
        generalize hq_1 : sh_begin κ σ = q_1 at hw ⊢
        refine W.eq (g2 := F0 m 44 ls []) rfl ?_
        refine lv_iconst (v := 1) S.1 S.2.1 d_M_hasRoom_44 (by decide) ?_
        exact cx_retZ S hr hlk hw hbud (by first | exact absurd c_2 c_1 | exact absurd c_2 c_3 | (unfold sh_room; simp only [if_neg c_1, if_pos c_2, if_neg c_3, hq_1]; done) | (unfold sh_room; dsimp only; simp only [if_neg c_1, if_pos c_2, if_neg c_3, hq_1]; done) | (subst hq_1; unfold sh_room; simp only [if_neg c_1, if_pos c_2, if_neg c_3, hC_eq, hC_clamp]; try rfl; done)) (Or.inr rfl) (by first | exact absurd c_2 c_1 | exact absurd c_2 c_3 | (unfold sh_room; simp only [if_neg c_1, if_pos c_2, if_neg c_3, hq_1]; done) | (unfold sh_room; dsimp only; simp only [if_neg c_1, if_pos c_2, if_neg c_3, hq_1]; done) | (subst hq_1; unfold sh_room; simp only [if_neg c_1, if_pos c_2, if_neg c_3, hC_eq, hC_clamp]; try rfl; done)) d_M_hasRoom_45
    · refine lv_iconst (v := 0) S.1 S.2.1 d_M_hasRoom_20 (by decide) ?_
      exact cx_retZ S hr hlk hw hbud (by first | (unfold sh_room; simp only [if_neg c_1, if_neg c_2]; done) | (unfold sh_room; dsimp only; simp only [if_neg c_1, if_neg c_2]; done) | (unfold sh_room; simp only [if_neg c_1, if_neg c_2, hC_eq, hC_clamp]; try rfl; done)) (Or.inl rfl) (by first | (unfold sh_room; simp only [if_neg c_1, if_neg c_2]; done) | (unfold sh_room; dsimp only; simp only [if_neg c_1, if_neg c_2]; done) | (unfold sh_room; simp only [if_neg c_1, if_neg c_2, hC_eq, hC_clamp]; try rfl; done)) d_M_hasRoom_21
  · refine lv_iconst (v := 1) S.1 S.2.1 d_M_hasRoom_7 (by decide) ?_
    exact cx_retZ S hr hlk hw hbud (by first | (unfold sh_room; simp only [if_pos c_1]; done) | (unfold sh_room; dsimp only; simp only [if_pos c_1]; done) | (unfold sh_room; simp only [if_pos c_1, hC_eq, hC_clamp]; try rfl; done)) (Or.inr rfl) (by first | (unfold sh_room; simp only [if_pos c_1]; done) | (unfold sh_room; dsimp only; simp only [if_pos c_1]; done) | (unfold sh_room; simp only [if_pos c_1, hC_eq, hC_clamp]; try rfl; done)) d_M_hasRoom_8
