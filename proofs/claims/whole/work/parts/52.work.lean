/-! ===== Mover.work, place ===== -/
theorem wk0 {B : Int32} {j : Nat} (h : j = B.toNatClampNeg) : B ≤ nI j := by
  rw [Int32.le_iff_toInt_le]
  have h1 : B.toNatClampNeg = B.toInt.toNat := rfl
  have h2 := Int32.toInt_lt B
  rw [nI_toInt (by omega)]
  omega
theorem wk1 {B : Int32} {j : Nat} (h : j < B.toNatClampNeg) : ¬ B ≤ nI j := by
  rw [Int32.le_iff_toInt_le]
  have h1 : B.toNatClampNeg = B.toInt.toNat := rfl
  have h2 := Int32.toInt_lt B
  rw [nI_toInt (by omega)]
  omega
section LPW
variable {p : Program} {l : Launch} {e : Env} {R : Room} {s : State} {m : MethodId} {args : Array Value} {below : List Frame} {meth : Method} {c : Code} {Q : State → Prop} {D : va_G} {cI cP : ClassId} {a : cx_a} {κ : sh_K} {np n0 : Nat} {A : Nat → Prop} {c1 : Cond}
set_option maxHeartbeats 4000000 in
set_option maxRecDepth 100000 in
theorem lp_work (S : CallFix p m c b_M_work 5 s args (c1 :: bt) "StepHeap$Mover") (hbud : 2 * (np - n0) ≤ R.cells ∧ 1025 * (np - n0) ≤ R.slots) (hfr : 4 ≤ R.frames) (hlc : 80 ≤ R.locals) {g : Int32} :
    ∀ (n j : Nat) (τ : sh_S) (H : Heap) (locs : List Loc) (ls : Array Slot), j + n = (kK κ * 16).toNatClampNeg → cx_Wd D cI cP a κ np s A n0 τ H locs → lv_has ls 5 [(2, .int (nI j)), (1, .int g), (0, .ref (aXM a))] →
    (∀ (H' : Heap) (locs' : List Loc) (ls' : Array Slot), cx_Wd D cI cP a κ np s A n0 (sh_workN κ g τ n) H' locs' → W p l e R s m args below meth c H' locs' (2 * (nal (sh_workN κ g τ n) - n0)) (1025 * (nal (sh_workN κ g τ n) - n0)) Q (F0 m 162 ls' [])) →
    W p l e R s m args below meth c H locs (2 * (nal (τ) - n0)) (1025 * (nal (τ) - n0)) Q (F0 m 17 ls []) := by
  intro n
  induction n with
  | zero =>
    intro j τ H locs ls hj hw hl K
    refine lv_iload_n S.1 S.2.1 d_M_work_17 rfl (lv_at hl 0 rfl) ?_
    refine lv_aload_n S.1 S.2.1 d_M_work_18 rfl (lv_at hl 2 rfl) ?_
    refine cx_get S hw (q0 := 2) (ci := 2) (k := 2) (v := .int (kK κ)) (fun _ => rfl) rfl (by decide) inM tb_62 rfl rfl d_M_work_19 ?_
    refine lv_bipush (v := 16) S.1 S.2.1 d_M_work_22 (by decide) ?_
    refine lv_imul S.1 S.2.1 d_M_work_24 ?_
    refine lv_icmp_ge (tgt := 162) S.1 S.2.1 d_M_work_25 (by decide) (fun c_1 => ?_) (fun c_1 => ?_)
    · have c_1n := i32_nlt c_1
      exact K H locs ls hw
    · have c_1n := i32_lt c_1
      exact absurd (wk0 (by omega)) c_1
  | succ n ih =>
    intro j τ H locs ls hj hw hl K
    refine lv_iload_n S.1 S.2.1 d_M_work_17 rfl (lv_at hl 0 rfl) ?_
    refine lv_aload_n S.1 S.2.1 d_M_work_18 rfl (lv_at hl 2 rfl) ?_
    refine cx_get S hw (q0 := 2) (ci := 2) (k := 2) (v := .int (kK κ)) (fun _ => rfl) rfl (by decide) inM tb_62 rfl rfl d_M_work_19 ?_
    refine lv_bipush (v := 16) S.1 S.2.1 d_M_work_22 (by decide) ?_
    refine lv_imul S.1 S.2.1 d_M_work_24 ?_
    refine lv_icmp_ge (tgt := 162) S.1 S.2.1 d_M_work_25 (by decide) (fun c_1 => ?_) (fun c_1 => ?_)
    · have c_1n := i32_nlt c_1
      exact absurd c_1 (wk1 (by omega))
    · have c_1n := i32_lt c_1
      refine lv_aload_n S.1 S.2.1 d_M_work_28 rfl (lv_at hl 2 rfl) ?_
      refine cx_get S hw (q0 := 2) (ci := 2) (k := 10) (v := .int (sScan τ)) (fun _ => rfl) rfl (by decide) inM tb_73 rfl rfl d_M_work_29 ?_
      refine lv_aload_n S.1 S.2.1 d_M_work_32 rfl (lv_at hl 2 rfl) ?_
      refine cx_get S hw (q0 := 2) (ci := 2) (k := 8) (v := .int (sFree τ)) (fun _ => rfl) rfl (by decide) inM tb_71 rfl rfl d_M_work_33 ?_
      refine lv_icmp_ge (tgt := 162) S.1 S.2.1 d_M_work_36 (by decide) (fun c_2 => ?_) (fun c_2 => ?_)
      · have c_2n := i32_nlt c_2
        have eN : sh_workN κ g τ (n + 1) = τ := by rw [sh_workN]; simp only [if_neg c_1, if_pos c_1n, if_pos c_2, if_neg c_2n]
        rw [eN] at K
        exact K H locs ls hw
      · have c_2n := i32_lt c_2
        refine lv_aload_n S.1 S.2.1 d_M_work_39 rfl (lv_at hl 2 rfl) ?_
        refine cx_get S hw (q0 := 2) (ci := 2) (k := 10) (v := .int (sScan τ)) (fun _ => rfl) rfl (by decide) inM tb_73 rfl rfl d_M_work_40 ?_
        refine lv_iload_n S.1 S.2.1 d_M_work_43 rfl (lv_at hl 1 rfl) ?_
        refine lv_icmp_ge (tgt := 162) S.1 S.2.1 d_M_work_44 (by decide) (fun c_3 => ?_) (fun c_3 => ?_)
        · have c_3n := i32_nlt c_3
          have eN : sh_workN κ g τ (n + 1) = τ := by rw [sh_workN]; simp only [if_neg c_1, if_pos c_1n, if_neg c_2, if_pos c_2n, if_pos c_3, if_neg c_3n]
          rw [eN] at K
          exact K H locs ls hw
        · have c_3n := i32_lt c_3
          refine lv_aload_n S.1 S.2.1 d_M_work_47 rfl (lv_at hl 2 rfl) ?_
          refine cx_get S hw (q0 := 2) (ci := 2) (k := 0) (v := .ref (aXC a)) (fun _ => rfl) rfl (by decide) inM tb_59 rfl rfl d_M_work_48 ?_
          refine lv_aload_n S.1 S.2.1 d_M_work_51 rfl (lv_at hl 2 rfl) ?_
          refine cx_get S hw (q0 := 2) (ci := 2) (k := 10) (v := .int (sScan τ)) (fun _ => rfl) rfl (by decide) inM tb_73 rfl rfl d_M_work_52 ?_
          refine cx_call S hw hbud (As := [.int (sScan τ)]) (rest := []) (c_C_read l D cI cP a κ np τ (sScan τ)) (q0 := 1) (fun _ => rfl) rfl tb_170 tb_167 tb_168 tb_169 tb_4 hd_C_read rfl ⟨by omega, by omega⟩ hl.1 rfl (Nat.le_of_ble_eq_true rfl) d_M_work_55 (fun H locs hw => ?_)
          refine W.eq (g2 := F0 m 58 ls [.int (sh_val κ (τ).1 (sScan τ))]) rfl ?_
          refine lv_istore_n (lv' := [(3, .int (sh_val κ (τ).1 (sScan τ))), (2, .int (nI j)), (1, .int g), (0, .ref (aXM a))]) S.1 S.2.1 d_M_work_58 rfl hl (by decide) rfl (fun ls hl => ?_)
          refine lv_aload_n S.1 S.2.1 d_M_work_59 rfl (lv_at hl 3 rfl) ?_
          refine cx_get S hw (q0 := 2) (ci := 2) (k := 10) (v := .int (sScan (uC τ (sh_touch κ (τ).1)))) (fun _ => rfl) rfl (by decide) inM tb_73 rfl rfl d_M_work_60 ?_
          refine lv_aload_n S.1 S.2.1 d_M_work_63 rfl (lv_at hl 3 rfl) ?_
          refine cx_get S hw (q0 := 2) (ci := 2) (k := 12) (v := .int (sNh (uC τ (sh_touch κ (τ).1)))) (fun _ => rfl) rfl (by decide) inM tb_75 rfl rfl d_M_work_64 ?_
          refine lv_icmp_ne (tgt := 101) S.1 S.2.1 d_M_work_67 (by decide) (fun c_4 => ?_) (fun c_4 => ?_)
          · refine lv_aload_n S.1 S.2.1 d_M_work_101 rfl (lv_at hl 3 rfl) ?_
            refine lv_iload_n S.1 S.2.1 d_M_work_102 rfl (lv_at hl 0 rfl) ?_
            refine cx_call S hw hbud (As := [.int (sh_val κ (τ).1 (sScan τ))]) (rest := []) (c_M_placeInUse l D cI cP a κ np (uC τ (sh_touch κ (τ).1)) (sh_val κ (τ).1 (sScan τ))) (q0 := 2) (fun _ => rfl) rfl tb_162 tb_159 tb_161 tp_3 tb_3 hd_M_placeInUse rfl ⟨by omega, by omega⟩ hl.1 rfl (Nat.le_of_ble_eq_true rfl) d_M_work_103 (fun H locs hw => ?_)
            generalize hq_1 : sh_piu κ (uC τ (sh_touch κ (τ).1)) (sh_val κ (τ).1 (sScan τ)) = q_1 at hw ⊢
            refine W.eq (g2 := F0 m 106 ls [.int q_1.1]) rfl ?_
            refine lv_istore (lv' := [(4, .int q_1.1), (3, .int (sh_val κ (τ).1 (sScan τ))), (2, .int (nI j)), (1, .int g), (0, .ref (aXM a))]) S.1 S.2.1 d_M_work_106 hl (by decide) rfl (fun ls hl => ?_)
            refine lv_iload S.1 S.2.1 d_M_work_108 (lv_at hl 0 rfl) ?_
            refine lv_iload_n S.1 S.2.1 d_M_work_110 rfl (lv_at hl 1 rfl) ?_
            refine lv_icmp_eq (tgt := 127) S.1 S.2.1 d_M_work_111 (by decide) (fun c_5 => ?_) (fun c_5 => ?_)
            · refine lv_aload_n S.1 S.2.1 d_M_work_127 rfl (lv_at hl 4 rfl) ?_
              refine lv_dup S.1 S.2.1 d_M_work_128 rfl ?_
              refine cx_get S hw (q0 := 2) (ci := 2) (k := 10) (v := .int (sScan q_1.2)) (fun _ => rfl) rfl (by decide) inM tb_73 rfl rfl d_M_work_129 ?_
              refine lv_iconst (v := 1) S.1 S.2.1 d_M_work_132 (by decide) ?_
              refine lv_iadd S.1 S.2.1 d_M_work_133 ?_
              refine cx_put S hw (q0 := 2) (ci := 2) (k := 10) (σ' := uScan q_1.2 ((sScan q_1.2) + 1)) (ty := .int) (fun _ => rfl) rfl (by decide) inM tyM tyM_ok nmM tb_73 rfl rfl rfl rfl rfl (Nat.le_of_ble_eq_true rfl) (fun _ => rfl) rfl rfl d_M_work_134 (fun H locs hw => ?_)
              refine W.cs (cells' := 2 * (nal (uScan q_1.2 ((sScan q_1.2) + 1)) - n0)) (slots' := 1025 * (nal (uScan q_1.2 ((sScan q_1.2) + 1)) - n0)) rfl rfl ?_
              refine lv_aload_n S.1 S.2.1 d_M_work_137 rfl (lv_at hl 4 rfl) ?_
              refine cx_get S hw (q0 := 2) (ci := 2) (k := 10) (v := .int (sScan (uScan q_1.2 ((sScan q_1.2) + 1)))) (fun _ => rfl) rfl (by decide) inM tb_73 rfl rfl d_M_work_138 ?_
              refine lv_aload_n S.1 S.2.1 d_M_work_141 rfl (lv_at hl 4 rfl) ?_
              refine cx_get S hw (q0 := 2) (ci := 2) (k := 11) (v := .int (sTend (uScan q_1.2 ((sScan q_1.2) + 1)))) (fun _ => rfl) rfl (by decide) inM tb_74 rfl rfl d_M_work_142 ?_
              refine lv_icmp_ne (tgt := 156) S.1 S.2.1 d_M_work_145 (by decide) (fun c_6 => ?_) (fun c_6 => ?_)
              · refine lv_iinc (v := (nI j) + 1) (lv' := [(2, .int ((nI j) + 1)), (4, .int q_1.1), (3, .int (sh_val κ (τ).1 (sScan τ))), (1, .int g), (0, .ref (aXM a))]) S.1 S.2.1 d_M_work_156 hl (k := 2) rfl rfl (by decide) rfl (fun ls hl => ?_)
                refine lv_goto (tgt := 17) S.1 S.2.1 d_M_work_159 (by decide) ?_
                have est : sh_workStep κ τ = uScan q_1.2 ((sScan q_1.2) + 1) := by
                  unfold sh_workStep sh_ws2 sh_ws1
                  simp only [if_neg c_1, if_pos c_1n, if_neg c_2, if_pos c_2n, if_neg c_3, if_pos c_3n, if_neg c_4, hq_1, if_pos c_5]
                  exact if_neg c_6
                have eN : sh_workN κ g τ (n + 1) = sh_workN κ g (uScan q_1.2 ((sScan q_1.2) + 1)) n := by rw [sh_workN, if_pos c_2n, if_pos c_3n, est]
                rw [eN] at K
                rw [nI_1] at hl
                exact ih (j + 1) _ H locs ls (by omega) hw (lv_sub hl [0, 3, 4] rfl) K
              · refine lv_aload_n S.1 S.2.1 d_M_work_148 rfl (lv_at hl 4 rfl) ?_
                refine lv_aload_n S.1 S.2.1 d_M_work_149 rfl (lv_at hl 4 rfl) ?_
                refine cx_get S hw (q0 := 2) (ci := 2) (k := 12) (v := .int (sNh (uScan q_1.2 ((sScan q_1.2) + 1)))) (fun _ => rfl) rfl (by decide) inM tb_75 rfl rfl d_M_work_150 ?_
                refine cx_put S hw (q0 := 2) (ci := 2) (k := 10) (σ' := uScan (uScan q_1.2 ((sScan q_1.2) + 1)) (sNh (uScan q_1.2 ((sScan q_1.2) + 1)))) (ty := .int) (fun _ => rfl) rfl (by decide) inM tyM tyM_ok nmM tb_73 rfl rfl rfl rfl rfl (Nat.le_of_ble_eq_true rfl) (fun _ => rfl) rfl rfl d_M_work_153 (fun H locs hw => ?_)
                refine W.cs (cells' := 2 * (nal (uScan (uScan q_1.2 ((sScan q_1.2) + 1)) (sNh (uScan q_1.2 ((sScan q_1.2) + 1)))) - n0)) (slots' := 1025 * (nal (uScan (uScan q_1.2 ((sScan q_1.2) + 1)) (sNh (uScan q_1.2 ((sScan q_1.2) + 1)))) - n0)) rfl rfl ?_
                refine lv_iinc (v := (nI j) + 1) (lv' := [(2, .int ((nI j) + 1)), (4, .int q_1.1), (3, .int (sh_val κ (τ).1 (sScan τ))), (1, .int g), (0, .ref (aXM a))]) S.1 S.2.1 d_M_work_156 hl (k := 2) rfl rfl (by decide) rfl (fun ls hl => ?_)
                refine lv_goto (tgt := 17) S.1 S.2.1 d_M_work_159 (by decide) ?_
                have est : sh_workStep κ τ = uScan (uScan q_1.2 ((sScan q_1.2) + 1)) (sNh (uScan q_1.2 ((sScan q_1.2) + 1))) := by
                  unfold sh_workStep sh_ws2 sh_ws1
                  simp only [if_neg c_1, if_pos c_1n, if_neg c_2, if_pos c_2n, if_neg c_3, if_pos c_3n, if_neg c_4, hq_1, if_pos c_5]
                  exact if_pos c_6
                have eN : sh_workN κ g τ (n + 1) = sh_workN κ g (uScan (uScan q_1.2 ((sScan q_1.2) + 1)) (sNh (uScan q_1.2 ((sScan q_1.2) + 1)))) n := by rw [sh_workN, if_pos c_2n, if_pos c_3n, est]
                rw [eN] at K
                rw [nI_1] at hl
                exact ih (j + 1) _ H locs ls (by omega) hw (lv_sub hl [0, 3, 4] rfl) K
            · refine lv_aload_n S.1 S.2.1 d_M_work_114 rfl (lv_at hl 4 rfl) ?_
              refine cx_get S hw (q0 := 2) (ci := 2) (k := 0) (v := .ref (aXC a)) (fun _ => rfl) rfl (by decide) inM tb_59 rfl rfl d_M_work_115 ?_
              refine lv_aload_n S.1 S.2.1 d_M_work_118 rfl (lv_at hl 4 rfl) ?_
              refine cx_get S hw (q0 := 2) (ci := 2) (k := 10) (v := .int (sScan q_1.2)) (fun _ => rfl) rfl (by decide) inM tb_73 rfl rfl d_M_work_119 ?_
              refine lv_iload S.1 S.2.1 d_M_work_122 (lv_at hl 0 rfl) ?_
              refine cx_call S hw hbud (As := [.int (sScan q_1.2), .int q_1.1]) (rest := []) (c_C_write l D cI cP a κ np q_1.2 (sScan q_1.2) q_1.1) (q0 := 1) (fun _ => rfl) rfl tb_179 tb_176 tb_177 tb_178 tb_4 hd_C_write rfl ⟨by omega, by omega⟩ hl.1 rfl (Nat.le_of_ble_eq_true rfl) d_M_work_124 (fun H locs hw => ?_)
              generalize hq_2 : sh_write κ (q_1.2).1 (sScan q_1.2) q_1.1 = q_2 at hw ⊢
              refine W.eq (g2 := F0 m 127 ls []) rfl ?_
              refine lv_aload_n S.1 S.2.1 d_M_work_127 rfl (lv_at hl 4 rfl) ?_
              refine lv_dup S.1 S.2.1 d_M_work_128 rfl ?_
              refine cx_get S hw (q0 := 2) (ci := 2) (k := 10) (v := .int (sScan (uC q_1.2 q_2))) (fun _ => rfl) rfl (by decide) inM tb_73 rfl rfl d_M_work_129 ?_
              refine lv_iconst (v := 1) S.1 S.2.1 d_M_work_132 (by decide) ?_
              refine lv_iadd S.1 S.2.1 d_M_work_133 ?_
              refine cx_put S hw (q0 := 2) (ci := 2) (k := 10) (σ' := uScan (uC q_1.2 q_2) ((sScan (uC q_1.2 q_2)) + 1)) (ty := .int) (fun _ => rfl) rfl (by decide) inM tyM tyM_ok nmM tb_73 rfl rfl rfl rfl rfl (Nat.le_of_ble_eq_true rfl) (fun _ => rfl) rfl rfl d_M_work_134 (fun H locs hw => ?_)
              refine W.cs (cells' := 2 * (nal (uScan (uC q_1.2 q_2) ((sScan (uC q_1.2 q_2)) + 1)) - n0)) (slots' := 1025 * (nal (uScan (uC q_1.2 q_2) ((sScan (uC q_1.2 q_2)) + 1)) - n0)) rfl rfl ?_
              refine lv_aload_n S.1 S.2.1 d_M_work_137 rfl (lv_at hl 4 rfl) ?_
              refine cx_get S hw (q0 := 2) (ci := 2) (k := 10) (v := .int (sScan (uScan (uC q_1.2 q_2) ((sScan (uC q_1.2 q_2)) + 1)))) (fun _ => rfl) rfl (by decide) inM tb_73 rfl rfl d_M_work_138 ?_
              refine lv_aload_n S.1 S.2.1 d_M_work_141 rfl (lv_at hl 4 rfl) ?_
              refine cx_get S hw (q0 := 2) (ci := 2) (k := 11) (v := .int (sTend (uScan (uC q_1.2 q_2) ((sScan (uC q_1.2 q_2)) + 1)))) (fun _ => rfl) rfl (by decide) inM tb_74 rfl rfl d_M_work_142 ?_
              refine lv_icmp_ne (tgt := 156) S.1 S.2.1 d_M_work_145 (by decide) (fun c_7 => ?_) (fun c_7 => ?_)
              · refine lv_iinc (v := (nI j) + 1) (lv' := [(2, .int ((nI j) + 1)), (4, .int q_1.1), (3, .int (sh_val κ (τ).1 (sScan τ))), (1, .int g), (0, .ref (aXM a))]) S.1 S.2.1 d_M_work_156 hl (k := 2) rfl rfl (by decide) rfl (fun ls hl => ?_)
                refine lv_goto (tgt := 17) S.1 S.2.1 d_M_work_159 (by decide) ?_
                have est : sh_workStep κ τ = uScan (uC q_1.2 q_2) ((sScan (uC q_1.2 q_2)) + 1) := by
                  unfold sh_workStep sh_ws2 sh_ws1
                  simp only [if_neg c_1, if_pos c_1n, if_neg c_2, if_pos c_2n, if_neg c_3, if_pos c_3n, if_neg c_4, hq_1, if_neg c_5, hq_2]
                  exact if_neg c_7
                have eN : sh_workN κ g τ (n + 1) = sh_workN κ g (uScan (uC q_1.2 q_2) ((sScan (uC q_1.2 q_2)) + 1)) n := by rw [sh_workN, if_pos c_2n, if_pos c_3n, est]
                rw [eN] at K
                rw [nI_1] at hl
                exact ih (j + 1) _ H locs ls (by omega) hw (lv_sub hl [0, 3, 4] rfl) K
              · refine lv_aload_n S.1 S.2.1 d_M_work_148 rfl (lv_at hl 4 rfl) ?_
                refine lv_aload_n S.1 S.2.1 d_M_work_149 rfl (lv_at hl 4 rfl) ?_
                refine cx_get S hw (q0 := 2) (ci := 2) (k := 12) (v := .int (sNh (uScan (uC q_1.2 q_2) ((sScan (uC q_1.2 q_2)) + 1)))) (fun _ => rfl) rfl (by decide) inM tb_75 rfl rfl d_M_work_150 ?_
                refine cx_put S hw (q0 := 2) (ci := 2) (k := 10) (σ' := uScan (uScan (uC q_1.2 q_2) ((sScan (uC q_1.2 q_2)) + 1)) (sNh (uScan (uC q_1.2 q_2) ((sScan (uC q_1.2 q_2)) + 1)))) (ty := .int) (fun _ => rfl) rfl (by decide) inM tyM tyM_ok nmM tb_73 rfl rfl rfl rfl rfl (Nat.le_of_ble_eq_true rfl) (fun _ => rfl) rfl rfl d_M_work_153 (fun H locs hw => ?_)
                refine W.cs (cells' := 2 * (nal (uScan (uScan (uC q_1.2 q_2) ((sScan (uC q_1.2 q_2)) + 1)) (sNh (uScan (uC q_1.2 q_2) ((sScan (uC q_1.2 q_2)) + 1)))) - n0)) (slots' := 1025 * (nal (uScan (uScan (uC q_1.2 q_2) ((sScan (uC q_1.2 q_2)) + 1)) (sNh (uScan (uC q_1.2 q_2) ((sScan (uC q_1.2 q_2)) + 1)))) - n0)) rfl rfl ?_
                refine lv_iinc (v := (nI j) + 1) (lv' := [(2, .int ((nI j) + 1)), (4, .int q_1.1), (3, .int (sh_val κ (τ).1 (sScan τ))), (1, .int g), (0, .ref (aXM a))]) S.1 S.2.1 d_M_work_156 hl (k := 2) rfl rfl (by decide) rfl (fun ls hl => ?_)
                refine lv_goto (tgt := 17) S.1 S.2.1 d_M_work_159 (by decide) ?_
                have est : sh_workStep κ τ = uScan (uScan (uC q_1.2 q_2) ((sScan (uC q_1.2 q_2)) + 1)) (sNh (uScan (uC q_1.2 q_2) ((sScan (uC q_1.2 q_2)) + 1))) := by
                  unfold sh_workStep sh_ws2 sh_ws1
                  simp only [if_neg c_1, if_pos c_1n, if_neg c_2, if_pos c_2n, if_neg c_3, if_pos c_3n, if_neg c_4, hq_1, if_neg c_5, hq_2]
                  exact if_pos c_7
                have eN : sh_workN κ g τ (n + 1) = sh_workN κ g (uScan (uScan (uC q_1.2 q_2) ((sScan (uC q_1.2 q_2)) + 1)) (sNh (uScan (uC q_1.2 q_2) ((sScan (uC q_1.2 q_2)) + 1)))) n := by rw [sh_workN, if_pos c_2n, if_pos c_3n, est]
                rw [eN] at K
                rw [nI_1] at hl
                exact ih (j + 1) _ H locs ls (by omega) hw (lv_sub hl [0, 3, 4] rfl) K
          · refine lv_aload_n S.1 S.2.1 d_M_work_70 rfl (lv_at hl 3 rfl) ?_
            refine lv_aload_n S.1 S.2.1 d_M_work_71 rfl (lv_at hl 3 rfl) ?_
            refine cx_get S hw (q0 := 2) (ci := 2) (k := 10) (v := .int (sScan (uC τ (sh_touch κ (τ).1)))) (fun _ => rfl) rfl (by decide) inM tb_73 rfl rfl d_M_work_72 ?_
            refine lv_iconst (v := 1) S.1 S.2.1 d_M_work_75 (by decide) ?_
            refine lv_iadd S.1 S.2.1 d_M_work_76 ?_
            refine lv_iload_n S.1 S.2.1 d_M_work_77 rfl (lv_at hl 0 rfl) ?_
            refine cx_fn S (As := [.int (sh_val κ (τ).1 (sScan τ))]) (rest := [.int ((sScan (uC τ (sh_touch κ (τ).1))) + 1), .ref (aXM a)]) (c_H_traced l (sh_val κ (τ).1 (sScan τ))) tb_139 tb_198 tb_138 tb_6 hdf_H_traced rfl ⟨by omega, by omega⟩ hl.1 rfl (Nat.le_of_ble_eq_true rfl) d_M_work_78 (hw.fit hbud) ?_
            refine lv_iadd S.1 S.2.1 d_M_work_81 ?_
            refine cx_put S hw (q0 := 2) (ci := 2) (k := 11) (σ' := uTend (uC τ (sh_touch κ (τ).1)) (((sScan (uC τ (sh_touch κ (τ).1))) + 1) + (hd_traced (sh_val κ (τ).1 (sScan τ))))) (ty := .int) (fun _ => rfl) rfl (by decide) inM tyM tyM_ok nmM tb_74 rfl rfl rfl rfl rfl (Nat.le_of_ble_eq_true rfl) (fun _ => rfl) rfl rfl d_M_work_82 (fun H locs hw => ?_)
            refine W.cs (cells' := 2 * (nal (uTend (uC τ (sh_touch κ (τ).1)) (((sScan (uC τ (sh_touch κ (τ).1))) + 1) + (hd_traced (sh_val κ (τ).1 (sScan τ))))) - n0)) (slots' := 1025 * (nal (uTend (uC τ (sh_touch κ (τ).1)) (((sScan (uC τ (sh_touch κ (τ).1))) + 1) + (hd_traced (sh_val κ (τ).1 (sScan τ))))) - n0)) rfl rfl ?_
            refine lv_aload_n S.1 S.2.1 d_M_work_85 rfl (lv_at hl 3 rfl) ?_
            refine lv_aload_n S.1 S.2.1 d_M_work_86 rfl (lv_at hl 3 rfl) ?_
            refine cx_get S hw (q0 := 2) (ci := 2) (k := 10) (v := .int (sScan (uTend (uC τ (sh_touch κ (τ).1)) (((sScan (uC τ (sh_touch κ (τ).1))) + 1) + (hd_traced (sh_val κ (τ).1 (sScan τ))))))) (fun _ => rfl) rfl (by decide) inM tb_73 rfl rfl d_M_work_87 ?_
            refine lv_iload_n S.1 S.2.1 d_M_work_90 rfl (lv_at hl 0 rfl) ?_
            refine cx_fn S (As := [.int (sh_val κ (τ).1 (sScan τ))]) (rest := [.int (sScan (uTend (uC τ (sh_touch κ (τ).1)) (((sScan (uC τ (sh_touch κ (τ).1))) + 1) + (hd_traced (sh_val κ (τ).1 (sScan τ)))))), .ref (aXM a)]) (c_H_cells l (sh_val κ (τ).1 (sScan τ))) tb_136 tb_175 tb_135 tb_6 hdf_H_cells rfl ⟨by omega, by omega⟩ hl.1 rfl (Nat.le_of_ble_eq_true rfl) d_M_work_91 (hw.fit hbud) ?_
            refine lv_iadd S.1 S.2.1 d_M_work_94 ?_
            refine cx_put S hw (q0 := 2) (ci := 2) (k := 12) (σ' := uNh (uTend (uC τ (sh_touch κ (τ).1)) (((sScan (uC τ (sh_touch κ (τ).1))) + 1) + (hd_traced (sh_val κ (τ).1 (sScan τ))))) ((sScan (uTend (uC τ (sh_touch κ (τ).1)) (((sScan (uC τ (sh_touch κ (τ).1))) + 1) + (hd_traced (sh_val κ (τ).1 (sScan τ)))))) + (hd_cells (sh_val κ (τ).1 (sScan τ))))) (ty := .int) (fun _ => rfl) rfl (by decide) inM tyM tyM_ok nmM tb_75 rfl rfl rfl rfl rfl (Nat.le_of_ble_eq_true rfl) (fun _ => rfl) rfl rfl d_M_work_95 (fun H locs hw => ?_)
            refine W.cs (cells' := 2 * (nal (uNh (uTend (uC τ (sh_touch κ (τ).1)) (((sScan (uC τ (sh_touch κ (τ).1))) + 1) + (hd_traced (sh_val κ (τ).1 (sScan τ))))) ((sScan (uTend (uC τ (sh_touch κ (τ).1)) (((sScan (uC τ (sh_touch κ (τ).1))) + 1) + (hd_traced (sh_val κ (τ).1 (sScan τ)))))) + (hd_cells (sh_val κ (τ).1 (sScan τ))))) - n0)) (slots' := 1025 * (nal (uNh (uTend (uC τ (sh_touch κ (τ).1)) (((sScan (uC τ (sh_touch κ (τ).1))) + 1) + (hd_traced (sh_val κ (τ).1 (sScan τ))))) ((sScan (uTend (uC τ (sh_touch κ (τ).1)) (((sScan (uC τ (sh_touch κ (τ).1))) + 1) + (hd_traced (sh_val κ (τ).1 (sScan τ)))))) + (hd_cells (sh_val κ (τ).1 (sScan τ))))) - n0)) rfl rfl ?_
            refine lv_goto (tgt := 127) S.1 S.2.1 d_M_work_98 (by decide) ?_
            refine lv_aload_n S.1 S.2.1 d_M_work_127 rfl (lv_at hl 3 rfl) ?_
            refine lv_dup S.1 S.2.1 d_M_work_128 rfl ?_
            refine cx_get S hw (q0 := 2) (ci := 2) (k := 10) (v := .int (sScan (uNh (uTend (uC τ (sh_touch κ (τ).1)) (((sScan (uC τ (sh_touch κ (τ).1))) + 1) + (hd_traced (sh_val κ (τ).1 (sScan τ))))) ((sScan (uTend (uC τ (sh_touch κ (τ).1)) (((sScan (uC τ (sh_touch κ (τ).1))) + 1) + (hd_traced (sh_val κ (τ).1 (sScan τ)))))) + (hd_cells (sh_val κ (τ).1 (sScan τ))))))) (fun _ => rfl) rfl (by decide) inM tb_73 rfl rfl d_M_work_129 ?_
            refine lv_iconst (v := 1) S.1 S.2.1 d_M_work_132 (by decide) ?_
            refine lv_iadd S.1 S.2.1 d_M_work_133 ?_
            refine cx_put S hw (q0 := 2) (ci := 2) (k := 10) (σ' := uScan (uNh (uTend (uC τ (sh_touch κ (τ).1)) (((sScan (uC τ (sh_touch κ (τ).1))) + 1) + (hd_traced (sh_val κ (τ).1 (sScan τ))))) ((sScan (uTend (uC τ (sh_touch κ (τ).1)) (((sScan (uC τ (sh_touch κ (τ).1))) + 1) + (hd_traced (sh_val κ (τ).1 (sScan τ)))))) + (hd_cells (sh_val κ (τ).1 (sScan τ))))) ((sScan (uNh (uTend (uC τ (sh_touch κ (τ).1)) (((sScan (uC τ (sh_touch κ (τ).1))) + 1) + (hd_traced (sh_val κ (τ).1 (sScan τ))))) ((sScan (uTend (uC τ (sh_touch κ (τ).1)) (((sScan (uC τ (sh_touch κ (τ).1))) + 1) + (hd_traced (sh_val κ (τ).1 (sScan τ)))))) + (hd_cells (sh_val κ (τ).1 (sScan τ)))))) + 1)) (ty := .int) (fun _ => rfl) rfl (by decide) inM tyM tyM_ok nmM tb_73 rfl rfl rfl rfl rfl (Nat.le_of_ble_eq_true rfl) (fun _ => rfl) rfl rfl d_M_work_134 (fun H locs hw => ?_)
            refine W.cs (cells' := 2 * (nal (uScan (uNh (uTend (uC τ (sh_touch κ (τ).1)) (((sScan (uC τ (sh_touch κ (τ).1))) + 1) + (hd_traced (sh_val κ (τ).1 (sScan τ))))) ((sScan (uTend (uC τ (sh_touch κ (τ).1)) (((sScan (uC τ (sh_touch κ (τ).1))) + 1) + (hd_traced (sh_val κ (τ).1 (sScan τ)))))) + (hd_cells (sh_val κ (τ).1 (sScan τ))))) ((sScan (uNh (uTend (uC τ (sh_touch κ (τ).1)) (((sScan (uC τ (sh_touch κ (τ).1))) + 1) + (hd_traced (sh_val κ (τ).1 (sScan τ))))) ((sScan (uTend (uC τ (sh_touch κ (τ).1)) (((sScan (uC τ (sh_touch κ (τ).1))) + 1) + (hd_traced (sh_val κ (τ).1 (sScan τ)))))) + (hd_cells (sh_val κ (τ).1 (sScan τ)))))) + 1)) - n0)) (slots' := 1025 * (nal (uScan (uNh (uTend (uC τ (sh_touch κ (τ).1)) (((sScan (uC τ (sh_touch κ (τ).1))) + 1) + (hd_traced (sh_val κ (τ).1 (sScan τ))))) ((sScan (uTend (uC τ (sh_touch κ (τ).1)) (((sScan (uC τ (sh_touch κ (τ).1))) + 1) + (hd_traced (sh_val κ (τ).1 (sScan τ)))))) + (hd_cells (sh_val κ (τ).1 (sScan τ))))) ((sScan (uNh (uTend (uC τ (sh_touch κ (τ).1)) (((sScan (uC τ (sh_touch κ (τ).1))) + 1) + (hd_traced (sh_val κ (τ).1 (sScan τ))))) ((sScan (uTend (uC τ (sh_touch κ (τ).1)) (((sScan (uC τ (sh_touch κ (τ).1))) + 1) + (hd_traced (sh_val κ (τ).1 (sScan τ)))))) + (hd_cells (sh_val κ (τ).1 (sScan τ)))))) + 1)) - n0)) rfl rfl ?_
            refine lv_aload_n S.1 S.2.1 d_M_work_137 rfl (lv_at hl 3 rfl) ?_
            refine cx_get S hw (q0 := 2) (ci := 2) (k := 10) (v := .int (sScan (uScan (uNh (uTend (uC τ (sh_touch κ (τ).1)) (((sScan (uC τ (sh_touch κ (τ).1))) + 1) + (hd_traced (sh_val κ (τ).1 (sScan τ))))) ((sScan (uTend (uC τ (sh_touch κ (τ).1)) (((sScan (uC τ (sh_touch κ (τ).1))) + 1) + (hd_traced (sh_val κ (τ).1 (sScan τ)))))) + (hd_cells (sh_val κ (τ).1 (sScan τ))))) ((sScan (uNh (uTend (uC τ (sh_touch κ (τ).1)) (((sScan (uC τ (sh_touch κ (τ).1))) + 1) + (hd_traced (sh_val κ (τ).1 (sScan τ))))) ((sScan (uTend (uC τ (sh_touch κ (τ).1)) (((sScan (uC τ (sh_touch κ (τ).1))) + 1) + (hd_traced (sh_val κ (τ).1 (sScan τ)))))) + (hd_cells (sh_val κ (τ).1 (sScan τ)))))) + 1)))) (fun _ => rfl) rfl (by decide) inM tb_73 rfl rfl d_M_work_138 ?_
            refine lv_aload_n S.1 S.2.1 d_M_work_141 rfl (lv_at hl 3 rfl) ?_
            refine cx_get S hw (q0 := 2) (ci := 2) (k := 11) (v := .int (sTend (uScan (uNh (uTend (uC τ (sh_touch κ (τ).1)) (((sScan (uC τ (sh_touch κ (τ).1))) + 1) + (hd_traced (sh_val κ (τ).1 (sScan τ))))) ((sScan (uTend (uC τ (sh_touch κ (τ).1)) (((sScan (uC τ (sh_touch κ (τ).1))) + 1) + (hd_traced (sh_val κ (τ).1 (sScan τ)))))) + (hd_cells (sh_val κ (τ).1 (sScan τ))))) ((sScan (uNh (uTend (uC τ (sh_touch κ (τ).1)) (((sScan (uC τ (sh_touch κ (τ).1))) + 1) + (hd_traced (sh_val κ (τ).1 (sScan τ))))) ((sScan (uTend (uC τ (sh_touch κ (τ).1)) (((sScan (uC τ (sh_touch κ (τ).1))) + 1) + (hd_traced (sh_val κ (τ).1 (sScan τ)))))) + (hd_cells (sh_val κ (τ).1 (sScan τ)))))) + 1)))) (fun _ => rfl) rfl (by decide) inM tb_74 rfl rfl d_M_work_142 ?_
            refine lv_icmp_ne (tgt := 156) S.1 S.2.1 d_M_work_145 (by decide) (fun c_8 => ?_) (fun c_8 => ?_)
            · refine lv_iinc (v := (nI j) + 1) (lv' := [(2, .int ((nI j) + 1)), (3, .int (sh_val κ (τ).1 (sScan τ))), (1, .int g), (0, .ref (aXM a))]) S.1 S.2.1 d_M_work_156 hl (k := 1) rfl rfl (by decide) rfl (fun ls hl => ?_)
              refine lv_goto (tgt := 17) S.1 S.2.1 d_M_work_159 (by decide) ?_
              have est : sh_workStep κ τ = uScan (uNh (uTend (uC τ (sh_touch κ (τ).1)) (((sScan (uC τ (sh_touch κ (τ).1))) + 1) + (hd_traced (sh_val κ (τ).1 (sScan τ))))) ((sScan (uTend (uC τ (sh_touch κ (τ).1)) (((sScan (uC τ (sh_touch κ (τ).1))) + 1) + (hd_traced (sh_val κ (τ).1 (sScan τ)))))) + (hd_cells (sh_val κ (τ).1 (sScan τ))))) ((sScan (uNh (uTend (uC τ (sh_touch κ (τ).1)) (((sScan (uC τ (sh_touch κ (τ).1))) + 1) + (hd_traced (sh_val κ (τ).1 (sScan τ))))) ((sScan (uTend (uC τ (sh_touch κ (τ).1)) (((sScan (uC τ (sh_touch κ (τ).1))) + 1) + (hd_traced (sh_val κ (τ).1 (sScan τ)))))) + (hd_cells (sh_val κ (τ).1 (sScan τ)))))) + 1) := by
                unfold sh_workStep sh_ws2 sh_ws1
                simp only [if_neg c_1, if_pos c_1n, if_neg c_2, if_pos c_2n, if_neg c_3, if_pos c_3n, if_pos c_4]
                exact if_neg c_8
              have eN : sh_workN κ g τ (n + 1) = sh_workN κ g (uScan (uNh (uTend (uC τ (sh_touch κ (τ).1)) (((sScan (uC τ (sh_touch κ (τ).1))) + 1) + (hd_traced (sh_val κ (τ).1 (sScan τ))))) ((sScan (uTend (uC τ (sh_touch κ (τ).1)) (((sScan (uC τ (sh_touch κ (τ).1))) + 1) + (hd_traced (sh_val κ (τ).1 (sScan τ)))))) + (hd_cells (sh_val κ (τ).1 (sScan τ))))) ((sScan (uNh (uTend (uC τ (sh_touch κ (τ).1)) (((sScan (uC τ (sh_touch κ (τ).1))) + 1) + (hd_traced (sh_val κ (τ).1 (sScan τ))))) ((sScan (uTend (uC τ (sh_touch κ (τ).1)) (((sScan (uC τ (sh_touch κ (τ).1))) + 1) + (hd_traced (sh_val κ (τ).1 (sScan τ)))))) + (hd_cells (sh_val κ (τ).1 (sScan τ)))))) + 1)) n := by rw [sh_workN, if_pos c_2n, if_pos c_3n, est]
              rw [eN] at K
              rw [nI_1] at hl
              exact ih (j + 1) _ H locs ls (by omega) hw (lv_sub hl [0, 2, 3] rfl) K
            · refine lv_aload_n S.1 S.2.1 d_M_work_148 rfl (lv_at hl 3 rfl) ?_
              refine lv_aload_n S.1 S.2.1 d_M_work_149 rfl (lv_at hl 3 rfl) ?_
              refine cx_get S hw (q0 := 2) (ci := 2) (k := 12) (v := .int (sNh (uScan (uNh (uTend (uC τ (sh_touch κ (τ).1)) (((sScan (uC τ (sh_touch κ (τ).1))) + 1) + (hd_traced (sh_val κ (τ).1 (sScan τ))))) ((sScan (uTend (uC τ (sh_touch κ (τ).1)) (((sScan (uC τ (sh_touch κ (τ).1))) + 1) + (hd_traced (sh_val κ (τ).1 (sScan τ)))))) + (hd_cells (sh_val κ (τ).1 (sScan τ))))) ((sScan (uNh (uTend (uC τ (sh_touch κ (τ).1)) (((sScan (uC τ (sh_touch κ (τ).1))) + 1) + (hd_traced (sh_val κ (τ).1 (sScan τ))))) ((sScan (uTend (uC τ (sh_touch κ (τ).1)) (((sScan (uC τ (sh_touch κ (τ).1))) + 1) + (hd_traced (sh_val κ (τ).1 (sScan τ)))))) + (hd_cells (sh_val κ (τ).1 (sScan τ)))))) + 1)))) (fun _ => rfl) rfl (by decide) inM tb_75 rfl rfl d_M_work_150 ?_
              refine cx_put S hw (q0 := 2) (ci := 2) (k := 10) (σ' := uScan (uScan (uNh (uTend (uC τ (sh_touch κ (τ).1)) (((sScan (uC τ (sh_touch κ (τ).1))) + 1) + (hd_traced (sh_val κ (τ).1 (sScan τ))))) ((sScan (uTend (uC τ (sh_touch κ (τ).1)) (((sScan (uC τ (sh_touch κ (τ).1))) + 1) + (hd_traced (sh_val κ (τ).1 (sScan τ)))))) + (hd_cells (sh_val κ (τ).1 (sScan τ))))) ((sScan (uNh (uTend (uC τ (sh_touch κ (τ).1)) (((sScan (uC τ (sh_touch κ (τ).1))) + 1) + (hd_traced (sh_val κ (τ).1 (sScan τ))))) ((sScan (uTend (uC τ (sh_touch κ (τ).1)) (((sScan (uC τ (sh_touch κ (τ).1))) + 1) + (hd_traced (sh_val κ (τ).1 (sScan τ)))))) + (hd_cells (sh_val κ (τ).1 (sScan τ)))))) + 1)) (sNh (uScan (uNh (uTend (uC τ (sh_touch κ (τ).1)) (((sScan (uC τ (sh_touch κ (τ).1))) + 1) + (hd_traced (sh_val κ (τ).1 (sScan τ))))) ((sScan (uTend (uC τ (sh_touch κ (τ).1)) (((sScan (uC τ (sh_touch κ (τ).1))) + 1) + (hd_traced (sh_val κ (τ).1 (sScan τ)))))) + (hd_cells (sh_val κ (τ).1 (sScan τ))))) ((sScan (uNh (uTend (uC τ (sh_touch κ (τ).1)) (((sScan (uC τ (sh_touch κ (τ).1))) + 1) + (hd_traced (sh_val κ (τ).1 (sScan τ))))) ((sScan (uTend (uC τ (sh_touch κ (τ).1)) (((sScan (uC τ (sh_touch κ (τ).1))) + 1) + (hd_traced (sh_val κ (τ).1 (sScan τ)))))) + (hd_cells (sh_val κ (τ).1 (sScan τ)))))) + 1)))) (ty := .int) (fun _ => rfl) rfl (by decide) inM tyM tyM_ok nmM tb_73 rfl rfl rfl rfl rfl (Nat.le_of_ble_eq_true rfl) (fun _ => rfl) rfl rfl d_M_work_153 (fun H locs hw => ?_)
              refine W.cs (cells' := 2 * (nal (uScan (uScan (uNh (uTend (uC τ (sh_touch κ (τ).1)) (((sScan (uC τ (sh_touch κ (τ).1))) + 1) + (hd_traced (sh_val κ (τ).1 (sScan τ))))) ((sScan (uTend (uC τ (sh_touch κ (τ).1)) (((sScan (uC τ (sh_touch κ (τ).1))) + 1) + (hd_traced (sh_val κ (τ).1 (sScan τ)))))) + (hd_cells (sh_val κ (τ).1 (sScan τ))))) ((sScan (uNh (uTend (uC τ (sh_touch κ (τ).1)) (((sScan (uC τ (sh_touch κ (τ).1))) + 1) + (hd_traced (sh_val κ (τ).1 (sScan τ))))) ((sScan (uTend (uC τ (sh_touch κ (τ).1)) (((sScan (uC τ (sh_touch κ (τ).1))) + 1) + (hd_traced (sh_val κ (τ).1 (sScan τ)))))) + (hd_cells (sh_val κ (τ).1 (sScan τ)))))) + 1)) (sNh (uScan (uNh (uTend (uC τ (sh_touch κ (τ).1)) (((sScan (uC τ (sh_touch κ (τ).1))) + 1) + (hd_traced (sh_val κ (τ).1 (sScan τ))))) ((sScan (uTend (uC τ (sh_touch κ (τ).1)) (((sScan (uC τ (sh_touch κ (τ).1))) + 1) + (hd_traced (sh_val κ (τ).1 (sScan τ)))))) + (hd_cells (sh_val κ (τ).1 (sScan τ))))) ((sScan (uNh (uTend (uC τ (sh_touch κ (τ).1)) (((sScan (uC τ (sh_touch κ (τ).1))) + 1) + (hd_traced (sh_val κ (τ).1 (sScan τ))))) ((sScan (uTend (uC τ (sh_touch κ (τ).1)) (((sScan (uC τ (sh_touch κ (τ).1))) + 1) + (hd_traced (sh_val κ (τ).1 (sScan τ)))))) + (hd_cells (sh_val κ (τ).1 (sScan τ)))))) + 1)))) - n0)) (slots' := 1025 * (nal (uScan (uScan (uNh (uTend (uC τ (sh_touch κ (τ).1)) (((sScan (uC τ (sh_touch κ (τ).1))) + 1) + (hd_traced (sh_val κ (τ).1 (sScan τ))))) ((sScan (uTend (uC τ (sh_touch κ (τ).1)) (((sScan (uC τ (sh_touch κ (τ).1))) + 1) + (hd_traced (sh_val κ (τ).1 (sScan τ)))))) + (hd_cells (sh_val κ (τ).1 (sScan τ))))) ((sScan (uNh (uTend (uC τ (sh_touch κ (τ).1)) (((sScan (uC τ (sh_touch κ (τ).1))) + 1) + (hd_traced (sh_val κ (τ).1 (sScan τ))))) ((sScan (uTend (uC τ (sh_touch κ (τ).1)) (((sScan (uC τ (sh_touch κ (τ).1))) + 1) + (hd_traced (sh_val κ (τ).1 (sScan τ)))))) + (hd_cells (sh_val κ (τ).1 (sScan τ)))))) + 1)) (sNh (uScan (uNh (uTend (uC τ (sh_touch κ (τ).1)) (((sScan (uC τ (sh_touch κ (τ).1))) + 1) + (hd_traced (sh_val κ (τ).1 (sScan τ))))) ((sScan (uTend (uC τ (sh_touch κ (τ).1)) (((sScan (uC τ (sh_touch κ (τ).1))) + 1) + (hd_traced (sh_val κ (τ).1 (sScan τ)))))) + (hd_cells (sh_val κ (τ).1 (sScan τ))))) ((sScan (uNh (uTend (uC τ (sh_touch κ (τ).1)) (((sScan (uC τ (sh_touch κ (τ).1))) + 1) + (hd_traced (sh_val κ (τ).1 (sScan τ))))) ((sScan (uTend (uC τ (sh_touch κ (τ).1)) (((sScan (uC τ (sh_touch κ (τ).1))) + 1) + (hd_traced (sh_val κ (τ).1 (sScan τ)))))) + (hd_cells (sh_val κ (τ).1 (sScan τ)))))) + 1)))) - n0)) rfl rfl ?_
              refine lv_iinc (v := (nI j) + 1) (lv' := [(2, .int ((nI j) + 1)), (3, .int (sh_val κ (τ).1 (sScan τ))), (1, .int g), (0, .ref (aXM a))]) S.1 S.2.1 d_M_work_156 hl (k := 1) rfl rfl (by decide) rfl (fun ls hl => ?_)
              refine lv_goto (tgt := 17) S.1 S.2.1 d_M_work_159 (by decide) ?_
              have est : sh_workStep κ τ = uScan (uScan (uNh (uTend (uC τ (sh_touch κ (τ).1)) (((sScan (uC τ (sh_touch κ (τ).1))) + 1) + (hd_traced (sh_val κ (τ).1 (sScan τ))))) ((sScan (uTend (uC τ (sh_touch κ (τ).1)) (((sScan (uC τ (sh_touch κ (τ).1))) + 1) + (hd_traced (sh_val κ (τ).1 (sScan τ)))))) + (hd_cells (sh_val κ (τ).1 (sScan τ))))) ((sScan (uNh (uTend (uC τ (sh_touch κ (τ).1)) (((sScan (uC τ (sh_touch κ (τ).1))) + 1) + (hd_traced (sh_val κ (τ).1 (sScan τ))))) ((sScan (uTend (uC τ (sh_touch κ (τ).1)) (((sScan (uC τ (sh_touch κ (τ).1))) + 1) + (hd_traced (sh_val κ (τ).1 (sScan τ)))))) + (hd_cells (sh_val κ (τ).1 (sScan τ)))))) + 1)) (sNh (uScan (uNh (uTend (uC τ (sh_touch κ (τ).1)) (((sScan (uC τ (sh_touch κ (τ).1))) + 1) + (hd_traced (sh_val κ (τ).1 (sScan τ))))) ((sScan (uTend (uC τ (sh_touch κ (τ).1)) (((sScan (uC τ (sh_touch κ (τ).1))) + 1) + (hd_traced (sh_val κ (τ).1 (sScan τ)))))) + (hd_cells (sh_val κ (τ).1 (sScan τ))))) ((sScan (uNh (uTend (uC τ (sh_touch κ (τ).1)) (((sScan (uC τ (sh_touch κ (τ).1))) + 1) + (hd_traced (sh_val κ (τ).1 (sScan τ))))) ((sScan (uTend (uC τ (sh_touch κ (τ).1)) (((sScan (uC τ (sh_touch κ (τ).1))) + 1) + (hd_traced (sh_val κ (τ).1 (sScan τ)))))) + (hd_cells (sh_val κ (τ).1 (sScan τ)))))) + 1))) := by
                unfold sh_workStep sh_ws2 sh_ws1
                simp only [if_neg c_1, if_pos c_1n, if_neg c_2, if_pos c_2n, if_neg c_3, if_pos c_3n, if_pos c_4]
                exact if_pos c_8
              have eN : sh_workN κ g τ (n + 1) = sh_workN κ g (uScan (uScan (uNh (uTend (uC τ (sh_touch κ (τ).1)) (((sScan (uC τ (sh_touch κ (τ).1))) + 1) + (hd_traced (sh_val κ (τ).1 (sScan τ))))) ((sScan (uTend (uC τ (sh_touch κ (τ).1)) (((sScan (uC τ (sh_touch κ (τ).1))) + 1) + (hd_traced (sh_val κ (τ).1 (sScan τ)))))) + (hd_cells (sh_val κ (τ).1 (sScan τ))))) ((sScan (uNh (uTend (uC τ (sh_touch κ (τ).1)) (((sScan (uC τ (sh_touch κ (τ).1))) + 1) + (hd_traced (sh_val κ (τ).1 (sScan τ))))) ((sScan (uTend (uC τ (sh_touch κ (τ).1)) (((sScan (uC τ (sh_touch κ (τ).1))) + 1) + (hd_traced (sh_val κ (τ).1 (sScan τ)))))) + (hd_cells (sh_val κ (τ).1 (sScan τ)))))) + 1)) (sNh (uScan (uNh (uTend (uC τ (sh_touch κ (τ).1)) (((sScan (uC τ (sh_touch κ (τ).1))) + 1) + (hd_traced (sh_val κ (τ).1 (sScan τ))))) ((sScan (uTend (uC τ (sh_touch κ (τ).1)) (((sScan (uC τ (sh_touch κ (τ).1))) + 1) + (hd_traced (sh_val κ (τ).1 (sScan τ)))))) + (hd_cells (sh_val κ (τ).1 (sScan τ))))) ((sScan (uNh (uTend (uC τ (sh_touch κ (τ).1)) (((sScan (uC τ (sh_touch κ (τ).1))) + 1) + (hd_traced (sh_val κ (τ).1 (sScan τ))))) ((sScan (uTend (uC τ (sh_touch κ (τ).1)) (((sScan (uC τ (sh_touch κ (τ).1))) + 1) + (hd_traced (sh_val κ (τ).1 (sScan τ)))))) + (hd_cells (sh_val κ (τ).1 (sScan τ)))))) + 1)))) n := by rw [sh_workN, if_pos c_2n, if_pos c_3n, est]
              rw [eN] at K
              rw [nI_1] at hl
              exact ih (j + 1) _ H locs ls (by omega) hw (lv_sub hl [0, 2, 3] rfl) K
end LPW
set_option maxHeartbeats 4000000 in
set_option maxRecDepth 100000 in
theorem c_M_work (l : Launch) (D : va_G) (cI cP : ClassId) (a : cx_a) (κ : sh_K) (np : Nat) (σ : sh_S) : cx_Met l D cI cP a κ np y_M_work b_M_work 5 (none) 4 80 [.ref (aXM a)] σ (none) (sh_work κ σ) := by
  refine cx_start (by decide) (Nat.le_of_ble_eq_true rfl) mo_work ?_
  intro p e R s m args below meth c A ls S hr hlk hfr hlc hw hbud hl
  have hl : lv_has ls 5 [(0, .ref (aXM a))] := hl
  refine lv_aload_n S.1 S.2.1 d_M_work_0 rfl (lv_at hl 0 rfl) ?_
  refine cx_get S hw (q0 := 2) (ci := 2) (k := 7) (v := .int (sBase σ)) (fun _ => rfl) rfl (by decide) inM tb_70 rfl rfl d_M_work_1 ?_
  refine lv_aload_n S.1 S.2.1 d_M_work_4 rfl (lv_at hl 0 rfl) ?_
  refine cx_get S hw (q0 := 2) (ci := 2) (k := 2) (v := .int (kK κ)) (fun _ => rfl) rfl (by decide) inM tb_62 rfl rfl d_M_work_5 ?_
  refine lv_aload_n S.1 S.2.1 d_M_work_8 rfl (lv_at hl 0 rfl) ?_
  refine cx_get S hw (q0 := 2) (ci := 2) (k := 5) (v := .int (sMade σ)) (fun _ => rfl) rfl (by decide) inM tb_66 rfl rfl d_M_work_9 ?_
  refine lv_imul S.1 S.2.1 d_M_work_12 ?_
  refine lv_iadd S.1 S.2.1 d_M_work_13 ?_
  refine lv_istore_n (lv' := [(1, .int ((sBase σ) + ((kK κ) * (sMade σ)))), (0, .ref (aXM a))]) S.1 S.2.1 d_M_work_14 rfl hl (by decide) rfl (fun ls hl => ?_)
  refine lv_iconst (v := 0) S.1 S.2.1 d_M_work_15 (by decide) ?_
  refine lv_istore_n (lv' := [(2, .int 0), (1, .int ((sBase σ) + ((kK κ) * (sMade σ)))), (0, .ref (aXM a))]) S.1 S.2.1 d_M_work_16 rfl hl (by decide) rfl (fun ls hl => ?_)
  generalize hb8 : (kK κ * 16).toNatClampNeg = n8
  refine lp_work (κ := κ) S hbud (by omega) (by omega) n8 0 σ _ _ ls (by rw [Nat.zero_add]; exact hb8.symm) hw hl (fun H locs ls hw => ?_)
  generalize hq_1 : sh_workN κ (sBase σ + kK κ * sMade σ) σ n8 = q_1 at hw ⊢
  exact cx_retV S hr hlk hw hbud rfl (by subst hq_1; subst hb8; rfl) d_M_work_162
section LPL
variable {p : Program} {l : Launch} {e : Env} {R : Room} {s : State} {m : MethodId} {args : Array Value} {below : List Frame} {meth : Method} {c : Code} {Q : State → Prop} {D : va_G} {cI cP : ClassId} {a : cx_a} {κ : sh_K} {np n0 : Nat} {A : Nat → Prop} {c1 : Cond}
set_option maxHeartbeats 4000000 in
set_option maxRecDepth 100000 in
theorem lp_place (S : CallFix p m c b_M_place 4 s args (c1 :: bt) "StepHeap$Mover") (hbud : 2 * (np - n0) ≤ R.cells ∧ 1025 * (np - n0) ≤ R.slots) (hfr : 3 ≤ R.frames) (hlc : 55 ≤ R.locals) {σ0 : sh_S} {h : Int32} {N : Nat} (hN : N < 2 ^ 30) :
    ∀ (n j : Nat) (i : Int32) (cs : sh_C) (H : Heap) (locs : List Loc) (ls : Array Slot), i = nI j → j + n = N → cx_Wd D cI cP a κ np s A n0 (uC σ0 cs) H locs → lv_has ls 4 [(3, .int i), (2, .int (nI N)), (0, .ref (aXM a)), (1, .int h)] →
    (∀ (H' : Heap) (locs' : List Loc) (ls' : Array Slot), cx_Wd D cI cP a κ np s A n0 (uC σ0 (sh_zeroN κ cs (sLow σ0) i n)) H' locs' → lv_has ls' 4 [(3, .int (nI N)), (2, .int (nI N)), (0, .ref (aXM a)), (1, .int h)] → W p l e R s m args below meth c H' locs' (2 * (nal (uC σ0 (sh_zeroN κ cs (sLow σ0) i n)) - n0)) (1025 * (nal (uC σ0 (sh_zeroN κ cs (sLow σ0) i n)) - n0)) Q (F0 m 54 ls' [])) →
    W p l e R s m args below meth c H locs (2 * (nal (uC σ0 cs) - n0)) (1025 * (nal (uC σ0 cs) - n0)) Q (F0 m 29 ls []) := by
  intro n
  induction n with
  | zero =>
    intro j i cs H locs ls hi hj hw hl K
    refine lv_iload_n S.1 S.2.1 d_M_place_29 rfl (lv_at hl 0 rfl) ?_
    refine lv_iload_n S.1 S.2.1 d_M_place_30 rfl (lv_at hl 1 rfl) ?_
    refine lv_icmp_ge (tgt := 54) S.1 S.2.1 d_M_place_31 (by decide) (fun c_1 => ?_) (fun c_1 => ?_)
    · have c_1n := i32_nlt c_1
      have ej : i = nI N := by rw [hi, show j = N by omega]
      exact K H locs ls hw (by rw [← ej] at hl ⊢; exact hl)
    · have c_1n := i32_lt c_1
      exact absurd (by rw [hi, show j = N by omega]; exact nI_le (Nat.le_refl _) (by omega)) c_1
  | succ n ih =>
    intro j i cs H locs ls hi hj hw hl K
    refine lv_iload_n S.1 S.2.1 d_M_place_29 rfl (lv_at hl 0 rfl) ?_
    refine lv_iload_n S.1 S.2.1 d_M_place_30 rfl (lv_at hl 1 rfl) ?_
    refine lv_icmp_ge (tgt := 54) S.1 S.2.1 d_M_place_31 (by decide) (fun c_1 => ?_) (fun c_1 => ?_)
    · have c_1n := i32_nlt c_1
      exact absurd (by rw [hi] at c_1; exact c_1) (nI_ge (show j < N by omega) (by omega))
    · have c_1n := i32_lt c_1
      refine lv_aload_n S.1 S.2.1 d_M_place_34 rfl (lv_at hl 2 rfl) ?_
      refine cx_get S hw (q0 := 2) (ci := 2) (k := 0) (v := .ref (aXC a)) (fun _ => rfl) rfl (by decide) inM tb_59 rfl rfl d_M_place_35 ?_
      refine lv_aload_n S.1 S.2.1 d_M_place_38 rfl (lv_at hl 2 rfl) ?_
      refine cx_get S hw (q0 := 2) (ci := 2) (k := 9) (v := .int (sLow (uC σ0 cs))) (fun _ => rfl) rfl (by decide) inM tb_72 rfl rfl d_M_place_39 ?_
      refine lv_iload_n S.1 S.2.1 d_M_place_42 rfl (lv_at hl 0 rfl) ?_
      refine lv_iadd S.1 S.2.1 d_M_place_43 ?_
      refine lv_iconst (v := 0) S.1 S.2.1 d_M_place_44 (by decide) ?_
      refine cx_call S hw hbud (As := [.int ((sLow (uC σ0 cs)) + i), .int 0]) (rest := []) (c_C_write l D cI cP a κ np (uC σ0 cs) ((sLow (uC σ0 cs)) + i) 0) (q0 := 1) (fun _ => rfl) rfl tb_179 tb_176 tb_177 tb_178 tb_4 hd_C_write rfl ⟨by omega, by omega⟩ hl.1 rfl (Nat.le_of_ble_eq_true rfl) d_M_place_45 (fun H locs hw => ?_)
      generalize hq_1 : sh_write κ ((uC σ0 cs)).1 ((sLow (uC σ0 cs)) + i) 0 = q_1 at hw ⊢
      refine W.eq (g2 := F0 m 48 ls []) rfl ?_
      refine lv_iinc (v := i + 1) (lv' := [(3, .int (i + 1)), (2, .int (nI N)), (0, .ref (aXM a)), (1, .int h)]) S.1 S.2.1 d_M_place_48 hl (k := 0) rfl rfl (by decide) rfl (fun ls hl => ?_)
      refine lv_goto (tgt := 29) S.1 S.2.1 d_M_place_51 (by decide) ?_
      subst hq_1
      exact ih (j + 1) (i + 1) _ H locs ls (by rw [hi]; exact nI_1 j) (by omega) hw (lv_sub hl [0, 1, 2, 3] rfl) K
end LPL
set_option maxHeartbeats 4000000 in
set_option maxRecDepth 100000 in
theorem c_M_place (l : Launch) (D : va_G) (cI cP : ClassId) (a : cx_a) (κ : sh_K) (np : Nat) (σ : sh_S) (h : Int32) : cx_Met l D cI cP a κ np y_M_place b_M_place 4 (some .int) 5 104 [.ref (aXM a), .int h] σ (some (.int ((sh_place κ σ h).1))) ((sh_place κ σ h).2) := by
  refine cx_start (by decide) (Nat.le_of_ble_eq_true rfl) mo_place ?_
  intro p e R s m args below meth c A ls S hr hlk hfr hlc hw hbud hl
  have hl : lv_has ls 4 [(0, .ref (aXM a)), (1, .int h)] := hl
  refine lv_iload_n S.1 S.2.1 d_M_place_0 rfl (lv_at hl 1 rfl) ?_
  refine cx_fn S (As := [.int h]) (rest := []) (c_H_cells l h) tb_136 tb_175 tb_135 tb_6 hdf_H_cells rfl ⟨by omega, by omega⟩ hl.1 rfl (Nat.le_of_ble_eq_true rfl) d_M_place_1 (hw.fit hbud) ?_
  refine lv_istore_n (lv' := [(2, .int (hd_cells h)), (0, .ref (aXM a)), (1, .int h)]) S.1 S.2.1 d_M_place_4 rfl hl (by decide) rfl (fun ls hl => ?_)
  refine lv_aload_n S.1 S.2.1 d_M_place_5 rfl (lv_at hl 1 rfl) ?_
  refine lv_dup S.1 S.2.1 d_M_place_6 rfl ?_
  refine cx_get S hw (q0 := 2) (ci := 2) (k := 9) (v := .int (sLow σ)) (fun _ => rfl) rfl (by decide) inM tb_72 rfl rfl d_M_place_7 ?_
  refine lv_iload_n S.1 S.2.1 d_M_place_10 rfl (lv_at hl 0 rfl) ?_
  refine lv_isub S.1 S.2.1 d_M_place_11 ?_
  refine cx_put S hw (q0 := 2) (ci := 2) (k := 9) (σ' := uLow σ ((sLow σ) - (hd_cells h))) (ty := .int) (fun _ => rfl) rfl (by decide) inM tyM tyM_ok nmM tb_72 rfl rfl rfl rfl rfl (Nat.le_of_ble_eq_true rfl) (fun _ => rfl) rfl rfl d_M_place_12 (fun H locs hw => ?_)
  refine W.cs (cells' := 2 * (nal (uLow σ ((sLow σ) - (hd_cells h))) - nal σ)) (slots' := 1025 * (nal (uLow σ ((sLow σ) - (hd_cells h))) - nal σ)) rfl rfl ?_
  refine lv_aload_n S.1 S.2.1 d_M_place_15 rfl (lv_at hl 1 rfl) ?_
  refine cx_get S hw (q0 := 2) (ci := 2) (k := 0) (v := .ref (aXC a)) (fun _ => rfl) rfl (by decide) inM tb_59 rfl rfl d_M_place_16 ?_
  refine lv_aload_n S.1 S.2.1 d_M_place_19 rfl (lv_at hl 1 rfl) ?_
  refine cx_get S hw (q0 := 2) (ci := 2) (k := 9) (v := .int (sLow (uLow σ ((sLow σ) - (hd_cells h))))) (fun _ => rfl) rfl (by decide) inM tb_72 rfl rfl d_M_place_20 ?_
  refine lv_iload_n S.1 S.2.1 d_M_place_23 rfl (lv_at hl 2 rfl) ?_
  refine cx_call S hw hbud (As := [.int (sLow (uLow σ ((sLow σ) - (hd_cells h)))), .int h]) (rest := []) (c_C_write l D cI cP a κ np (uLow σ ((sLow σ) - (hd_cells h))) (sLow (uLow σ ((sLow σ) - (hd_cells h)))) h) (q0 := 1) (fun _ => rfl) rfl tb_179 tb_176 tb_177 tb_178 tb_4 hd_C_write rfl ⟨by omega, by omega⟩ hl.1 rfl (Nat.le_of_ble_eq_true rfl) d_M_place_24 (fun H locs hw => ?_)
  generalize hq_1 : sh_write κ ((uLow σ ((sLow σ) - (hd_cells h)))).1 (sLow (uLow σ ((sLow σ) - (hd_cells h)))) h = q_1 at hw ⊢
  refine W.eq (g2 := F0 m 27 ls []) rfl ?_
  refine lv_iconst (v := 1) S.1 S.2.1 d_M_place_27 (by decide) ?_
  refine lv_istore_n (lv' := [(3, .int 1), (2, .int (hd_cells h)), (0, .ref (aXM a)), (1, .int h)]) S.1 S.2.1 d_M_place_28 rfl hl (by decide) rfl (fun ls hl => ?_)
  have hN := hC_eq h
  have hB := hC_big h
  refine lp_place S hbud (by omega) (by omega) (σ0 := (uLow σ ((sLow σ) - (hd_cells h)))) hB.2 (hC h - 1) 1 1 q_1 H locs ls rfl (by omega) hw (by rw [← hN]; exact hl) (fun H locs ls hw hl => ?_)
  generalize hq_2 : sh_zeroN κ q_1 (sLow ((uLow σ ((sLow σ) - (hd_cells h))))) 1 (hC h - 1) = q_2 at hw ⊢
  refine lv_aload_n S.1 S.2.1 d_M_place_54 rfl (lv_at hl 2 rfl) ?_
  refine lv_dup S.1 S.2.1 d_M_place_55 rfl ?_
  refine cx_get S hw (q0 := 2) (ci := 2) (k := 5) (v := .int (sMade (uC (uLow σ ((sLow σ) - (hd_cells h))) q_2))) (fun _ => rfl) rfl (by decide) inM tb_66 rfl rfl d_M_place_56 ?_
  refine lv_iload_n S.1 S.2.1 d_M_place_59 rfl (lv_at hl 1 rfl) ?_
  refine lv_iadd S.1 S.2.1 d_M_place_60 ?_
  refine cx_put S hw (q0 := 2) (ci := 2) (k := 5) (σ' := uMade (uC (uLow σ ((sLow σ) - (hd_cells h))) q_2) ((sMade (uC (uLow σ ((sLow σ) - (hd_cells h))) q_2)) + (nI (hC h)))) (ty := .int) (fun _ => rfl) rfl (by decide) inM tyM tyM_ok nmM tb_66 rfl rfl rfl rfl rfl (Nat.le_of_ble_eq_true rfl) (fun _ => rfl) rfl rfl d_M_place_61 (fun H locs hw => ?_)
  refine W.cs (cells' := 2 * (nal (uMade (uC (uLow σ ((sLow σ) - (hd_cells h))) q_2) ((sMade (uC (uLow σ ((sLow σ) - (hd_cells h))) q_2)) + (nI (hC h)))) - nal σ)) (slots' := 1025 * (nal (uMade (uC (uLow σ ((sLow σ) - (hd_cells h))) q_2) ((sMade (uC (uLow σ ((sLow σ) - (hd_cells h))) q_2)) + (nI (hC h)))) - nal σ)) rfl rfl ?_
  refine lv_aload_n S.1 S.2.1 d_M_place_64 rfl (lv_at hl 2 rfl) ?_
  refine cx_call S hw hbud (As := []) (rest := []) (c_M_work l D cI cP a κ np (uMade (uC (uLow σ ((sLow σ) - (hd_cells h))) q_2) ((sMade (uC (uLow σ ((sLow σ) - (hd_cells h))) q_2)) + (nI (hC h)))) ) (q0 := 2) (fun _ => rfl) rfl tb_197 tb_194 tb_196 tp_6 tb_3 hd_M_work rfl ⟨by omega, by omega⟩ hl.1 rfl (Nat.le_of_ble_eq_true rfl) d_M_place_65 (fun H locs hw => ?_)
  generalize hq_3 : sh_work κ (uMade (uC (uLow σ ((sLow σ) - (hd_cells h))) q_2) ((sMade (uC (uLow σ ((sLow σ) - (hd_cells h))) q_2)) + (nI (hC h)))) = q_3 at hw ⊢
  refine W.eq (g2 := F0 m 68 ls []) rfl ?_
  refine lv_aload_n S.1 S.2.1 d_M_place_68 rfl (lv_at hl 2 rfl) ?_
  refine cx_get S hw (q0 := 2) (ci := 2) (k := 9) (v := .int (sLow q_3)) (fun _ => rfl) rfl (by decide) inM tb_72 rfl rfl d_M_place_69 ?_
  exact cx_retI S hr hlk hw hbud (by subst hq_3; subst hq_2; subst hq_1; unfold sh_place; simp only [hC_eq, hC_clamp]; try rfl; done) (by subst hq_3; subst hq_2; subst hq_1; unfold sh_place; simp only [hC_eq, hC_clamp]; try rfl; done) d_M_place_72
