/-! ===== nest words; static functions of ints ===== -/
theorem nxw_0 : Cond.fieldLinkNest "StepHeap" 137 "StepHeap$Cells" "steady" "Z" "StepHeap" ∈ nx_w := List.mem_of_getElem? (i := 0) rfl
theorem nxw_1 : Cond.fieldLinkNest "StepHeap" 30 "StepHeap$Mover" "cells" "LStepHeap$Cells;" "StepHeap" ∈ nx_w := List.mem_of_getElem? (i := 1) rfl
theorem nxw_2 : Cond.fieldLinkNest "StepHeap" 134 "StepHeap$Mover" "limit" "I" "StepHeap" ∈ nx_w := List.mem_of_getElem? (i := 2) rfl
theorem nxw_3 : Cond.fieldLinkNest "StepHeap" 131 "StepHeap$Mover" "made" "I" "StepHeap" ∈ nx_w := List.mem_of_getElem? (i := 3) rfl
theorem nxw_4 : Cond.fieldLinkNest "StepHeap" 119 "StepHeap$Mover" "begun" "I" "StepHeap" ∈ nx_w := List.mem_of_getElem? (i := 4) rfl
theorem nxw_5 : Cond.fieldLinkNest "StepHeap$Cells" 32 "StepHeap$Page" "row" "[I" "StepHeap" ∈ nx_w := List.mem_of_getElem? (i := 5) rfl
theorem nxw_6 : Cond.methodLinkNest "StepHeap$Cells" 36 ⟨"StepHeap$Page", "<init>", "()V"⟩ "StepHeap" ∈ nx_w := List.mem_of_getElem? (i := 6) rfl
theorem nxw_7 : Cond.methodLinkNest "StepHeap$Mover" 44 ⟨"StepHeap", "isRegister", "(I)Z"⟩ "StepHeap" ∈ nx_w := List.mem_of_getElem? (i := 7) rfl
theorem i32_nlt {x y : Int32} (h : y ≤ x) : ¬ x < y := by rw [Int32.lt_iff_toInt_lt]; rw [Int32.le_iff_toInt_le] at h; omega
theorem i32_lt {x y : Int32} (h : ¬ y ≤ x) : x < y := by rw [Int32.lt_iff_toInt_lt]; rw [Int32.le_iff_toInt_le] at h; omega
theorem i32_nle {x y : Int32} (h : y < x) : ¬ x ≤ y := by rw [Int32.le_iff_toInt_le]; rw [Int32.lt_iff_toInt_lt] at h; omega
theorem i32_le {x y : Int32} (h : ¬ y < x) : x ≤ y := by rw [Int32.le_iff_toInt_le]; rw [Int32.lt_iff_toInt_lt] at h; omega
abbrev uTouS (σ : sh_S) (v : Int32) : sh_S := ((v, σ.1.2), σ.2)
abbrev uSteS (σ : sh_S) (v : Int32) : sh_S := ((σ.1.1, v, σ.1.2.2), σ.2)
theorem z_isArr (h : Int32) : hd_isArr h = 0 ∨ hd_isArr h = 1 := by unfold hd_isArr; split <;> simp
theorem z_refIt (h : Int32) : hd_refIt h = 0 ∨ hd_refIt h = 1 := by unfold hd_refIt; split <;> simp
theorem z_below (x b : Int32) : sh_below x b = 0 ∨ sh_below x b = 1 := by unfold sh_below; split; exact Or.inl rfl; split; exact Or.inl rfl; exact Or.inr rfl
def sh_shape (r i : Int32) : Int32 := if sh_below r 16 = 0 then 0 else if sh_below i 16 = 0 then 0 else if 16 < 1 + r + i then 0 else 1
theorem sh_isReg_eq (r : Int32) : sh_isReg r = sh_below r 8 := rfl
set_option maxHeartbeats 4000000 in
set_option maxRecDepth 100000 in
theorem c_H_ofObject (l : Launch) (r i : Int32) : cx_Fn l y_H_ofObject b_H_ofObject 2 (some .int) 0 0 [.int r, .int i] (hd_obj r i) := by
  refine cx_startF (by decide) (Nat.le_of_ble_eq_true rfl) ?_
  intro p e R s m args below meth c ls S hr hlk hfr hlc hl
  have hl : lv_has ls 2 [(0, .int r), (1, .int i)] := hl
  refine lv_iconst (v := 1) S.1 S.2.1 d_H_ofObject_0 (by decide) ?_
  refine lv_iload_n S.1 S.2.1 d_H_ofObject_1 rfl (lv_at hl 0 rfl) ?_
  refine lv_iconst (v := 1) S.1 S.2.1 d_H_ofObject_2 (by decide) ?_
  refine lv_ishl S.1 S.2.1 d_H_ofObject_3 ?_
  refine lv_ior S.1 S.2.1 d_H_ofObject_4 ?_
  refine lv_iload_n S.1 S.2.1 d_H_ofObject_5 rfl (lv_at hl 1 rfl) ?_
  refine lv_iconst (v := 5) S.1 S.2.1 d_H_ofObject_6 (by decide) ?_
  refine lv_ishl S.1 S.2.1 d_H_ofObject_7 ?_
  refine lv_ior S.1 S.2.1 d_H_ofObject_8 ?_
  exact cx_endI S hr hlk (by first | rfl | (unfold hd_obj; rfl)) d_H_ofObject_9
set_option maxHeartbeats 4000000 in
set_option maxRecDepth 100000 in
theorem c_H_ofNode (l : Launch) (t : Int32) : cx_Fn l y_H_ofNode b_H_ofNode 1 (some .int) 1 21 [.int t] (hd_node t) := by
  refine cx_startF (by decide) (Nat.le_of_ble_eq_true rfl) ?_
  intro p e R s m args below meth c ls S hr hlk hfr hlc hl
  have hl : lv_has ls 1 [(0, .int t)] := hl
  refine lv_iload_n S.1 S.2.1 d_H_ofNode_0 rfl (lv_at hl 0 rfl) ?_
  refine lv_if_eq (tgt := 13) S.1 S.2.1 d_H_ofNode_1 (by decide) (fun c_1 => ?_) (fun c_1 => ?_)
  · refine lv_iconst (v := 0) S.1 S.2.1 d_H_ofNode_13 (by decide) ?_
    refine lv_bipush (v := 15) S.1 S.2.1 d_H_ofNode_14 (by decide) ?_
    refine cx_fn S (As := [.int 0, .int 15]) (rest := []) (c_H_ofObject l 0 15) tb_125 tb_214 tb_124 tb_6 hdf_H_ofObject rfl ⟨by omega, by omega⟩ hl.1 rfl (Nat.le_of_ble_eq_true rfl) d_H_ofNode_16 ⟨Nat.zero_le _, Nat.zero_le _⟩ ?_
    exact cx_endI S hr hlk (by first | rfl | (unfold hd_node; rfl) | (unfold hd_node; simp only [if_pos c_1]; done) | (unfold hd_node; simp only [if_pos c_1]; rfl) | (unfold hd_node; dsimp only; simp only [if_pos c_1]; done) | (unfold hd_node; simp only [if_pos c_1]; done)) d_H_ofNode_19
  · refine lv_bipush (v := 15) S.1 S.2.1 d_H_ofNode_4 (by decide) ?_
    refine lv_iconst (v := 0) S.1 S.2.1 d_H_ofNode_6 (by decide) ?_
    refine cx_fn S (As := [.int 15, .int 0]) (rest := []) (c_H_ofObject l 15 0) tb_125 tb_214 tb_124 tb_6 hdf_H_ofObject rfl ⟨by omega, by omega⟩ hl.1 rfl (Nat.le_of_ble_eq_true rfl) d_H_ofNode_7 ⟨Nat.zero_le _, Nat.zero_le _⟩ ?_
    refine lv_goto (tgt := 19) S.1 S.2.1 d_H_ofNode_10 (by decide) ?_
    exact cx_endI S hr hlk (by first | rfl | (unfold hd_node; rfl) | (unfold hd_node; simp only [if_neg c_1]; done) | (unfold hd_node; simp only [if_neg c_1]; rfl) | (unfold hd_node; dsimp only; simp only [if_neg c_1]; done) | (unfold hd_node; simp only [if_neg c_1]; done)) d_H_ofNode_19
set_option maxHeartbeats 4000000 in
set_option maxRecDepth 100000 in
theorem c_H_ofArray (l : Launch) (n r : Int32) : cx_Fn l y_H_ofArray b_H_ofArray 3 (some .int) 2 41 [.int n, .int r] (hd_arr n r) := by
  refine cx_startF (by decide) (Nat.le_of_ble_eq_true rfl) ?_
  intro p e R s m args below meth c ls S hr hlk hfr hlc hl
  have hl : lv_has ls 3 [(0, .int n), (1, .int r)] := hl
  refine lv_iload_n S.1 S.2.1 d_H_ofArray_0 rfl (lv_at hl 1 rfl) ?_
  refine lv_if_ne (tgt := 10) S.1 S.2.1 d_H_ofArray_1 (by decide) (fun c_1 => ?_) (fun c_1 => ?_)
  · refine lv_iconst (v := 1) S.1 S.2.1 d_H_ofArray_10 (by decide) ?_
    refine lv_goto (tgt := 15) S.1 S.2.1 d_H_ofArray_11 (by decide) ?_
    refine cx_fn S (As := [.int 1]) (rest := []) (c_H_ofNode l 1) tb_213 tb_211 tb_212 tb_6 hdf_H_ofNode rfl ⟨by omega, by omega⟩ hl.1 rfl (Nat.le_of_ble_eq_true rfl) d_H_ofArray_15 ⟨Nat.zero_le _, Nat.zero_le _⟩ ?_
    refine lv_istore_n (lv' := [(2, .int (hd_node 1)), (0, .int n), (1, .int r)]) S.1 S.2.1 d_H_ofArray_18 rfl hl (by decide) rfl (fun ls hl => ?_)
    refine lv_iload_n S.1 S.2.1 d_H_ofArray_19 rfl (lv_at hl 0 rfl) ?_
    refine lv_sipush (v := 512) S.1 S.2.1 d_H_ofArray_20 (by decide) ?_
    refine lv_ior S.1 S.2.1 d_H_ofArray_23 ?_
    refine lv_iload_n S.1 S.2.1 d_H_ofArray_24 rfl (lv_at hl 2 rfl) ?_
    refine lv_if_eq (tgt := 34) S.1 S.2.1 d_H_ofArray_25 (by decide) (fun c_2 => ?_) (fun c_2 => ?_)
    · refine lv_iconst (v := 0) S.1 S.2.1 d_H_ofArray_34 (by decide) ?_
      refine lv_ior S.1 S.2.1 d_H_ofArray_35 ?_
      refine lv_iload_n S.1 S.2.1 d_H_ofArray_36 rfl (lv_at hl 1 rfl) ?_
      refine lv_bipush (v := 11) S.1 S.2.1 d_H_ofArray_37 (by decide) ?_
      refine lv_ishl S.1 S.2.1 d_H_ofArray_39 ?_
      refine lv_ior S.1 S.2.1 d_H_ofArray_40 ?_
      exact cx_endI S hr hlk (by first | exact absurd c_2 c_1 | rfl | (unfold hd_arr; rfl) | (unfold hd_arr; simp only [if_neg c_1, if_pos c_2]; done) | (unfold hd_arr; simp only [if_neg c_1, if_pos c_2]; rfl) | (unfold hd_arr; dsimp only; simp only [if_neg c_1, if_pos c_2]; done) | (unfold hd_arr; simp only [if_neg c_1, if_pos c_2]; done)) d_H_ofArray_41
    · refine lv_sipush (v := 1024) S.1 S.2.1 d_H_ofArray_28 (by decide) ?_
      refine lv_goto (tgt := 35) S.1 S.2.1 d_H_ofArray_31 (by decide) ?_
      refine lv_ior S.1 S.2.1 d_H_ofArray_35 ?_
      refine lv_iload_n S.1 S.2.1 d_H_ofArray_36 rfl (lv_at hl 1 rfl) ?_
      refine lv_bipush (v := 11) S.1 S.2.1 d_H_ofArray_37 (by decide) ?_
      refine lv_ishl S.1 S.2.1 d_H_ofArray_39 ?_
      refine lv_ior S.1 S.2.1 d_H_ofArray_40 ?_
      exact cx_endI S hr hlk (by first | rfl | (unfold hd_arr; rfl) | (unfold hd_arr; simp only [if_neg c_1, if_neg c_2]; done) | (unfold hd_arr; simp only [if_neg c_1, if_neg c_2]; rfl) | (unfold hd_arr; dsimp only; simp only [if_neg c_1, if_neg c_2]; done) | (unfold hd_arr; simp only [if_neg c_1, if_neg c_2]; done)) d_H_ofArray_41
  · refine lv_iload_n S.1 S.2.1 d_H_ofArray_4 rfl (lv_at hl 0 rfl) ?_
    refine lv_bipush (v := 15) S.1 S.2.1 d_H_ofArray_5 (by decide) ?_
    refine lv_icmp_le (tgt := 14) S.1 S.2.1 d_H_ofArray_7 (by decide) (fun c_3 => ?_) (fun c_3 => ?_)
    · refine lv_iconst (v := 0) S.1 S.2.1 d_H_ofArray_14 (by decide) ?_
      refine cx_fn S (As := [.int 0]) (rest := []) (c_H_ofNode l 0) tb_213 tb_211 tb_212 tb_6 hdf_H_ofNode rfl ⟨by omega, by omega⟩ hl.1 rfl (Nat.le_of_ble_eq_true rfl) d_H_ofArray_15 ⟨Nat.zero_le _, Nat.zero_le _⟩ ?_
      refine lv_istore_n (lv' := [(2, .int (hd_node 0)), (0, .int n), (1, .int r)]) S.1 S.2.1 d_H_ofArray_18 rfl hl (by decide) rfl (fun ls hl => ?_)
      refine lv_iload_n S.1 S.2.1 d_H_ofArray_19 rfl (lv_at hl 0 rfl) ?_
      refine lv_sipush (v := 512) S.1 S.2.1 d_H_ofArray_20 (by decide) ?_
      refine lv_ior S.1 S.2.1 d_H_ofArray_23 ?_
      refine lv_iload_n S.1 S.2.1 d_H_ofArray_24 rfl (lv_at hl 2 rfl) ?_
      refine lv_if_eq (tgt := 34) S.1 S.2.1 d_H_ofArray_25 (by decide) (fun c_4 => ?_) (fun c_4 => ?_)
      · refine lv_iconst (v := 0) S.1 S.2.1 d_H_ofArray_34 (by decide) ?_
        refine lv_ior S.1 S.2.1 d_H_ofArray_35 ?_
        refine lv_iload_n S.1 S.2.1 d_H_ofArray_36 rfl (lv_at hl 1 rfl) ?_
        refine lv_bipush (v := 11) S.1 S.2.1 d_H_ofArray_37 (by decide) ?_
        refine lv_ishl S.1 S.2.1 d_H_ofArray_39 ?_
        refine lv_ior S.1 S.2.1 d_H_ofArray_40 ?_
        exact cx_endI S hr hlk (by first | rfl | (unfold hd_arr; rfl) | (unfold hd_arr; simp only [if_pos c_1, if_pos c_3, if_pos c_4]; done) | (unfold hd_arr; simp only [if_pos c_1, if_pos c_3, if_pos c_4]; rfl) | (unfold hd_arr; dsimp only; simp only [if_pos c_1, if_pos c_3, if_pos c_4]; done) | (unfold hd_arr; simp only [if_pos c_1, if_pos c_3, if_pos c_4]; done)) d_H_ofArray_41
      · refine lv_sipush (v := 1024) S.1 S.2.1 d_H_ofArray_28 (by decide) ?_
        refine lv_goto (tgt := 35) S.1 S.2.1 d_H_ofArray_31 (by decide) ?_
        refine lv_ior S.1 S.2.1 d_H_ofArray_35 ?_
        refine lv_iload_n S.1 S.2.1 d_H_ofArray_36 rfl (lv_at hl 1 rfl) ?_
        refine lv_bipush (v := 11) S.1 S.2.1 d_H_ofArray_37 (by decide) ?_
        refine lv_ishl S.1 S.2.1 d_H_ofArray_39 ?_
        refine lv_ior S.1 S.2.1 d_H_ofArray_40 ?_
        exact cx_endI S hr hlk (by first | exact absurd c_1 c_4 | exact absurd c_3 c_4 | rfl | (unfold hd_arr; rfl) | (unfold hd_arr; simp only [if_pos c_1, if_pos c_3, if_neg c_4]; done) | (unfold hd_arr; simp only [if_pos c_1, if_pos c_3, if_neg c_4]; rfl) | (unfold hd_arr; dsimp only; simp only [if_pos c_1, if_pos c_3, if_neg c_4]; done) | (unfold hd_arr; simp only [if_pos c_1, if_pos c_3, if_neg c_4]; done)) d_H_ofArray_41
    · refine lv_iconst (v := 1) S.1 S.2.1 d_H_ofArray_10 (by decide) ?_
      refine lv_goto (tgt := 15) S.1 S.2.1 d_H_ofArray_11 (by decide) ?_
      refine cx_fn S (As := [.int 1]) (rest := []) (c_H_ofNode l 1) tb_213 tb_211 tb_212 tb_6 hdf_H_ofNode rfl ⟨by omega, by omega⟩ hl.1 rfl (Nat.le_of_ble_eq_true rfl) d_H_ofArray_15 ⟨Nat.zero_le _, Nat.zero_le _⟩ ?_
      refine lv_istore_n (lv' := [(2, .int (hd_node 1)), (0, .int n), (1, .int r)]) S.1 S.2.1 d_H_ofArray_18 rfl hl (by decide) rfl (fun ls hl => ?_)
      refine lv_iload_n S.1 S.2.1 d_H_ofArray_19 rfl (lv_at hl 0 rfl) ?_
      refine lv_sipush (v := 512) S.1 S.2.1 d_H_ofArray_20 (by decide) ?_
      refine lv_ior S.1 S.2.1 d_H_ofArray_23 ?_
      refine lv_iload_n S.1 S.2.1 d_H_ofArray_24 rfl (lv_at hl 2 rfl) ?_
      refine lv_if_eq (tgt := 34) S.1 S.2.1 d_H_ofArray_25 (by decide) (fun c_5 => ?_) (fun c_5 => ?_)
      · refine lv_iconst (v := 0) S.1 S.2.1 d_H_ofArray_34 (by decide) ?_
        refine lv_ior S.1 S.2.1 d_H_ofArray_35 ?_
        refine lv_iload_n S.1 S.2.1 d_H_ofArray_36 rfl (lv_at hl 1 rfl) ?_
        refine lv_bipush (v := 11) S.1 S.2.1 d_H_ofArray_37 (by decide) ?_
        refine lv_ishl S.1 S.2.1 d_H_ofArray_39 ?_
        refine lv_ior S.1 S.2.1 d_H_ofArray_40 ?_
        exact cx_endI S hr hlk (by first | exact absurd c_1 c_3 | exact absurd c_5 c_3 | rfl | (unfold hd_arr; rfl) | (unfold hd_arr; simp only [if_pos c_1, if_neg c_3, if_pos c_5]; done) | (unfold hd_arr; simp only [if_pos c_1, if_neg c_3, if_pos c_5]; rfl) | (unfold hd_arr; dsimp only; simp only [if_pos c_1, if_neg c_3, if_pos c_5]; done) | (unfold hd_arr; simp only [if_pos c_1, if_neg c_3, if_pos c_5]; done)) d_H_ofArray_41
      · refine lv_sipush (v := 1024) S.1 S.2.1 d_H_ofArray_28 (by decide) ?_
        refine lv_goto (tgt := 35) S.1 S.2.1 d_H_ofArray_31 (by decide) ?_
        refine lv_ior S.1 S.2.1 d_H_ofArray_35 ?_
        refine lv_iload_n S.1 S.2.1 d_H_ofArray_36 rfl (lv_at hl 1 rfl) ?_
        refine lv_bipush (v := 11) S.1 S.2.1 d_H_ofArray_37 (by decide) ?_
        refine lv_ishl S.1 S.2.1 d_H_ofArray_39 ?_
        refine lv_ior S.1 S.2.1 d_H_ofArray_40 ?_
        exact cx_endI S hr hlk (by first | exact absurd c_1 c_3 | exact absurd c_1 c_5 | rfl | (unfold hd_arr; rfl) | (unfold hd_arr; simp only [if_pos c_1, if_neg c_3, if_neg c_5]; done) | (unfold hd_arr; simp only [if_pos c_1, if_neg c_3, if_neg c_5]; rfl) | (unfold hd_arr; dsimp only; simp only [if_pos c_1, if_neg c_3, if_neg c_5]; done) | (unfold hd_arr; simp only [if_pos c_1, if_neg c_3, if_neg c_5]; done)) d_H_ofArray_41
set_option maxHeartbeats 4000000 in
set_option maxRecDepth 100000 in
theorem c_H_traced (l : Launch) (h : Int32) : cx_Fn l y_H_traced b_H_traced 1 (some .int) 0 0 [.int h] (hd_traced h) := by
  refine cx_startF (by decide) (Nat.le_of_ble_eq_true rfl) ?_
  intro p e R s m args below meth c ls S hr hlk hfr hlc hl
  have hl : lv_has ls 1 [(0, .int h)] := hl
  refine lv_iload_n S.1 S.2.1 d_H_traced_0 rfl (lv_at hl 0 rfl) ?_
  refine lv_iconst (v := 1) S.1 S.2.1 d_H_traced_1 (by decide) ?_
  refine lv_ishr S.1 S.2.1 d_H_traced_2 ?_
  refine lv_bipush (v := 15) S.1 S.2.1 d_H_traced_3 (by decide) ?_
  refine lv_iand S.1 S.2.1 d_H_traced_5 ?_
  exact cx_endI S hr hlk (by first | rfl | (unfold hd_traced; rfl)) d_H_traced_6
set_option maxHeartbeats 4000000 in
set_option maxRecDepth 100000 in
theorem c_H_plain (l : Launch) (h : Int32) : cx_Fn l y_H_plain b_H_plain 1 (some .int) 0 0 [.int h] (hd_plain h) := by
  refine cx_startF (by decide) (Nat.le_of_ble_eq_true rfl) ?_
  intro p e R s m args below meth c ls S hr hlk hfr hlc hl
  have hl : lv_has ls 1 [(0, .int h)] := hl
  refine lv_iload_n S.1 S.2.1 d_H_plain_0 rfl (lv_at hl 0 rfl) ?_
  refine lv_iconst (v := 5) S.1 S.2.1 d_H_plain_1 (by decide) ?_
  refine lv_ishr S.1 S.2.1 d_H_plain_2 ?_
  refine lv_bipush (v := 15) S.1 S.2.1 d_H_plain_3 (by decide) ?_
  refine lv_iand S.1 S.2.1 d_H_plain_5 ?_
  exact cx_endI S hr hlk (by first | rfl | (unfold hd_plain; rfl)) d_H_plain_6
set_option maxHeartbeats 4000000 in
set_option maxRecDepth 100000 in
theorem c_H_cells (l : Launch) (h : Int32) : cx_Fn l y_H_cells b_H_cells 1 (some .int) 1 20 [.int h] (hd_cells h) := by
  refine cx_startF (by decide) (Nat.le_of_ble_eq_true rfl) ?_
  intro p e R s m args below meth c ls S hr hlk hfr hlc hl
  have hl : lv_has ls 1 [(0, .int h)] := hl
  refine lv_iconst (v := 1) S.1 S.2.1 d_H_cells_0 (by decide) ?_
  refine lv_iload_n S.1 S.2.1 d_H_cells_1 rfl (lv_at hl 0 rfl) ?_
  refine cx_fn S (As := [.int h]) (rest := [.int 1]) (c_H_traced l h) tb_139 tb_137 tb_138 tb_6 hdf_H_traced rfl ⟨by omega, by omega⟩ hl.1 rfl (Nat.le_of_ble_eq_true rfl) d_H_cells_2 ⟨Nat.zero_le _, Nat.zero_le _⟩ ?_
  refine lv_iadd S.1 S.2.1 d_H_cells_5 ?_
  refine lv_iload_n S.1 S.2.1 d_H_cells_6 rfl (lv_at hl 0 rfl) ?_
  refine cx_fn S (As := [.int h]) (rest := [.int (1 + (hd_traced h))]) (c_H_plain l h) tb_142 tb_140 tb_141 tb_6 hdf_H_plain rfl ⟨by omega, by omega⟩ hl.1 rfl (Nat.le_of_ble_eq_true rfl) d_H_cells_7 ⟨Nat.zero_le _, Nat.zero_le _⟩ ?_
  refine lv_iadd S.1 S.2.1 d_H_cells_10 ?_
  exact cx_endI S hr hlk (by first | rfl | (unfold hd_cells; rfl)) d_H_cells_11
set_option maxHeartbeats 4000000 in
set_option maxRecDepth 100000 in
theorem c_H_isArray (l : Launch) (h : Int32) : cx_Fn l y_H_isArray b_H_isArray 1 (some .boolean) 0 0 [.int h] (hd_isArr h) := by
  refine cx_startF (by decide) (Nat.le_of_ble_eq_true rfl) ?_
  intro p e R s m args below meth c ls S hr hlk hfr hlc hl
  have hl : lv_has ls 1 [(0, .int h)] := hl
  refine lv_iload_n S.1 S.2.1 d_H_isArray_0 rfl (lv_at hl 0 rfl) ?_
  refine lv_sipush (v := 512) S.1 S.2.1 d_H_isArray_1 (by decide) ?_
  refine lv_iand S.1 S.2.1 d_H_isArray_4 ?_
  refine lv_if_eq (tgt := 12) S.1 S.2.1 d_H_isArray_5 (by decide) (fun c_1 => ?_) (fun c_1 => ?_)
  · refine lv_iconst (v := 0) S.1 S.2.1 d_H_isArray_12 (by decide) ?_
    exact cx_endZ S hr hlk (by first | rfl | (unfold hd_isArr; rfl) | (unfold hd_isArr; simp only [if_pos c_1]; done) | (unfold hd_isArr; simp only [if_pos c_1]; rfl) | (unfold hd_isArr; dsimp only; simp only [if_pos c_1]; done) | (unfold hd_isArr; simp only [if_pos c_1]; done)) (Or.inl rfl) d_H_isArray_13
  · refine lv_iconst (v := 1) S.1 S.2.1 d_H_isArray_8 (by decide) ?_
    refine lv_goto (tgt := 13) S.1 S.2.1 d_H_isArray_9 (by decide) ?_
    exact cx_endZ S hr hlk (by first | rfl | (unfold hd_isArr; rfl) | (unfold hd_isArr; simp only [if_neg c_1]; done) | (unfold hd_isArr; simp only [if_neg c_1]; rfl) | (unfold hd_isArr; dsimp only; simp only [if_neg c_1]; done) | (unfold hd_isArr; simp only [if_neg c_1]; done)) (Or.inr rfl) d_H_isArray_13
set_option maxHeartbeats 4000000 in
set_option maxRecDepth 100000 in
theorem c_H_hasReferenceItems (l : Launch) (h : Int32) : cx_Fn l y_H_hasReferenceItems b_H_hasReferenceItems 1 (some .boolean) 0 0 [.int h] (hd_refIt h) := by
  refine cx_startF (by decide) (Nat.le_of_ble_eq_true rfl) ?_
  intro p e R s m args below meth c ls S hr hlk hfr hlc hl
  have hl : lv_has ls 1 [(0, .int h)] := hl
  refine lv_iload_n S.1 S.2.1 d_H_hasReferenceItems_0 rfl (lv_at hl 0 rfl) ?_
  refine lv_sipush (v := 1024) S.1 S.2.1 d_H_hasReferenceItems_1 (by decide) ?_
  refine lv_iand S.1 S.2.1 d_H_hasReferenceItems_4 ?_
  refine lv_if_eq (tgt := 12) S.1 S.2.1 d_H_hasReferenceItems_5 (by decide) (fun c_1 => ?_) (fun c_1 => ?_)
  · refine lv_iconst (v := 0) S.1 S.2.1 d_H_hasReferenceItems_12 (by decide) ?_
    exact cx_endZ S hr hlk (by first | rfl | (unfold hd_refIt; rfl) | (unfold hd_refIt; simp only [if_pos c_1]; done) | (unfold hd_refIt; simp only [if_pos c_1]; rfl) | (unfold hd_refIt; dsimp only; simp only [if_pos c_1]; done) | (unfold hd_refIt; simp only [if_pos c_1]; done)) (Or.inl rfl) d_H_hasReferenceItems_13
  · refine lv_iconst (v := 1) S.1 S.2.1 d_H_hasReferenceItems_8 (by decide) ?_
    refine lv_goto (tgt := 13) S.1 S.2.1 d_H_hasReferenceItems_9 (by decide) ?_
    exact cx_endZ S hr hlk (by first | rfl | (unfold hd_refIt; rfl) | (unfold hd_refIt; simp only [if_neg c_1]; done) | (unfold hd_refIt; simp only [if_neg c_1]; rfl) | (unfold hd_refIt; dsimp only; simp only [if_neg c_1]; done) | (unfold hd_refIt; simp only [if_neg c_1]; done)) (Or.inr rfl) d_H_hasReferenceItems_13
set_option maxHeartbeats 4000000 in
set_option maxRecDepth 100000 in
theorem c_H_references (l : Launch) (h : Int32) : cx_Fn l y_H_references b_H_references 1 (some .int) 1 20 [.int h] (hd_refs h) := by
  refine cx_startF (by decide) (Nat.le_of_ble_eq_true rfl) ?_
  intro p e R s m args below meth c ls S hr hlk hfr hlc hl
  have hl : lv_has ls 1 [(0, .int h)] := hl
  refine lv_iload_n S.1 S.2.1 d_H_references_0 rfl (lv_at hl 0 rfl) ?_
  refine cx_fn S (As := [.int h]) (rest := []) (c_H_isArray l h) tb_233 tb_231 tb_232 tb_6 hdf_H_isArray rfl ⟨by omega, by omega⟩ hl.1 rfl (Nat.le_of_ble_eq_true rfl) d_H_references_1 ⟨Nat.zero_le _, Nat.zero_le _⟩ ?_
  refine lv_if_eq (tgt := 11) S.1 S.2.1 d_H_references_4 (by decide) (fun c_1 => ?_) (fun c_1 => ?_)
  · refine lv_iload_n S.1 S.2.1 d_H_references_11 rfl (lv_at hl 0 rfl) ?_
    refine cx_fn S (As := [.int h]) (rest := []) (c_H_traced l h) tb_139 tb_137 tb_138 tb_6 hdf_H_traced rfl ⟨by omega, by omega⟩ hl.1 rfl (Nat.le_of_ble_eq_true rfl) d_H_references_12 ⟨Nat.zero_le _, Nat.zero_le _⟩ ?_
    exact cx_endI S hr hlk (by first | rfl | (unfold hd_refs; rfl) | (unfold hd_refs; simp only [if_pos c_1]; done) | (unfold hd_refs; simp only [if_pos c_1]; rfl) | (unfold hd_refs; dsimp only; simp only [if_pos c_1]; done) | (unfold hd_refs; simp only [if_pos c_1]; done)) d_H_references_15
  · refine lv_iconst (v := 0) S.1 S.2.1 d_H_references_7 (by decide) ?_
    refine lv_goto (tgt := 15) S.1 S.2.1 d_H_references_8 (by decide) ?_
    exact cx_endI S hr hlk (by first | rfl | (unfold hd_refs; rfl) | (unfold hd_refs; simp only [if_neg c_1]; done) | (unfold hd_refs; simp only [if_neg c_1]; rfl) | (unfold hd_refs; dsimp only; simp only [if_neg c_1]; done) | (unfold hd_refs; simp only [if_neg c_1]; done)) d_H_references_15
set_option maxHeartbeats 4000000 in
set_option maxRecDepth 100000 in
theorem c_H_ints (l : Launch) (h : Int32) : cx_Fn l y_H_ints b_H_ints 1 (some .int) 1 20 [.int h] (hd_ints h) := by
  refine cx_startF (by decide) (Nat.le_of_ble_eq_true rfl) ?_
  intro p e R s m args below meth c ls S hr hlk hfr hlc hl
  have hl : lv_has ls 1 [(0, .int h)] := hl
  refine lv_iload_n S.1 S.2.1 d_H_ints_0 rfl (lv_at hl 0 rfl) ?_
  refine cx_fn S (As := [.int h]) (rest := []) (c_H_isArray l h) tb_233 tb_231 tb_232 tb_6 hdf_H_isArray rfl ⟨by omega, by omega⟩ hl.1 rfl (Nat.le_of_ble_eq_true rfl) d_H_ints_1 ⟨Nat.zero_le _, Nat.zero_le _⟩ ?_
  refine lv_if_eq (tgt := 11) S.1 S.2.1 d_H_ints_4 (by decide) (fun c_1 => ?_) (fun c_1 => ?_)
  · refine lv_iload_n S.1 S.2.1 d_H_ints_11 rfl (lv_at hl 0 rfl) ?_
    refine cx_fn S (As := [.int h]) (rest := []) (c_H_plain l h) tb_142 tb_140 tb_141 tb_6 hdf_H_plain rfl ⟨by omega, by omega⟩ hl.1 rfl (Nat.le_of_ble_eq_true rfl) d_H_ints_12 ⟨Nat.zero_le _, Nat.zero_le _⟩ ?_
    exact cx_endI S hr hlk (by first | rfl | (unfold hd_ints; rfl) | (unfold hd_ints; simp only [if_pos c_1]; done) | (unfold hd_ints; simp only [if_pos c_1]; rfl) | (unfold hd_ints; dsimp only; simp only [if_pos c_1]; done) | (unfold hd_ints; simp only [if_pos c_1]; done)) d_H_ints_15
  · refine lv_iconst (v := 0) S.1 S.2.1 d_H_ints_7 (by decide) ?_
    refine lv_goto (tgt := 15) S.1 S.2.1 d_H_ints_8 (by decide) ?_
    exact cx_endI S hr hlk (by first | rfl | (unfold hd_ints; rfl) | (unfold hd_ints; simp only [if_neg c_1]; done) | (unfold hd_ints; simp only [if_neg c_1]; rfl) | (unfold hd_ints; dsimp only; simp only [if_neg c_1]; done) | (unfold hd_ints; simp only [if_neg c_1]; done)) d_H_ints_15
set_option maxHeartbeats 4000000 in
set_option maxRecDepth 100000 in
theorem c_H_length (l : Launch) (h : Int32) : cx_Fn l y_H_length b_H_length 1 (some .int) 0 0 [.int h] (hd_len h) := by
  refine cx_startF (by decide) (Nat.le_of_ble_eq_true rfl) ?_
  intro p e R s m args below meth c ls S hr hlk hfr hlc hl
  have hl : lv_has ls 1 [(0, .int h)] := hl
  refine lv_iload_n S.1 S.2.1 d_H_length_0 rfl (lv_at hl 0 rfl) ?_
  refine lv_bipush (v := 11) S.1 S.2.1 d_H_length_1 (by decide) ?_
  refine lv_ishr S.1 S.2.1 d_H_length_3 ?_
  exact cx_endI S hr hlk (by first | rfl | (unfold hd_len; rfl)) d_H_length_4
set_option maxHeartbeats 4000000 in
set_option maxRecDepth 100000 in
theorem c_H_items (l : Launch) (h r : Int32) : cx_Fn l y_H_items b_H_items 2 (some .int) 1 20 [.int h, .int r] (hd_items h r) := by
  refine cx_startF (by decide) (Nat.le_of_ble_eq_true rfl) ?_
  intro p e R s m args below meth c ls S hr hlk hfr hlc hl
  have hl : lv_has ls 2 [(0, .int h), (1, .int r)] := hl
  refine lv_iload_n S.1 S.2.1 d_H_items_0 rfl (lv_at hl 0 rfl) ?_
  refine cx_fn S (As := [.int h]) (rest := []) (c_H_isArray l h) tb_233 tb_231 tb_232 tb_6 hdf_H_isArray rfl ⟨by omega, by omega⟩ hl.1 rfl (Nat.le_of_ble_eq_true rfl) d_H_items_1 ⟨Nat.zero_le _, Nat.zero_le _⟩ ?_
  refine lv_if_eq (tgt := 22) S.1 S.2.1 d_H_items_4 (by decide) (fun c_1 => ?_) (fun c_1 => ?_)
  · refine lv_iconst (v := 0) S.1 S.2.1 d_H_items_22 (by decide) ?_
    exact cx_endI S hr hlk (by first | rfl | (unfold hd_items; rfl) | (unfold hd_items; simp only [if_pos c_1]; done) | (unfold hd_items; simp only [if_pos c_1]; rfl) | (unfold hd_items; dsimp only; simp only [if_pos c_1]; done) | (unfold hd_items; simp only [if_pos c_1]; done)) d_H_items_23
  · refine lv_iload_n S.1 S.2.1 d_H_items_7 rfl (lv_at hl 0 rfl) ?_
    refine cx_fn S (As := [.int h]) (rest := []) (c_H_hasReferenceItems l h) tb_277 tb_275 tb_276 tb_6 hdf_H_hasReferenceItems rfl ⟨by omega, by omega⟩ hl.1 rfl (Nat.le_of_ble_eq_true rfl) d_H_items_8 ⟨Nat.zero_le _, Nat.zero_le _⟩ ?_
    refine lv_iload_n S.1 S.2.1 d_H_items_11 rfl (lv_at hl 1 rfl) ?_
    refine lv_icmp_ne (tgt := 22) S.1 S.2.1 d_H_items_12 (by decide) (fun c_2 => ?_) (fun c_2 => ?_)
    · refine lv_iconst (v := 0) S.1 S.2.1 d_H_items_22 (by decide) ?_
      exact cx_endI S hr hlk (by first | rfl | (unfold hd_items; rfl) | (unfold hd_items; simp only [if_neg c_1, if_neg c_2]; done) | (unfold hd_items; simp only [if_neg c_1, if_neg c_2]; rfl) | (unfold hd_items; dsimp only; simp only [if_neg c_1, if_neg c_2]; done) | (unfold hd_items; simp only [if_neg c_1, if_neg c_2]; done)) d_H_items_23
    · refine lv_iload_n S.1 S.2.1 d_H_items_15 rfl (lv_at hl 0 rfl) ?_
      refine cx_fn S (As := [.int h]) (rest := []) (c_H_length l h) tb_280 tb_278 tb_279 tb_6 hdf_H_length rfl ⟨by omega, by omega⟩ hl.1 rfl (Nat.le_of_ble_eq_true rfl) d_H_items_16 ⟨Nat.zero_le _, Nat.zero_le _⟩ ?_
      refine lv_goto (tgt := 23) S.1 S.2.1 d_H_items_19 (by decide) ?_
      exact cx_endI S hr hlk (by first | exact absurd c_2 c_1 | rfl | (unfold hd_items; rfl) | (unfold hd_items; simp only [if_neg c_1, if_pos c_2]; done) | (unfold hd_items; simp only [if_neg c_1, if_pos c_2]; rfl) | (unfold hd_items; dsimp only; simp only [if_neg c_1, if_pos c_2]; done) | (unfold hd_items; simp only [if_neg c_1, if_pos c_2]; done)) d_H_items_23
set_option maxHeartbeats 4000000 in
set_option maxRecDepth 100000 in
theorem c_H_height (l : Launch) (h : Int32) : cx_Fn l y_H_height b_H_height 2 (some .int) 1 20 [.int h] (hd_height h) := by
  refine cx_startF (by decide) (Nat.le_of_ble_eq_true rfl) ?_
  intro p e R s m args below meth c ls S hr hlk hfr hlc hl
  have hl : lv_has ls 2 [(0, .int h)] := hl
  refine lv_iload_n S.1 S.2.1 d_H_height_0 rfl (lv_at hl 0 rfl) ?_
  refine cx_fn S (As := [.int h]) (rest := []) (c_H_length l h) tb_280 tb_278 tb_279 tb_6 hdf_H_length rfl ⟨by omega, by omega⟩ hl.1 rfl (Nat.le_of_ble_eq_true rfl) d_H_height_1 ⟨Nat.zero_le _, Nat.zero_le _⟩ ?_
  refine lv_istore_n (lv' := [(1, .int (hd_len h)), (0, .int h)]) S.1 S.2.1 d_H_height_4 rfl hl (by decide) rfl (fun ls hl => ?_)
  refine lv_iload_n S.1 S.2.1 d_H_height_5 rfl (lv_at hl 0 rfl) ?_
  refine lv_sipush (v := 225) S.1 S.2.1 d_H_height_6 (by decide) ?_
  refine lv_icmp_le (tgt := 16) S.1 S.2.1 d_H_height_9 (by decide) (fun c_1 => ?_) (fun c_1 => ?_)
  · refine lv_iload_n S.1 S.2.1 d_H_height_16 rfl (lv_at hl 0 rfl) ?_
    refine lv_bipush (v := 15) S.1 S.2.1 d_H_height_17 (by decide) ?_
    refine lv_icmp_le (tgt := 26) S.1 S.2.1 d_H_height_19 (by decide) (fun c_2 => ?_) (fun c_2 => ?_)
    · refine lv_iconst (v := 0) S.1 S.2.1 d_H_height_26 (by decide) ?_
      exact cx_endI S hr hlk (by first | rfl | (unfold hd_height; rfl) | (unfold hd_height; simp only [if_pos c_1, if_pos c_2]; done) | (unfold hd_height; simp only [if_pos c_1, if_pos c_2]; rfl) | (unfold hd_height; dsimp only; simp only [if_pos c_1, if_pos c_2]; done) | (unfold hd_height; simp only [if_pos c_1, if_pos c_2]; done)) d_H_height_27
    · refine lv_iconst (v := 1) S.1 S.2.1 d_H_height_22 (by decide) ?_
      refine lv_goto (tgt := 27) S.1 S.2.1 d_H_height_23 (by decide) ?_
      exact cx_endI S hr hlk (by first | exact absurd c_1 c_2 | rfl | (unfold hd_height; rfl) | (unfold hd_height; simp only [if_pos c_1, if_neg c_2]; done) | (unfold hd_height; simp only [if_pos c_1, if_neg c_2]; rfl) | (unfold hd_height; dsimp only; simp only [if_pos c_1, if_neg c_2]; done) | (unfold hd_height; simp only [if_pos c_1, if_neg c_2]; done)) d_H_height_27
  · refine lv_iconst (v := 2) S.1 S.2.1 d_H_height_12 (by decide) ?_
    refine lv_goto (tgt := 27) S.1 S.2.1 d_H_height_13 (by decide) ?_
    exact cx_endI S hr hlk (by first | rfl | (unfold hd_height; rfl) | (unfold hd_height; simp only [if_neg c_1]; done) | (unfold hd_height; simp only [if_neg c_1]; rfl) | (unfold hd_height; dsimp only; simp only [if_neg c_1]; done) | (unfold hd_height; simp only [if_neg c_1]; done)) d_H_height_27
set_option maxHeartbeats 4000000 in
set_option maxRecDepth 100000 in
theorem c_X_isBelow (l : Launch) (x b : Int32) : cx_Fn l y_X_isBelow b_X_isBelow 2 (some .boolean) 0 0 [.int x, .int b] (sh_below x b) := by
  refine cx_startF (by decide) (Nat.le_of_ble_eq_true rfl) ?_
  intro p e R s m args below meth c ls S hr hlk hfr hlc hl
  have hl : lv_has ls 2 [(0, .int x), (1, .int b)] := hl
  refine lv_iload_n S.1 S.2.1 d_X_isBelow_0 rfl (lv_at hl 0 rfl) ?_
  refine lv_if_lt (tgt := 13) S.1 S.2.1 d_X_isBelow_1 (by decide) (fun c_1 => ?_) (fun c_1 => ?_)
  · refine lv_iconst (v := 0) S.1 S.2.1 d_X_isBelow_13 (by decide) ?_
    exact cx_endZ S hr hlk (by first | rfl | (unfold sh_below; rfl) | (unfold sh_below; simp only [if_pos c_1]; done) | (unfold sh_below; simp only [if_pos c_1]; rfl) | (unfold sh_below; dsimp only; simp only [if_pos c_1]; done) | (unfold sh_below; simp only [if_pos c_1]; done)) (Or.inl rfl) d_X_isBelow_14
  · refine lv_iload_n S.1 S.2.1 d_X_isBelow_4 rfl (lv_at hl 0 rfl) ?_
    refine lv_iload_n S.1 S.2.1 d_X_isBelow_5 rfl (lv_at hl 1 rfl) ?_
    refine lv_icmp_ge (tgt := 13) S.1 S.2.1 d_X_isBelow_6 (by decide) (fun c_2 => ?_) (fun c_2 => ?_)
    · have c_2n := i32_nlt c_2
      refine lv_iconst (v := 0) S.1 S.2.1 d_X_isBelow_13 (by decide) ?_
      exact cx_endZ S hr hlk (by first | exact absurd c_2 c_1 | exact absurd c_2 c_2n | rfl | (unfold sh_below; rfl) | (unfold sh_below; simp only [if_neg c_1, if_pos c_2, if_neg c_2n]; done) | (unfold sh_below; simp only [if_neg c_1, if_pos c_2, if_neg c_2n]; rfl) | (unfold sh_below; dsimp only; simp only [if_neg c_1, if_pos c_2, if_neg c_2n]; done) | (unfold sh_below; simp only [if_neg c_1, if_pos c_2, if_neg c_2n]; done)) (Or.inl rfl) d_X_isBelow_14
    · have c_2n := i32_lt c_2
      refine lv_iconst (v := 1) S.1 S.2.1 d_X_isBelow_9 (by decide) ?_
      refine lv_goto (tgt := 14) S.1 S.2.1 d_X_isBelow_10 (by decide) ?_
      exact cx_endZ S hr hlk (by first | exact absurd c_2n c_1 | exact absurd c_2n c_2 | rfl | (unfold sh_below; rfl) | (unfold sh_below; simp only [if_neg c_1, if_neg c_2, if_pos c_2n]; done) | (unfold sh_below; simp only [if_neg c_1, if_neg c_2, if_pos c_2n]; rfl) | (unfold sh_below; dsimp only; simp only [if_neg c_1, if_neg c_2, if_pos c_2n]; done) | (unfold sh_below; simp only [if_neg c_1, if_neg c_2, if_pos c_2n]; done)) (Or.inr rfl) d_X_isBelow_14
set_option maxHeartbeats 4000000 in
set_option maxRecDepth 100000 in
theorem c_X_isRegister (l : Launch) (r : Int32) : cx_Fn l y_X_isRegister b_X_isRegister 1 (some .boolean) 1 21 [.int r] (sh_isReg r) := by
  refine cx_startF (by decide) (Nat.le_of_ble_eq_true rfl) ?_
  intro p e R s m args below meth c ls S hr hlk hfr hlc hl
  have hl : lv_has ls 1 [(0, .int r)] := hl
  refine lv_iload_n S.1 S.2.1 d_X_isRegister_0 rfl (lv_at hl 0 rfl) ?_
  refine lv_bipush (v := 8) S.1 S.2.1 d_X_isRegister_1 (by decide) ?_
  refine cx_fn S (As := [.int r, .int 8]) (rest := []) (c_X_isBelow l r 8) tb_119 tb_117 tb_118 tb_1 hdf_X_isBelow rfl ⟨by omega, by omega⟩ hl.1 rfl (Nat.le_of_ble_eq_true rfl) d_X_isRegister_3 ⟨Nat.zero_le _, Nat.zero_le _⟩ ?_
  exact cx_endZ S hr hlk (by first | rfl | (unfold sh_isReg; rfl)) (z_below _ _) d_X_isRegister_6
set_option maxHeartbeats 4000000 in
set_option maxRecDepth 100000 in
theorem c_X_isShape (l : Launch) (r i : Int32) : cx_Fn l y_X_isShape b_X_isShape 2 (some .boolean) 1 21 [.int r, .int i] (sh_shape r i) := by
  refine cx_startF (by decide) (Nat.le_of_ble_eq_true rfl) ?_
  intro p e R s m args below meth c ls S hr hlk hfr hlc hl
  have hl : lv_has ls 2 [(0, .int r), (1, .int i)] := hl
  refine lv_iload_n S.1 S.2.1 d_X_isShape_0 rfl (lv_at hl 0 rfl) ?_
  refine lv_bipush (v := 16) S.1 S.2.1 d_X_isShape_1 (by decide) ?_
  refine cx_fn S (As := [.int r, .int 16]) (rest := []) (c_X_isBelow l r 16) tb_119 tb_117 tb_118 tb_1 hdf_X_isBelow rfl ⟨by omega, by omega⟩ hl.1 rfl (Nat.le_of_ble_eq_true rfl) d_X_isShape_3 ⟨Nat.zero_le _, Nat.zero_le _⟩ ?_
  refine lv_if_eq (tgt := 32) S.1 S.2.1 d_X_isShape_6 (by decide) (fun c_1 => ?_) (fun c_1 => ?_)
  · refine lv_iconst (v := 0) S.1 S.2.1 d_X_isShape_32 (by decide) ?_
    exact cx_endZ S hr hlk (by first | rfl | (unfold sh_shape; rfl) | (unfold sh_shape; simp only [if_pos c_1]; done) | (unfold sh_shape; simp only [if_pos c_1]; rfl) | (unfold sh_shape; dsimp only; simp only [if_pos c_1]; done) | (unfold sh_shape; simp only [if_pos c_1]; done)) (Or.inl rfl) d_X_isShape_33
  · refine lv_iload_n S.1 S.2.1 d_X_isShape_9 rfl (lv_at hl 1 rfl) ?_
    refine lv_bipush (v := 16) S.1 S.2.1 d_X_isShape_10 (by decide) ?_
    refine cx_fn S (As := [.int i, .int 16]) (rest := []) (c_X_isBelow l i 16) tb_119 tb_117 tb_118 tb_1 hdf_X_isBelow rfl ⟨by omega, by omega⟩ hl.1 rfl (Nat.le_of_ble_eq_true rfl) d_X_isShape_12 ⟨Nat.zero_le _, Nat.zero_le _⟩ ?_
    refine lv_if_eq (tgt := 32) S.1 S.2.1 d_X_isShape_15 (by decide) (fun c_2 => ?_) (fun c_2 => ?_)
    · refine lv_iconst (v := 0) S.1 S.2.1 d_X_isShape_32 (by decide) ?_
      exact cx_endZ S hr hlk (by first | exact absurd c_2 c_1 | rfl | (unfold sh_shape; rfl) | (unfold sh_shape; simp only [if_neg c_1, if_pos c_2]; done) | (unfold sh_shape; simp only [if_neg c_1, if_pos c_2]; rfl) | (unfold sh_shape; dsimp only; simp only [if_neg c_1, if_pos c_2]; done) | (unfold sh_shape; simp only [if_neg c_1, if_pos c_2]; done)) (Or.inl rfl) d_X_isShape_33
    · refine lv_iconst (v := 1) S.1 S.2.1 d_X_isShape_18 (by decide) ?_
      refine lv_iload_n S.1 S.2.1 d_X_isShape_19 rfl (lv_at hl 0 rfl) ?_
      refine lv_iadd S.1 S.2.1 d_X_isShape_20 ?_
      refine lv_iload_n S.1 S.2.1 d_X_isShape_21 rfl (lv_at hl 1 rfl) ?_
      refine lv_iadd S.1 S.2.1 d_X_isShape_22 ?_
      refine lv_bipush (v := 16) S.1 S.2.1 d_X_isShape_23 (by decide) ?_
      refine lv_icmp_gt (tgt := 32) S.1 S.2.1 d_X_isShape_25 (by decide) (fun c_3 => ?_) (fun c_3 => ?_)
      · have c_3n := i32_nle c_3
        refine lv_iconst (v := 0) S.1 S.2.1 d_X_isShape_32 (by decide) ?_
        exact cx_endZ S hr hlk (by first | exact absurd c_3 c_1 | exact absurd c_3 c_2 | exact absurd c_3 c_3n | rfl | (unfold sh_shape; rfl) | (unfold sh_shape; simp only [if_neg c_1, if_neg c_2, if_pos c_3, if_neg c_3n]; done) | (unfold sh_shape; simp only [if_neg c_1, if_neg c_2, if_pos c_3, if_neg c_3n]; rfl) | (unfold sh_shape; dsimp only; simp only [if_neg c_1, if_neg c_2, if_pos c_3, if_neg c_3n]; done) | (unfold sh_shape; simp only [if_neg c_1, if_neg c_2, if_pos c_3, if_neg c_3n]; done)) (Or.inl rfl) d_X_isShape_33
      · have c_3n := i32_le c_3
        refine lv_iconst (v := 1) S.1 S.2.1 d_X_isShape_28 (by decide) ?_
        refine lv_goto (tgt := 33) S.1 S.2.1 d_X_isShape_29 (by decide) ?_
        exact cx_endZ S hr hlk (by first | exact absurd c_3n c_1 | exact absurd c_3n c_2 | exact absurd c_3n c_3 | rfl | (unfold sh_shape; rfl) | (unfold sh_shape; simp only [if_neg c_1, if_neg c_2, if_neg c_3, if_pos c_3n]; done) | (unfold sh_shape; simp only [if_neg c_1, if_neg c_2, if_neg c_3, if_pos c_3n]; rfl) | (unfold sh_shape; dsimp only; simp only [if_neg c_1, if_neg c_2, if_neg c_3, if_pos c_3n]; done) | (unfold sh_shape; simp only [if_neg c_1, if_neg c_2, if_neg c_3, if_pos c_3n]; done)) (Or.inr rfl) d_X_isShape_33
set_option maxHeartbeats 4000000 in
set_option maxRecDepth 100000 in
theorem c_X_slot (l : Launch) (i v : Int32) : cx_Fn l y_X_slot b_X_slot 3 (some .int) 0 0 [.int i, .int v] (sh_slot i v) := by
  refine cx_startF (by decide) (Nat.le_of_ble_eq_true rfl) ?_
  intro p e R s m args below meth c ls S hr hlk hfr hlc hl
  have hl : lv_has ls 3 [(0, .int i), (1, .int v)] := hl
  refine lv_iload_n S.1 S.2.1 d_X_slot_0 rfl (lv_at hl 1 rfl) ?_
  refine lv_if_ne (tgt := 8) S.1 S.2.1 d_X_slot_1 (by decide) (fun c_1 => ?_) (fun c_1 => ?_)
  · refine lv_iload_n S.1 S.2.1 d_X_slot_8 rfl (lv_at hl 1 rfl) ?_
    refine lv_iconst (v := 1) S.1 S.2.1 d_X_slot_9 (by decide) ?_
    refine lv_icmp_ne (tgt := 20) S.1 S.2.1 d_X_slot_10 (by decide) (fun c_2 => ?_) (fun c_2 => ?_)
    · refine lv_iload_n S.1 S.2.1 d_X_slot_20 rfl (lv_at hl 0 rfl) ?_
      refine lv_sipush (v := 225) S.1 S.2.1 d_X_slot_21 (by decide) ?_
      refine lv_idiv S.1 S.2.1 d_X_slot_24 (by decide) ?_
      refine lv_istore_n (lv' := [(2, .int (i / 225)), (0, .int i), (1, .int v)]) S.1 S.2.1 d_X_slot_25 rfl hl (by decide) rfl (fun ls hl => ?_)
      refine lv_iload_n S.1 S.2.1 d_X_slot_26 rfl (lv_at hl 0 rfl) ?_
      refine lv_bipush (v := 15) S.1 S.2.1 d_X_slot_27 (by decide) ?_
      refine lv_irem S.1 S.2.1 d_X_slot_29 (by decide) ?_
      exact cx_endI S hr hlk (by first | rfl | (unfold sh_slot; rfl) | (unfold sh_slot; simp only [if_neg c_1, if_neg c_2]; done) | (unfold sh_slot; simp only [if_neg c_1, if_neg c_2]; rfl) | (unfold sh_slot; dsimp only; simp only [if_neg c_1, if_neg c_2]; done) | (unfold sh_slot; simp only [if_neg c_1, if_neg c_2]; done)) d_X_slot_30
    · refine lv_iload_n S.1 S.2.1 d_X_slot_13 rfl (lv_at hl 0 rfl) ?_
      refine lv_bipush (v := 15) S.1 S.2.1 d_X_slot_14 (by decide) ?_
      refine lv_idiv S.1 S.2.1 d_X_slot_16 (by decide) ?_
      refine lv_goto (tgt := 25) S.1 S.2.1 d_X_slot_17 (by decide) ?_
      refine lv_istore_n (lv' := [(2, .int (i / 15)), (0, .int i), (1, .int v)]) S.1 S.2.1 d_X_slot_25 rfl hl (by decide) rfl (fun ls hl => ?_)
      refine lv_iload_n S.1 S.2.1 d_X_slot_26 rfl (lv_at hl 0 rfl) ?_
      refine lv_bipush (v := 15) S.1 S.2.1 d_X_slot_27 (by decide) ?_
      refine lv_irem S.1 S.2.1 d_X_slot_29 (by decide) ?_
      exact cx_endI S hr hlk (by first | exact absurd c_2 c_1 | rfl | (unfold sh_slot; rfl) | (unfold sh_slot; simp only [if_neg c_1, if_pos c_2]; done) | (unfold sh_slot; simp only [if_neg c_1, if_pos c_2]; rfl) | (unfold sh_slot; dsimp only; simp only [if_neg c_1, if_pos c_2]; done) | (unfold sh_slot; simp only [if_neg c_1, if_pos c_2]; done)) d_X_slot_30
  · refine lv_iload_n S.1 S.2.1 d_X_slot_4 rfl (lv_at hl 0 rfl) ?_
    refine lv_goto (tgt := 25) S.1 S.2.1 d_X_slot_5 (by decide) ?_
    refine lv_istore_n (lv' := [(2, .int i), (0, .int i), (1, .int v)]) S.1 S.2.1 d_X_slot_25 rfl hl (by decide) rfl (fun ls hl => ?_)
    refine lv_iload_n S.1 S.2.1 d_X_slot_26 rfl (lv_at hl 0 rfl) ?_
    refine lv_bipush (v := 15) S.1 S.2.1 d_X_slot_27 (by decide) ?_
    refine lv_irem S.1 S.2.1 d_X_slot_29 (by decide) ?_
    exact cx_endI S hr hlk (by first | rfl | (unfold sh_slot; rfl) | (unfold sh_slot; simp only [if_pos c_1]; done) | (unfold sh_slot; simp only [if_pos c_1]; rfl) | (unfold sh_slot; dsimp only; simp only [if_pos c_1]; done) | (unfold sh_slot; simp only [if_pos c_1]; done)) d_X_slot_30
