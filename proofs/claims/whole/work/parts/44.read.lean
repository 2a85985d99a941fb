/-! ===== Cells.read, where the cell is in range ===== -/
theorem cx_num {κ : sh_K} {x : Int32} {la : Nat} (hl : kLast κ = nI la) (hb : la < 2 ^ 30) (h1 : ¬ x < 1) (h2 : x ≤ kLast κ) : ∃ n, x = nI n ∧ 1 ≤ n ∧ n ≤ la := by
  rw [Int32.lt_iff_toInt_lt, show (1 : Int32).toInt = 1 from rfl] at h1
  obtain ⟨n, hn, rfl⟩ := nI_of (x := x) (fun z => by rw [Int32.lt_iff_toInt_lt, Int32.toInt_zero] at z; omega)
  rw [nI_toInt hn] at h1
  rw [hl, nI_leI hn (by omega)] at h2
  exact ⟨n, rfl, by omega, h2⟩
theorem cx_pg_at {cI cP : ClassId} {a : cx_a} {κ : sh_K} {np : Nat} {σ : sh_S} {Lp : List (Nat × Nat × Nat)} {i q r : Nat} (h : (i, q, r) ∈ Lp) : (∃ k : Nat, (cx_w cI cP a κ np σ Lp)[k]? = some (q, .inr (3, [.ref r]))) ∧ ∃ k : Nat, (cx_w cI cP a κ np σ Lp)[k]? = some (r, .inl (cI, 1024, .inl (cx_row (sMem σ) i))) := by
  have h1 := cx_pl_in (cI := cI) (mem := sMem σ) h
  exact ⟨List.getElem?_of_mem (List.mem_cons_of_mem _ (List.mem_cons_of_mem _ (List.mem_cons_of_mem _ (List.mem_cons_of_mem _ (List.mem_cons_of_mem _ h1.1))))), List.getElem?_of_mem (List.mem_cons_of_mem _ (List.mem_cons_of_mem _ (List.mem_cons_of_mem _ (List.mem_cons_of_mem _ (List.mem_cons_of_mem _ h1.2)))))⟩
section CXRD
variable {p : Program} {l : Launch} {e : Env} {R : Room} {s : State} {m : MethodId} {args : Array Value} {below : List Frame} {meth : Method} {c : Code} {H : Heap} {locs : List Loc} {D : va_G} {cI cP : ClassId} {a : cx_a} {κ : sh_K} {np n0 : Nat} {A : Nat → Prop} {σ : sh_S} {ls : Array Slot} {c1 : Cond}
set_option maxHeartbeats 4000000 in
set_option maxRecDepth 100000 in
theorem cx_readTail (S : CallFix p m c b_C_read 3 s args (c1 :: bt) "StepHeap$Cells") (hr : meth.sig.returnType = some .int) (hlk : meth.locks = false) (hw : cx_Wd D cI cP a κ np s A n0 σ H locs) (hbud : 2 * (np - n0) ≤ R.cells ∧ 1025 * (np - n0) ≤ R.slots) {x : Int32} (h1 : ¬ x < 1) (h2 : x ≤ kLast κ) (hl : lv_has ls 3 [(0, .ref (aXC a)), (1, .int x)]) :
    W p l e R s m args below meth c H locs (2 * (nal σ - n0)) (1025 * (nal σ - n0)) (MQ below (sx_Q (some (.int (sMem σ x.toNatClampNeg))) (fun t => ∃ Lp', cx_St D cI cP a κ np σ Lp' A t.heap) A (2 * (nal σ - n0)) (1025 * (nal σ - n0))) args s R.cells R.slots A) (F0 m 27 ls [.int (x >>> ((10 : Int32) &&& 31)), .ref (aXP a)]) := by
  have hw0 := hw
  obtain ⟨⟨Lp, hok, hP, hD⟩, hS, hK, hnx, -⟩ := hw
  obtain ⟨e1, e2, e3, e4, ⟨la, e5, e6, e7⟩, e8⟩ := hok
  obtain ⟨n, rfl, g1, g2⟩ := cx_num e5 e6 h1 h2
  have hsh : nI n >>> ((10 : Int32) &&& 31) = nI (n / 1024) := pk_shrN (by omega) _ 10 (by decide)
  rw [hsh, nI_clamp (by omega)]
  refine va_aldq (D := D) S.1 S.2.1 hK hP 4 1 rfl rfl (vp_in_nI (by omega) (by omega)) d_C_read_27 ?_
  rw [nI_clamp (by omega)]
  cases hf : cx_pf Lp (n / 1024) with
  | none =>
    have hz := e4 n (by rw [← e1]; exact cx_pf_none hf)
    refine W.eq (g2 := F0 m 28 ls [.null]) rfl ?_
    refine lv_astore_nN (lv' := [(2, .null), (0, .ref (aXC a)), (1, .int (nI n))]) S.1 S.2.1 d_C_read_28 rfl hl (by decide) rfl (fun ls hl => ?_)
    refine lv_aload_nN S.1 S.2.1 d_C_read_29 rfl (lv_at hl 0 rfl) ?_
    refine lv_ifnonnullN S.1 S.2.1 d_C_read_30 ?_
    refine lv_iconst (v := 0) S.1 S.2.1 d_C_read_33 (by decide) ?_
    refine lv_goto (tgt := 47) S.1 S.2.1 d_C_read_34 (by decide) ?_
    exact cx_retI S hr hlk hw0 hbud (by rw [hz]) rfl d_C_read_47
  | some q =>
    obtain ⟨r, hm⟩ := cx_pf_some hf
    obtain ⟨⟨kq, hkq⟩, kr, hkr⟩ := cx_pg_at (cI := cI) (cP := cP) (a := a) (κ := κ) (np := np) (σ := σ) hm
    refine W.eq (g2 := F0 m 28 ls [.ref q]) rfl ?_
    refine lv_astore_n (lv' := [(2, .ref q), (0, .ref (aXC a)), (1, .int (nI n))]) S.1 S.2.1 d_C_read_28 rfl hl (by decide) rfl (fun ls hl => ?_)
    refine lv_aload_n S.1 S.2.1 d_C_read_29 rfl (lv_at hl 0 rfl) ?_
    refine lv_ifnonnull (tgt := 37) S.1 S.2.1 d_C_read_30 (by decide) ?_
    refine lv_aload_n S.1 S.2.1 d_C_read_37 rfl (lv_at hl 0 rfl) ?_
    refine va_getN (D := D) (ci := 3) (v := .ref r) (C := "StepHeap$Page") (T := TP) (N := 1) S.1 S.2.1 S.2.2.2.2 (fun w h => List.mem_cons_of_mem _ (inP w h)) S.2.2.2.1 hK hP kq hkq rfl 0 (by decide) (va_Nw.use rfl (hnx _ nxw_5)) (fun _ h9 => h9) rfl d_C_read_38 ?_
    refine lv_iload_n S.1 S.2.1 d_C_read_41 rfl (lv_at hl 2 rfl) ?_
    refine lv_sipush (v := 1023) S.1 S.2.1 d_C_read_42 (by decide) ?_
    refine lv_iand S.1 S.2.1 d_C_read_45 ?_
    rw [pk_andN (by omega) 10 (by decide)]
    refine va_iald (D := D) S.1 S.2.1 hK hP kr 0 hkr rfl (vp_in_nI (by omega) (by omega)) d_C_read_46 ?_
    rw [nI_clamp (by omega)]
    refine cx_retI S hr hlk hw0 hbud ?_ rfl d_C_read_47
    unfold cx_row
    rw [if_pos (by omega), show n / 1024 * 1024 + n % 2 ^ 10 = n by omega]
end CXRD
