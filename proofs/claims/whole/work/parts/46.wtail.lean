/-! ===== Cells.write: the page is looked up, made where it is wanting ===== -/
theorem cx_pl_push {cI : ClassId} {Lp : List (Nat × Nat × Nat)} {mem : Nat → Int32} {i q r : Nat} : cx_pl cI (Lp ++ [(i, q, r)]) mem = cx_pl cI Lp mem ++ [(q, .inr (3, [.ref r])), (r, .inl (cI, 1024, .inl (cx_row mem i)))] := by
  unfold cx_pl
  rw [List.flatMap_append]
  rfl
theorem cx_mapid1 : ∀ l : List Nat, (l.map (fun i => ((i, 0, i) : Nat × Nat × Nat))).map (fun t => t.1) = l
  | [] => rfl
  | x :: l => by rw [List.map_cons, List.map_cons, cx_mapid1 l]
theorem cx_mapid3 : ∀ l : List Nat, (l.map (fun i => ((i, 0, i) : Nat × Nat × Nat))).map (fun t => t.2.2) = l
  | [] => rfl
  | x :: l => by rw [List.map_cons, List.map_cons, cx_mapid3 l]
section CXWT
variable {p : Program} {l : Launch} {e : Env} {R : Room} {s : State} {m : MethodId} {args : Array Value} {below : List Frame} {meth : Method} {c : Code} {H : Heap} {locs : List Loc} {D : va_G} {cI cP : ClassId} {a : cx_a} {κ : sh_K} {np n0 : Nat} {A : Nat → Prop} {σ : sh_S} {ls : Array Slot} {c1 : Cond}
set_option maxHeartbeats 4000000 in
set_option maxRecDepth 100000 in
theorem cx_writeTail (S : CallFix p m c b_C_write 4 s args (c1 :: bt) "StepHeap$Cells") (hr : meth.sig.returnType = none) (hlk : meth.locks = false) (hfr : 2 ≤ R.frames) (hlc : 32 ≤ R.locals) (hw : cx_Wd D cI cP a κ np s A n0 σ H locs) (hbud : 2 * (np - n0) ≤ R.cells ∧ 1025 * (np - n0) ≤ R.slots)
    {x v : Int32} (h1 : ¬ x < 1) (h2 : x ≤ kLast κ) (hl : lv_has ls 4 [(0, .ref (aXC a)), (1, .int x), (2, .int v)]) {σ' : sh_S} (hs : σ' = uC σ (σ.1.1, σ.1.2.1, upd σ.1.2.2.1 x.toNatClampNeg v, sh_pg σ.1.2.2.2 (x.toNatClampNeg / 1024))) :
    W p l e R s m args below meth c H locs (2 * (nal σ - n0)) (1025 * (nal σ - n0)) (MQ below (sx_Q none (fun t => ∃ Lp', cx_St D cI cP a κ np σ' Lp' A t.heap) A (2 * (nal σ' - n0)) (1025 * (nal σ' - n0))) args s R.cells R.slots A) (F0 m 26 ls [.int (x >>> ((10 : Int32) &&& 31)), .ref (aXP a)]) := by
  have hle := hw.le
  obtain ⟨⟨Lp, hok, hP, hD⟩, hS, hK, hnx, h0, hA⟩ := hw
  have up := fun {w : Cond} (h : w ∈ bt) => S.2.2.2.2 w (List.mem_cons_of_mem _ h)
  obtain ⟨e1, e2, e3, e4, ⟨la, e5, e6, e7⟩, e8⟩ := id hok
  obtain ⟨n, rfl, g1, g2⟩ := cx_num e5 e6 h1 h2
  have hsh : nI n >>> ((10 : Int32) &&& 31) = nI (n / 1024) := pk_shrN (by omega) _ 10 (by decide)
  rw [nI_clamp (by omega)] at hs
  rw [hsh]
  refine va_aldq (D := D) S.1 S.2.1 hK hP 4 1 rfl rfl (vp_in_nI (by omega) (by omega)) d_C_write_26 ?_
  rw [nI_clamp (by omega)]
  cases hf : cx_pf Lp (n / 1024) with
  | some q =>
    obtain ⟨r, hm⟩ := cx_pf_some hf
    refine W.eq (g2 := F0 m 27 ls [.ref q]) rfl ?_
    refine lv_astore_n (lv' := [(3, .ref q), (0, .ref (aXC a)), (1, .int (nI n)), (2, .int v)]) S.1 S.2.1 d_C_write_27 rfl hl (by decide) rfl (fun ls hl => ?_)
    refine lv_aload_n S.1 S.2.1 d_C_write_28 rfl (lv_at hl 0 rfl) ?_
    refine lv_ifnonnull (tgt := 50) S.1 S.2.1 d_C_write_29 (by decide) ?_
    refine cx_writeEnd S hr hlk hok hP hD hS hK hnx h0 hA hbud (by omega) hm hl ?_
    rw [hs]
    have hin : n / 1024 ∈ sPgs σ := by rw [← e1]; exact List.mem_map.mpr ⟨_, hm, rfl⟩
    unfold sh_pg
    rw [if_pos hin]
  | none =>
    have hni : n / 1024 ∉ sPgs σ := by rw [← e1]; exact cx_pf_none hf
    have hnd : (sPgs σ ++ [n / 1024]).Nodup := by
      rw [List.nodup_append]
      exact ⟨e2, by simp, fun y hy z hz w => by rw [List.mem_singleton] at hz; subst hz; subst w; exact hni hy⟩
    have hbd : ∀ i, i ∈ sPgs σ ++ [n / 1024] → i < np := fun i hi => by
      rcases List.mem_append.mp hi with h | h
      · exact e3 i h
      · rw [List.mem_singleton] at h; omega
    have hlen : nal σ + 1 ≤ np := by
      have := cx_len (κ := κ) (np := np) (σ := ((0, 0, (fun _ => 0), sPgs σ ++ [n / 1024]), σ.2)) (Lp := (sPgs σ ++ [n / 1024]).map (fun i => (i, 0, i))) ⟨cx_mapid1 _, hnd, hbd, fun _ _ => rfl, ⟨la, e5, e6, e7⟩, by rw [cx_mapid3]; exact hnd⟩
      have e9 : nal ((0, 0, (fun _ => 0), sPgs σ ++ [n / 1024]), σ.2) = nal σ + 1 := by
        show (sPgs σ ++ [n / 1024]).length = _
        rw [List.length_append]; rfl
      omega
    refine W.eq (g2 := F0 m 27 ls [.null]) rfl ?_
    refine lv_astore_nN (lv' := [(3, .null), (0, .ref (aXC a)), (1, .int (nI n)), (2, .int v)]) S.1 S.2.1 d_C_write_27 rfl hl (by decide) rfl (fun ls hl => ?_)
    refine lv_aload_nN S.1 S.2.1 d_C_write_28 rfl (lv_at hl 0 rfl) ?_
    refine lv_ifnonnullN S.1 S.2.1 d_C_write_29 ?_
    refine va_new (D := D) (ci := 3) (fs := [.null]) (C := "StepHeap$Page") (T := TP) (N := 1) S.1 S.2.1 S.2.2.2.2 (fun w h => List.mem_cons_of_mem _ (inP w h)) tyP tyP_ok S.2.2.2.1 (up tb_35) (up tb_180) (up tb_7) hK hP hD hS hA rfl (fun j hj => by rcases (show j = 0 by omega) with rfl; rfl) (by omega) (by omega) d_C_write_32 (fun q H1 hP1 hD1 hS1 => ?_)
    refine lv_dup S.1 S.2.1 d_C_write_35 rfl ?_
    have hq1 : (cx_w cI cP a κ np σ Lp ++ [(q, .inr (3, [.null]))])[(cx_w cI cP a κ np σ Lp).length]? = some (q, .inr (3, [.null])) := by simp
    have hPc : va_P D vwC [(q, .inr (3, [.null]))] H1 := by
      intro k x hk
      cases k with
      | zero => cases hk; exact hP1 _ _ hq1
      | succ k => simp at hk
    have hDc : va_D (fun _ => True) [(q, (.inr (3, [.null]) : va_E))] := ⟨fun i j x y hi hj _ => by
      have := (List.getElem?_eq_some_iff.mp hi).1
      have := (List.getElem?_eq_some_iff.mp hj).1
      simp at *
      omega, fun _ _ _ => trivial⟩
    have hFc : ∀ z, va_A [(q, (.inr (3, [.null]) : va_E))] H1.size z → A z := by
      rintro z (⟨k, e, h⟩ | h)
      · cases k with
        | zero => cases h; exact hD1.2 _ _ hq1
        | succ k => simp at h
      · exact hA z (Nat.le_trans hS1.1 h)
    refine va_callv (va_runIN (As := []) (rest := [.ref q]) S (c_P_init l D cI q H1.size) ⟨va_cnB (ws' := bt) 0 S.2.2.2.2 (bt_gi tb_183) rfl rfl rfl (hnx _ nxw_6) (up tb_7) ⟨hd_P_init.2.1, hd_P_init.2.2.1, hd_P_init.2.2.2⟩ ⟨by omega, by omega⟩, rfl, up tb_182⟩
      ⟨fun a U g mk z => by obtain ⟨q0, q1, qP, qK, qD⟩ := z; exact ⟨q0, q1, qP, va_K.moved (u := U) (U := U.calling g mk a) (Vm.Alike.refl U.vm) qK, qD⟩, fun U hU hW => ⟨rfl, by rw [hU], by rw [hU]; exact hPc, va_K.moved hW.alike (hK.sub [0] rfl), hDc⟩⟩ rfl rfl hl.1 rfl (lv_room (Nat.le_of_ble_eq_true rfl)) d_C_write_36 ⟨by omega, by omega⟩) hS1 (fun z _ h => hFc z h) hFc (fun u t H2 locs2 ht hvm hw hB hz hk1 hS2 => ?_)
    obtain ⟨r, hP2, hD2⟩ := hB
    rw [ht] at hP2
    obtain ⟨hP3, hD3⟩ := cx_joinLast hP1 hD1 hk1 hFc hP2 hD2
    refine W.eq (g2 := F0 m 39 ls [.ref q]) rfl ?_
    refine lv_astore_n (lv' := [(3, .ref q), (0, .ref (aXC a)), (1, .int (nI n)), (2, .int v)]) S.1 S.2.1 d_C_write_39 rfl hl (by decide) rfl (fun ls hl => ?_)
    refine lv_aload_n S.1 S.2.1 d_C_write_40 rfl (lv_at hl 1 rfl) ?_
    refine va_get (D := D) (ci := 1) (v := .ref (aXP a)) (C := "StepHeap$Cells") (T := TC) (N := 5) S.1 S.2.1 S.2.2.2.2 (fun w h => List.mem_cons_of_mem _ (inC w h)) S.2.2.2.1 hK hP3 1 rfl rfl 0 (by decide) (up tb_37) (fun _ h9 => h9) rfl d_C_write_41 ?_
    refine lv_iload_n S.1 S.2.1 d_C_write_44 rfl (lv_at hl 2 rfl) ?_
    refine lv_bipush (v := 10) S.1 S.2.1 d_C_write_45 (by decide) ?_
    refine lv_ishr S.1 S.2.1 d_C_write_47 ?_
    refine lv_aload_n S.1 S.2.1 d_C_write_48 rfl (lv_at hl 0 rfl) ?_
    rw [hsh]
    have hq3 : (cx_w cI cP a κ np σ Lp ++ [(q, .inr (3, [.ref r])), (r, .inl (cI, 1024, .inl (fun _ => 0)))])[(cx_w cI cP a κ np σ Lp).length]? = some (q, .inr (3, [.ref r])) := by simp
    refine va_astq (D := D) (r := ("StepHeap$Page", TP, 1)) S.1 S.2.1 hK hP3 hD3 hS2 4 1 _ 3 rfl rfl hq3 rfl (vp_in_nI (by omega) (by omega)) d_C_write_49 (fun H3 locs3 hP4 hD4 hS4 => ?_)
    rw [nI_clamp (by omega)] at hP4 hD4
    have hrow : cx_row (sMem σ) (n / 1024) = fun _ => 0 := by
      funext j
      unfold cx_row
      by_cases hj : j < 1024
      · rw [if_pos hj]; exact e4 _ (by rw [show (n / 1024 * 1024 + j) / 1024 = n / 1024 by omega]; exact hni)
      · rw [if_neg hj]
    have heq : (cx_w cI cP a κ np σ Lp ++ ([(q, .inr (3, [.ref r])), (r, .inl (cI, 1024, .inl (fun _ => 0)))] : va_W)).set 4 (aXP a, .inl (cP, np, .inr (.inr (.inr (.inr (va_up (cx_pf Lp) (n / 1024) (some q))))))) = cx_w cI cP a κ np (uC σ (σ.1.1, σ.1.2.1, σ.1.2.2.1, σ.1.2.2.2 ++ [n / 1024])) (Lp ++ [(n / 1024, q, r)]) := by
      rw [cx_pf_push (r := r) (cx_pf_none hf), ← hrow]
      show _ = _ :: _ :: _ :: _ :: _ :: cx_pl cI (Lp ++ [(n / 1024, q, r)]) (sMem σ)
      rw [cx_pl_push]
      rfl
    rw [heq] at hP4 hD4
    have hfresh : r ∉ Lp.map (fun t => t.2.2) := by
      intro z
      obtain ⟨t, ht1, ht2⟩ := List.mem_map.mp z
      obtain ⟨kr, hkr⟩ := (cx_pg_at (cI := cI) (cP := cP) (a := a) (κ := κ) (np := np) (σ := σ) (i := t.1) (q := t.2.1) (r := t.2.2) ht1).2
      have hlt := (List.getElem?_eq_some_iff.mp hkr).1
      have h5 : (cx_w cI cP a κ np σ Lp ++ [(q, .inr (3, [.ref r])), (r, .inl (cI, 1024, .inl (fun _ => 0)))])[kr]? = some (t.2.2, .inl (cI, 1024, .inl (cx_row (sMem σ) t.1))) := by rw [List.getElem?_append_left hlt]; exact hkr
      have h6 : (cx_w cI cP a κ np σ Lp ++ [(q, .inr (3, [.ref r])), (r, .inl (cI, 1024, .inl (fun _ => 0)))])[(cx_w cI cP a κ np σ Lp).length + 1]? = some (r, .inl (cI, 1024, .inl (fun _ => 0))) := by rw [List.getElem?_append_right (by omega)]; simp
      have := hD3.1 _ _ _ _ h5 h6 ht2
      omega
    have hok1 : cx_ok κ np (uC σ (σ.1.1, σ.1.2.1, σ.1.2.2.1, σ.1.2.2.2 ++ [n / 1024])) (Lp ++ [(n / 1024, q, r)]) := by
      refine ⟨by rw [List.map_append, e1]; rfl, hnd, hbd, fun j hj => e4 j (fun z => hj (List.mem_append_left _ z)), ⟨la, e5, e6, e7⟩, ?_⟩
      rw [List.map_append, List.nodup_append]
      exact ⟨e8, by simp, fun y hy z hz w => by
        have hz : z = r := by simpa using hz
        subst hz; subst w; exact hfresh hy⟩
    have hnal : nal (uC σ (σ.1.1, σ.1.2.1, σ.1.2.2.1, σ.1.2.2.2 ++ [n / 1024])) = nal σ + 1 := by
      show (sPgs σ ++ [n / 1024]).length = _
      rw [List.length_append]; rfl
    refine W.cs (cells' := 2 * (nal (uC σ (σ.1.1, σ.1.2.1, σ.1.2.2.1, σ.1.2.2.2 ++ [n / 1024])) - n0)) (slots' := 1025 * (nal (uC σ (σ.1.1, σ.1.2.1, σ.1.2.2.1, σ.1.2.2.2 ++ [n / 1024])) - n0)) (by rw [hnal]; omega) (by rw [hnal]; omega) ?_
    refine cx_writeEnd S hr hlk hok1 hP4 hD4 hS4 hK hnx (by rw [hnal]; omega) hA hbud (by omega) (q := q) (r := r) (by simp) hl ?_
    rw [hs]
    unfold sh_pg
    rw [if_neg hni]
end CXWT
