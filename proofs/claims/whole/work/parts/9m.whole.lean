/-! ===== THE LAW, from its entry ===== -/
theorem nx_of {s : State} {b : Nat} (hts : ∀ w ∈ lw_tbl, w.before #[Value.ref b] s = true) : nx s := by
  intro w hw
  simp only [nx_w, List.mem_cons, List.not_mem_nil, or_false] at hw
  rcases hw with rfl | rfl | rfl | rfl | rfl | rfl | rfl | rfl
  · exact va_Nw.of rfl (hts _ tn_42)
  · exact va_Nw.of rfl (hts _ tn_60)
  · exact va_Nw.of rfl (hts _ tn_64)
  · exact va_Nw.of rfl (hts _ tn_67)
  · exact va_Nw.of rfl (hts _ tn_69)
  · exact va_Nw.of rfl (hts _ tn_186)
  · exact va_Nw.of rfl (hts _ tn_181)
  · exact va_Nw.of rfl (hts _ tn_203)
abbrev rm_f0 : List Value := [.int 0, .int 0, .null, .null, .null, .null, .null, .null, .int 0, .null, .int 0, .null, .int 0, .int 0, .long 0, .null, .null, .int 0, .int 0, .int 0]
set_option maxHeartbeats 1000000 in
set_option maxRecDepth 100000 in
/-- YOUR PART: from the entry, for every script of at most 2050 ints, the law comes to its end with true -/
theorem whole_start {p : Program} {e : Env} {s : State} {m : MethodId} {below : List Frame} {meth : Method} {c : Code} (l : Launch) {b L : Nat} {xs : Nat → Int32} (hL : L ≤ 2050) (C0 : lw_At p s m meth c b L xs) : W p l e room_1 s m #[Value.ref b] below meth c s.heap [] 0 0 (lw_Z below #[Value.ref b] s) (entryFrame m ([Value.ref b] : List Value).toArray 4) := by
  obtain ⟨hx, hb, hr, hml, hown, hts, hX, hbl, hlocks, hgv⟩ := C0
  have hA : ∀ q : Nat, s.heap.size ≤ q → (fun q : Nat => s.heap.size ≤ q) q := fun _ h => h
  have hbA : ¬ (fun q : Nat => s.heap.size ≤ q) b := Nat.not_le.mpr hbl
  have htb : ∀ w ∈ bt, w.before #[Value.ref b] s = true := fun w h => hts w (List.mem_filter.mp h).1
  have hT1 : ∀ w ∈ (Cond.initialized "StepHeapLaw" :: bt), w.before #[Value.ref b] s = true := fun w h => (List.mem_cons.mp h).elim (fun e => by rw [e]; exact htb _ tb_0) (htb w)
  have S : CallFix p m c b_L_law 4 s #[Value.ref b] (Cond.initialized "StepHeapLaw" :: bt) "StepHeapLaw" := ⟨hx, hb, hml, hown, hT1⟩
  have up := fun {w : Cond} (h : w ∈ bt) => htb w h
  have hnx : nx s := nx_of hts
  have hAO : va_AO "StepHeap$Page" s := va_AO.of (hts _ tn_36)
  obtain ⟨c0, i0, hK0⟩ := u_known (C := "StepHeap") (T := TX) (N := 2) (n := 2) htb inX (up tb_9)
  obtain ⟨c1, i1, hK1⟩ := u_known (C := "StepHeap$Cells") (T := TC) (N := 5) (n := 5) htb inC (up tb_30)
  obtain ⟨c2, i2, hK2⟩ := u_known (C := "StepHeap$Mover") (T := TM) (N := 13) (n := 13) htb inM (up tb_24)
  obtain ⟨c3, i3, hK3⟩ := u_known (C := "StepHeap$Page") (T := TP) (N := 1) (n := 1) htb inP (up tb_180)
  obtain ⟨c4, i4, hK4⟩ := u_known (C := "StepHeapModel") (T := TR) (N := 20) (n := 20) htb inR (up tb_345)
  obtain ⟨D, hKc⟩ : ∃ D : va_G, ∀ (k : Nat) (q : vw_C), vwC[k]? = some q → u_Kn s q.1 q.2.1 q.2.2 (D.1 k) (D.2 k) := by
    refine ⟨(fun k => if k = 0 then c0 else if k = 1 then c1 else if k = 2 then c2 else if k = 3 then c3 else c4, fun k => if k = 0 then i0 else if k = 1 then i1 else if k = 2 then i2 else if k = 3 then i3 else i4), ?_⟩
    intro k q hq
    match k, hq with
    | 0, hq => cases hq; exact hK0
    | 1, hq => cases hq; exact hK1
    | 2, hq => cases hq; exact hK2
    | 3, hq => cases hq; exact hK3
    | 4, hq => cases hq; exact hK4
    | k + 5, hq => simp [vwC] at hq
  clear hK0 hK1 hK2 hK3 hK4
  have hS : va_S (fun q : Nat => s.heap.size ≤ q) s.heap s.heap [] := va_S.rf
  have hK : va_K D vwC [] s := ⟨hKc, fun k q h => by simp at h⟩
  have hP : va_P D vwC [] s.heap := fun k q h => by simp at h
  have hD : va_D (fun q : Nat => s.heap.size ≤ q) [] := ⟨fun i j p q h => by simp at h, fun k q h => by simp at h⟩
  have hl := lv_entry ([.ref b]) (n := 4) (Nat.le_of_ble_eq_true rfl)
  rw [lg_entry_eq]
  generalize (lg_sl ([.ref b]) ++ List.replicate (4 - (lg_sl ([.ref b])).length) Slot.unset).toArray = ls at hl ⊢
  have hl : lv_has ls 4 [(0, .ref b)] := hl
  obtain ⟨z, z1, z2, ez, ez2⟩ := h0_eq (lw_c L xs 0)
  obtain ⟨kk, k1, k2, ek, ek2⟩ := k0_eq (lw_c L xs 1)
  obtain ⟨la, hla⟩ : ∃ la, 2 * (2 * z + 64) = la := ⟨_, rfl⟩
  obtain ⟨np, hnp⟩ : ∃ np, np = la / 1024 + 1 := ⟨_, rfl⟩
  have hnp2 : np ≤ 235 := by omega
  refine va_new (D := D) (ci := 0) (fs := [.null, .null]) (C := "StepHeap") (T := TX) (N := 2) S.1 S.2.1 S.2.2.2.2 (fun w h => List.mem_cons_of_mem _ (inX w h)) tyX tyX_ok S.2.2.2.1 (up tb_8) (up tb_9) (up tb_1) hK hP hD hS hA rfl (fun j hj => by rcases (show j = 0 ∨ j = 1 by omega) with rfl | rfl <;> rfl) (Nat.le_of_ble_eq_true rfl) (Nat.le_of_ble_eq_true rfl) d_L_law_0 (fun q0 H hP hD hS => ?_)
  have hP : va_P D vwC [(q0, .inr (0, [.null, .null]))] H := hP
  have hD : va_D (fun q : Nat => s.heap.size ≤ q) [(q0, .inr (0, [.null, .null]))] := hD
  refine W.cs (cells' := 1) (slots' := 2) rfl rfl ?_
  refine lv_dup S.1 S.2.1 d_L_law_3 rfl ?_
  refine lv_aload_n S.1 S.2.1 d_L_law_4 rfl (lv_at hl 0 rfl) ?_
  refine lv_iconst (v := nI 0) S.1 S.2.1 d_L_law_5 (by decide) ?_
  refine lw_cell S hL hX hbl hbA hS 0 (by decide) ⟨Nat.le_of_ble_eq_true rfl, Nat.le_of_ble_eq_true rfl⟩ hl.1 rfl (Nat.le_of_ble_eq_true rfl) d_L_law_6 ⟨Nat.le_of_ble_eq_true rfl, Nat.le_of_ble_eq_true rfl⟩ ?_
  refine lv_aload_n S.1 S.2.1 d_L_law_9 rfl (lv_at hl 0 rfl) ?_
  refine lv_iconst (v := nI 1) S.1 S.2.1 d_L_law_10 (by decide) ?_
  refine lw_cell S hL hX hbl hbA hS 1 (by decide) ⟨Nat.le_of_ble_eq_true rfl, Nat.le_of_ble_eq_true rfl⟩ hl.1 rfl (Nat.le_of_ble_eq_true rfl) d_L_law_11 ⟨Nat.le_of_ble_eq_true rfl, Nat.le_of_ble_eq_true rfl⟩ ?_
  have hFc := va_free (wc := [(q0, .inr (0, [.null, .null]))]) hD hS hA [0] rfl
  have hk0 : ¬ sh_k0 (lw_c L xs 1) + 1 = 0 := by rw [ek, nI_1]; exact nI_ne0 (by omega) (by omega)
  refine va_callv (va_runI (As := [.int (lw_c L xs 0), .int (lw_c L xs 1)]) (rest := [.ref q0]) S (c_X_init l D q0 H.size z la np (lw_c L xs 0) (lw_c L xs 1) ez hk0 hla (by omega) hnp) (cwI 2 hT1 (bt_gi tb_12) rfl rfl rfl (up tb_1) (up tb_10) (up tb_11) rfl hd_X_init.2 ⟨Nat.le_of_ble_eq_true rfl, Nat.le_of_ble_eq_true rfl⟩) ⟨fun a U g mk z => by obtain ⟨q0, q1, qP, qK, qD, qA, qn⟩ := z; exact ⟨q0, q1, qP, va_K.moved (u := U) (U := U.calling g mk a) (Vm.Alike.refl U.vm) qK, qD, va_AO.moved (u := U) (U := U.calling g mk a) (Vm.Alike.refl U.vm) qA, nx.same (u := U) rfl qn⟩, fun U hU hW => ⟨rfl, by rw [hU], by rw [hU]; exact hP, va_K.moved hW.alike hK, hD.weaken (fun _ _ _ _ => trivial), va_AO.moved hW.alike hAO, nx.warm hW hnx⟩⟩ rfl rfl hl.1 rfl (lv_room (Nat.le_of_ble_eq_true rfl)) d_L_law_14 ⟨Nat.le_of_ble_eq_true rfl, by show 2 + (26 + np) ≤ 8824552; omega⟩) hS (fun q _ h => hFc q h) hFc (fun u t H1 locs ht hvm hw hB hz1 hk1 hS => ?_)
  obtain ⟨cI, cP, a⟩ := u
  obtain ⟨⟨hok, hP1, hD1⟩, hK1⟩ := hB
  rw [ht] at hP1
  have hKX : va_K D vwC (cx_tys cI cP) s := va_K.moved hvm.symm hK1
  have hw : aXX a = q0 := hw
  obtain ⟨hP, hD⟩ := va_join (wr := []) (w1 := cx_w cI cP a (sh_K0 z la (lw_c L xs 1)) np (sh_S0 z) []) hP hD [0] [] rfl rfl (by decide) (by decide) hk1 hFc hP1 hD1
  have hP : va_P D vwC (cx_w cI cP a (sh_K0 z la (lw_c L xs 1)) np (sh_S0 z) []) H1 := hP
  have hD : va_D (fun q : Nat => s.heap.size ≤ q) (cx_w cI cP a (sh_K0 z la (lw_c L xs 1)) np (sh_S0 z) []) := hD
  clear hP1 hD1 hz1 hk1 hFc ht hvm hK1
  refine W.eq (g2 := F0 m 17 ls [.ref q0]) rfl ?_
  refine W.cs (cells' := 5) (slots' := 28 + np) rfl (by omega) ?_
  rw [← hw]
  refine lv_astore_n (lv' := [(1, .ref (aXX a)), (0, .ref b)]) S.1 S.2.1 d_L_law_17 rfl hl (by decide) rfl (fun ls hl => ?_)
  refine va_new (D := D) (ci := 4) (fs := rm_f0) (C := "StepHeapModel") (T := TR) (N := 20) S.1 S.2.1 S.2.2.2.2 (fun w h => List.mem_cons_of_mem _ (inR w h)) tyR tyR_ok S.2.2.2.1 (up tb_344) (up tb_345) (up tb_5) hKX hP hD hS hA rfl (fun j hj => by rcases (show j = 0 ∨ j = 1 ∨ j = 2 ∨ j = 3 ∨ j = 4 ∨ j = 5 ∨ j = 6 ∨ j = 7 ∨ j = 8 ∨ j = 9 ∨ j = 10 ∨ j = 11 ∨ j = 12 ∨ j = 13 ∨ j = 14 ∨ j = 15 ∨ j = 16 ∨ j = 17 ∨ j = 18 ∨ j = 19 by omega) with rfl | rfl | rfl | rfl | rfl | rfl | rfl | rfl | rfl | rfl | rfl | rfl | rfl | rfl | rfl | rfl | rfl | rfl | rfl | rfl <;> rfl) (Nat.le_of_ble_eq_true rfl) (by show 28 + np + 20 ≤ 8824552; omega) d_L_law_18 (fun q1 H hP hD hS => ?_)
  refine W.cs (cells' := 6) (slots' := 48 + np) rfl (by omega) ?_
  refine lv_dup S.1 S.2.1 d_L_law_21 rfl ?_
  refine lv_aload_n S.1 S.2.1 d_L_law_22 rfl (lv_at hl 1 rfl) ?_
  refine lv_iconst (v := nI 0) S.1 S.2.1 d_L_law_23 (by decide) ?_
  refine lw_cell S hL hX hbl hbA hS 0 (by decide) ⟨Nat.le_of_ble_eq_true rfl, Nat.le_of_ble_eq_true rfl⟩ hl.1 rfl (Nat.le_of_ble_eq_true rfl) d_L_law_24 ⟨Nat.le_of_ble_eq_true rfl, by show 48 + np ≤ 8824552; omega⟩ ?_
  refine lv_aload_n S.1 S.2.1 d_L_law_27 rfl (lv_at hl 1 rfl) ?_
  refine lv_iconst (v := nI 1) S.1 S.2.1 d_L_law_28 (by decide) ?_
  refine lw_cell S hL hX hbl hbA hS 1 (by decide) ⟨Nat.le_of_ble_eq_true rfl, Nat.le_of_ble_eq_true rfl⟩ hl.1 rfl (Nat.le_of_ble_eq_true rfl) d_L_law_29 ⟨Nat.le_of_ble_eq_true rfl, by show 48 + np ≤ 8824552; omega⟩ ?_
  have hPc := hP.sub (ws' := [(q1, .inr (4, rm_f0))]) [5] rfl
  have hDc := hD.sub (ws' := [(q1, .inr (4, rm_f0))]) [5] (by decide) rfl
  have hFc := va_free (wc := [(q1, .inr (4, rm_f0))]) hD hS hA [5] rfl
  refine va_callv (va_runI (As := [.int (lw_c L xs 0), .int (lw_c L xs 1)]) (rest := [.ref q1]) S (c_R_init l D q1 H.size (lw_c L xs 0) (lw_c L xs 1)) (cwI 2 hT1 (bt_gi tb_348) rfl rfl rfl (up tb_5) (up tb_346) (up tb_347) rfl hd_R_init.2 ⟨Nat.le_of_ble_eq_true rfl, Nat.le_of_ble_eq_true rfl⟩) ⟨fun a U g mk z => by obtain ⟨q0, q1, qP, qK, qD⟩ := z; exact ⟨q0, q1, qP, va_K.moved (u := U) (U := U.calling g mk a) (Vm.Alike.refl U.vm) qK, qD⟩, fun U hU hW => ⟨rfl, by rw [hU], by rw [hU]; exact hPc, va_K.moved hW.alike hK, hDc.weaken (fun _ _ _ _ => trivial)⟩⟩ rfl rfl hl.1 rfl (lv_room (Nat.le_of_ble_eq_true rfl)) d_L_law_32 ⟨Nat.le_of_ble_eq_true rfl, by show 48 + np + 2881544 ≤ 8824552; omega⟩) hS (fun q _ h => hFc q h) hFc (fun u t H1 locs ht hvm hw2 hB hz1 hk1 hS => ?_)
  obtain ⟨cs, b2⟩ := u
  obtain ⟨hP1, hK1, hD1⟩ := hB
  rw [ht] at hP1
  have hKR : va_K D vwC (rx_tys cs) s := va_K.moved hvm.symm hK1
  have hw2 : bO b2 = q1 := hw2
  obtain ⟨hP, hD⟩ := va_join (wr := cx_w cI cP a (sh_K0 z la (lw_c L xs 1)) np (sh_S0 z) []) (w1 := rx_w cs b2 (rm_k0 (lw_c L xs 1)) (rm_h0 (lw_c L xs 0) * rm_k0 (lw_c L xs 1) / (rm_k0 (lw_c L xs 1) + 1)) rm_S0) hP hD [5] [0, 1, 2, 3, 4] rfl rfl (by decide) (by decide) hk1 hFc hP1 hD1
  clear hP1 hD1 hz1 hk1 hFc ht hvm hK1 hPc hDc
  refine W.eq (g2 := F0 m 35 ls [.ref q1]) rfl ?_
  refine W.cs (cells' := 16 + 2 * nal (sh_S0 z)) (slots' := (2881592 + np) + 1025 * nal (sh_S0 z)) rfl (by show _ = (2881592 + np) + 0; omega) ?_
  rw [← hw2]
  rw [ek2, ez2, lim_eq z2 k1 k2] at hP hD
  refine lv_astore_n (lv' := [(2, .ref (bO b2)), (1, .ref (aXX a)), (0, .ref b)]) S.1 S.2.1 d_L_law_35 rfl hl (by decide) rfl (fun ls hl => ?_)
  refine lv_iconst (v := nI 2) S.1 S.2.1 d_L_law_36 (by decide) ?_
  refine lv_istore_n (lv' := [(3, .int (nI 2)), (2, .ref (bO b2)), (1, .ref (aXX a)), (0, .ref b)]) S.1 S.2.1 d_L_law_37 rfl hl (by decide) rfl (fun ls hl => ?_)
  have C : lw_C p s m c b L xs (fun q => s.heap.size ≤ q) room_1 16 (2881592 + np) np := ⟨S, hX, hbl, hbA, hL, ⟨Nat.le_of_ble_eq_true rfl, Nat.le_of_ble_eq_true rfl⟩, by show 16 + 2 * np ≤ 92566; omega, by show 2881592 + np + 1025 * np ≤ 8824552; omega⟩
  exact lw_loop (κ := sh_K0 z la (lw_c L xs 1)) (h := z) (k := kk) C hr hlocks 600 2 0 (sh_S0 z) rm_S0 H1 locs ls (by omega) (by omega) (by omega) ⟨⟨[], hok, hP, hD⟩, hS, hKX, hKR, hnx, hA⟩ (jj_start z1 z2 k1 k2 ek hla) (lv_sub hl [3, 2, 1, 0] rfl)
