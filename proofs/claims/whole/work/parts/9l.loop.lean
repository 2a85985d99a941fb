def R_law : String := "StepHeapLaw"
def lw_P (b : Addr) (xs : List Int32) (args : Array Value) (s : State) : Prop := args = #[.ref b] ∧ s.IntsAt b xs ∧ xs.length ≤ 2050 ∧ (Jvm.Cond.and given_1 narrow_1).before args s = true
def lw_Q (_ : Array Value) (s : State) (o : Outcome) (t : State) : Prop := o = .returned (some (.int 1)) ∧ Framed s o t [] 92566 8824552
def lw_Z (below : List Frame) (a : Array Value) (s : State) : State → Prop := fun t => ∃ o, t.status = .running ∧ Ended t below o ∧ lw_Q a s o t
/-- the law's own end, with 1 on the stack, nothing written that was there before, its room as the claim has it -/
theorem lw_ret {p : Program} {l : Launch} {e : Env} {s : State} {m : MethodId} {below : List Frame} {meth : Method} {c : Code} {b : Nat} (hx : p.tables.exec = Jvm.exec) (hb : c.code = code) (hr : meth.sig.returnType = ret) (hlocks : meth.locks = false) {pc : Nat} {H : Heap} {ls : Array Slot} (hdg : decode code pc = .ok (.ireturn, 1)) : W p l e room_1 s m #[Value.ref b] below meth c H [] 92566 8824552 (lw_Z below #[Value.ref b] s) (F0 m pc ls [.int 1]) := by
  intro T hT X
  obtain ⟨fs, hret, hrun, hended, hW, hframe⟩ := X.leave (v := some (.int 1)) (hlocks := hlocks) (fun h => by rw [hr] at h; cases h)
  have hmeth' : T.vm.method? m = some meth := X.method'
  refine ⟨T.setFrames fs, ?_, .returned (some (.int 1)), hrun, hended, rfl, ⟨_, rfl⟩, hW, hframe⟩
  jvm_step X.here [X.here.top, hx, hb, hdg, hmeth', hr, ret, narrow_b1]
  (try refine ⟨rfl, ?_⟩); (try refine ⟨rfl, ?_⟩)
  first | (intro acts; rw [hret _ acts rfl rfl rfl]) | rw [hret _ _ rfl rfl rfl]
  exact Steps.refl _
/-- what holds at the law's entry: the machine, the code, the tables' words (any of lw_tbl by 'hts w (by decide +kernel)'), the script of L ints xs at the cell b, what the Statement gives of the start (any of its parts by flat_of_before) -/
def lw_At (p : Program) (s : State) (m : MethodId) (meth : Method) (c : Code) (b L : Nat) (xs : Nat → Int32) : Prop :=
  p.tables.exec = Jvm.exec ∧ c.code = code ∧ meth.sig.returnType = ret ∧ c.maxLocals = 4 ∧ s.vm.findClass R_law = some m.cls ∧ (∀ w ∈ lw_tbl, w.before #[Value.ref b] s = true) ∧ va_X b L xs s s.heap ∧ b < s.heap.size ∧ meth.locks = false ∧ (Jvm.Cond.and given_1 narrow_1).before #[Value.ref b] s = true
section LFIN
variable {p : Program} {l : Launch} {e : Env} {s : State} {m : MethodId} {below : List Frame} {meth : Method} {c : Code} {D : va_G} {cI cP : ClassId} {a : cx_a} {κ : sh_K} {np n0 m0 : Nat} {cs : rx_c} {b : rx_a} {sb L : Nat} {xs : Nat → Int32} {kI lI : Int32} {σ : sh_S} {ρ : rm_S} {H : Heap} {locs : List Loc} {ls : Array Slot}
theorem lw_fin (C : lw_C p s m c sb L xs (fun q => s.heap.size ≤ q) room_1 n0 m0 np) (hr : meth.sig.returnType = ret) (hlk : meth.locks = false) (hw : lw_Wd D cI cP a κ np cs b kI lI s (fun q => s.heap.size ≤ q) σ ρ H locs) :
    W p l e room_1 s m #[Value.ref sb] below meth c H locs (n0 + 2 * nal σ) (m0 + 1025 * nal σ) (lw_Z below #[Value.ref sb] s) (F0 m 724 ls []) := by
  obtain ⟨S, hX, hbl, hbA, hL, hR, hbud⟩ := C
  obtain ⟨⟨Lp, hok, -⟩, hS, -⟩ := hw
  have hle := cx_len hok
  have hbud : n0 + 2 * np ≤ 92566 ∧ m0 + 1025 * np ≤ 8824552 := hbud
  refine lv_iconst (v := 1) S.1 S.2.1 d_L_law_724 (by decide) ?_
  refine va_forget (fun q hq => hS.2.2 q hq) ?_
  refine W.widen (k := 92566) (n := 8824552) (by omega) (by omega) ?_
  exact lw_ret S.1 S.2.1 hr hlk d_L_law_725
end LFIN
/-! ===== THE LAW: its loop ===== -/
section LLOOP
variable {p : Program} {l : Launch} {e : Env} {s : State} {m : MethodId} {below : List Frame} {meth : Method} {c : Code} {D : va_G} {cI cP : ClassId} {a : cx_a} {κ : sh_K} {np n0 m0 : Nat} {cs : rx_c} {b : rx_a} {sb L h k : Nat} {xs : Nat → Int32}
set_option maxHeartbeats 400000 in
set_option maxRecDepth 100000 in
theorem lw_loop (C : lw_C p s m c sb L xs (fun q => s.heap.size ≤ q) room_1 n0 m0 np) (hr : meth.sig.returnType = ret) (hlk : meth.locks = false) :
    ∀ (n i N : Nat) (σ : sh_S) (ρ : rm_S) (H : Heap) (locs : List Loc) (ls : Array Slot), L ≤ i + 4 * n + 3 → i ≤ L + 4 → N + n < 90000 → lw_Wd D cI cP a κ np cs b (nI k) (nI (h * k / (k + 1))) s (fun q => s.heap.size ≤ q) σ ρ H locs → jj κ σ ρ h k N →
    lv_has ls 4 [(0, .ref sb), (1, .ref (aXX a)), (2, .ref (bO b)), (3, .int (nI i))] →
    W p l e room_1 s m #[Value.ref sb] below meth c H locs (n0 + 2 * nal σ) (m0 + 1025 * nal σ) (lw_Z below #[Value.ref sb] s) (F0 m 38 ls []) := by
  obtain ⟨S, hX, hbl, hbA, hL, hR, hbud⟩ := id C
  intro n
  induction n with
  | zero =>
    intro i N σ ρ H locs ls h1 h2 h3 hw jx hl
    refine lv_iload_n S.1 S.2.1 d_L_law_38 rfl (lv_at hl 3 rfl) ?_
    refine lv_aload_n S.1 S.2.1 d_L_law_39 rfl (lv_at hl 0 rfl) ?_
    refine va_slen S.1 S.2.1 hX hbl hbA hw.2.1 d_L_law_40 ?_
    refine lv_iconst (v := nI 4) S.1 S.2.1 d_L_law_41 (by decide) ?_
    refine lv_isub S.1 S.2.1 d_L_law_42 ?_
    refine lv_icmp_gt (tgt := 724) S.1 S.2.1 d_L_law_43 (by decide) (fun _ => ?_) (fun z => absurd ?_ z)
    · exact lw_fin C hr hlk hw
    · rw [Int32.lt_iff_toInt_lt, show (Int32.ofNat L - nI 4).toInt = (L : Int) - (4 : Nat) from pk_sub_toInt (by omega) (by decide), nI_toInt (by omega)]
      omega
  | succ n ih =>
    intro i N σ ρ H locs ls h1 h2 h3 hw jx hl
    refine lv_iload_n S.1 S.2.1 d_L_law_38 rfl (lv_at hl 3 rfl) ?_
    refine lv_aload_n S.1 S.2.1 d_L_law_39 rfl (lv_at hl 0 rfl) ?_
    refine va_slen S.1 S.2.1 hX hbl hbA hw.2.1 d_L_law_40 ?_
    refine lv_iconst (v := nI 4) S.1 S.2.1 d_L_law_41 (by decide) ?_
    refine lv_isub S.1 S.2.1 d_L_law_42 ?_
    refine lv_icmp_gt (tgt := 724) S.1 S.2.1 d_L_law_43 (by decide) (fun _ => lw_fin C hr hlk hw) (fun z => ?_)
    have hi : i + 4 ≤ L := by
      rw [Int32.lt_iff_toInt_lt, show (Int32.ofNat L - nI 4).toInt = (L : Int) - (4 : Nat) from pk_sub_toInt (by omega) (by decide), nI_toInt (by omega)] at z
      omega
    refine lv_aload_n S.1 S.2.1 d_L_law_46 rfl (lv_at hl 0 rfl) ?_
    refine lv_iload_n S.1 S.2.1 d_L_law_47 rfl (lv_at hl 3 rfl) ?_
    refine va_sld S.1 S.2.1 hX hbl hbA hw.2.1 (vp_in_nI (n := i) (by omega) (by omega)) d_L_law_48 ?_
    refine lv_bipush (v := 15) S.1 S.2.1 d_L_law_49 (by decide) ?_
    refine lv_iand S.1 S.2.1 d_L_law_51 ?_
    obtain ⟨j, hj, ej⟩ := pk_andE (xs (nI i).toNatClampNeg) (m := 15) 4 (by decide)
    rw [ej]
    clear ej
    have hN : N + 1 < 100000 := by omega
    have cont : ∀ (σ' : sh_S) (ρ' : rm_S) (H1 : Heap) (locs1 : List Loc), lw_Wd D cI cP a κ np cs b (nI k) (nI (h * k / (k + 1))) s (fun q => s.heap.size ≤ q) σ' ρ' H1 locs1 → jj κ σ' ρ' h k (N + 1) → W p l e room_1 s m #[Value.ref sb] below meth c H1 locs1 (n0 + 2 * nal σ') (m0 + 1025 * nal σ') (lw_Z below #[Value.ref sb] s) (F0 m 718 ls []) := by
      intro σ' ρ' H1 locs1 hw' jx'
      refine lv_iinc (v := nI (i + 4)) (lv' := [(3, .int (nI (i + 4))), (0, .ref sb), (1, .ref (aXX a)), (2, .ref (bO b))]) S.1 S.2.1 d_L_law_718 hl (k := 3) rfl (by rw [show Int32.ofInt 4 = nI 4 from rfl, nI_add]) (by decide) rfl (fun ls hl => ?_)
      refine lv_goto (tgt := 38) S.1 S.2.1 d_L_law_721 (by decide) ?_
      exact ih (i + 4) (N + 1) σ' ρ' H1 locs1 ls (by omega) (by omega) (by omega) hw' jx' (lv_sub hl [1, 2, 3, 0] rfl)
    have h16 : j = 0 ∨ j = 1 ∨ j = 2 ∨ j = 3 ∨ j = 4 ∨ j = 5 ∨ j = 6 ∨ j = 7 ∨ j = 8 ∨ j = 9 ∨ j = 10 ∨ j = 11 ∨ j = 12 ∨ j = 13 ∨ j = 14 ∨ j = 15 := by omega
    rcases h16 with rfl | rfl | rfl | rfl | rfl | rfl | rfl | rfl | rfl | rfl | rfl | rfl | rfl | rfl | rfl | rfl
    · refine lv_tableIn (off := 80) (tgt := 132) S.1 S.2.1 d_L_law_52 (by decide) (by decide) (by decide) (by decide) ?_
      exact lw_k0 C hw jx hN hl hi cont
    · refine lv_tableIn (off := 123) (tgt := 175) S.1 S.2.1 d_L_law_52 (by decide) (by decide) (by decide) (by decide) ?_
      exact lw_k1 C hw jx hN hl hi cont
    · refine lv_tableIn (off := 182) (tgt := 234) S.1 S.2.1 d_L_law_52 (by decide) (by decide) (by decide) (by decide) ?_
      exact lw_k2 C hw jx hN hl hi cont
    · refine lv_tableIn (off := 225) (tgt := 277) S.1 S.2.1 d_L_law_52 (by decide) (by decide) (by decide) (by decide) ?_
      exact lw_k3 C hw jx hN hl hi cont
    · refine lv_tableIn (off := 268) (tgt := 320) S.1 S.2.1 d_L_law_52 (by decide) (by decide) (by decide) (by decide) ?_
      exact lw_k4 C hw jx hN hl hi cont
    · refine lv_tableIn (off := 302) (tgt := 354) S.1 S.2.1 d_L_law_52 (by decide) (by decide) (by decide) (by decide) ?_
      exact lw_k5 C hw jx hN hl hi cont
    · refine lv_tableIn (off := 345) (tgt := 397) S.1 S.2.1 d_L_law_52 (by decide) (by decide) (by decide) (by decide) ?_
      exact lw_k6 C hw jx hN hl hi cont
    · refine lv_tableIn (off := 388) (tgt := 440) S.1 S.2.1 d_L_law_52 (by decide) (by decide) (by decide) (by decide) ?_
      exact lw_k7 C hw jx hN hl hi cont
    · refine lv_tableIn (off := 431) (tgt := 483) S.1 S.2.1 d_L_law_52 (by decide) (by decide) (by decide) (by decide) ?_
      exact lw_k8 C hw jx hN hl hi cont
    · refine lv_tableIn (off := 465) (tgt := 517) S.1 S.2.1 d_L_law_52 (by decide) (by decide) (by decide) (by decide) ?_
      exact lw_k9 C hw jx hN hl hi cont
    · refine lv_tableIn (off := 508) (tgt := 560) S.1 S.2.1 d_L_law_52 (by decide) (by decide) (by decide) (by decide) ?_
      exact lw_k10 C hw jx hN hl hi cont
    · refine lv_tableIn (off := 541) (tgt := 593) S.1 S.2.1 d_L_law_52 (by decide) (by decide) (by decide) (by decide) ?_
      exact lw_k11 C hw jx hN hl hi cont
    · refine lv_tableIn (off := 564) (tgt := 616) S.1 S.2.1 d_L_law_52 (by decide) (by decide) (by decide) (by decide) ?_
      exact lw_k12 C hw jx hN hl hi cont
    · refine lv_tableIn (off := 597) (tgt := 649) S.1 S.2.1 d_L_law_52 (by decide) (by decide) (by decide) (by decide) ?_
      exact lw_k13 C hw jx hN hl hi cont
    · refine lv_tableIn (off := 630) (tgt := 682) S.1 S.2.1 d_L_law_52 (by decide) (by decide) (by decide) (by decide) ?_
      exact lw_k14 C hw jx hN hl hi cont
    · refine lv_tableIn (off := 653) (tgt := 705) S.1 S.2.1 d_L_law_52 (by decide) (by decide) (by decide) (by decide) ?_
      exact lw_k15 C hw jx hN hl hi cont
end LLOOP
