/-! ===== Cells.write, where the cell is in range ===== -/
theorem cx_nodup_inj1 {Lp : List (Nat × Nat × Nat)} (h : (Lp.map (fun t => t.1)).Nodup) {t t' : Nat × Nat × Nat} (h1 : t ∈ Lp) (h2 : t' ∈ Lp) (e : t.1 = t'.1) : t = t' := by
  induction Lp with
  | nil => cases h1
  | cons x l ih =>
    rw [List.map_cons, List.nodup_cons] at h
    rcases List.mem_cons.mp h1 with h1 | h1
    · rcases List.mem_cons.mp h2 with h2 | h2
      · rw [h1, h2]
      · exact absurd (List.mem_map.mpr ⟨t', h2, by rw [← e, h1]⟩) h.1
    · rcases List.mem_cons.mp h2 with h2 | h2
      · exact absurd (List.mem_map.mpr ⟨t, h1, by rw [e, h2]⟩) h.1
      · exact ih h.2 h1 h2
/-- a world whose last cell a callee has taken and given back with more -/
theorem cx_joinLast {A0 : Nat → Prop} {D : va_G} {cl : List vw_C} {ws w1 : va_W} {x : Nat × va_E} {H H1 : Heap} (hP : va_P D cl (ws ++ [x]) H) (hD : va_D A0 (ws ++ [x])) (hk : ∀ q : Nat, q < H.size → ¬ va_A [x] H.size q → H1[q]? = H[q]?) (hF : ∀ q, va_A [x] H.size q → A0 q) (hP1 : va_P D cl w1 H1) (hD1 : va_D (va_A [x] H.size) w1) : va_P D cl (ws ++ w1) H1 ∧ va_D A0 (ws ++ w1) := by
  have at' : ∀ (k : Nat) (q : Nat × va_E), ws[k]? = some q → (ws ++ [x])[k]? = some q := fun k q h => by
    rw [List.getElem?_append_left (List.getElem?_eq_some_iff.mp h).1]; exact h
  have last : (ws ++ [x])[ws.length]? = some x := by simp
  have apart : ∀ (k : Nat) (q : Nat × va_E), ws[k]? = some q → q.1 < H.size ∧ ¬ va_A [x] H.size q.1 := by
    intro k q hq
    have hl := (hP k q (at' k q hq)).lt
    refine ⟨hl, fun h => ?_⟩
    rcases h with ⟨k2, e, h⟩ | h
    · cases k2 with
      | zero =>
        have hx : x = (q.1, e) := Option.some.inj h
        have := hD.1 k ws.length q x (at' k q hq) last (by rw [hx])
        have h2 := (List.getElem?_eq_some_iff.mp hq).1
        omega
      | succ k2 => simp at h
    · omega
  refine ⟨va_P.app (fun k q hq => (hP k q (at' k q hq)).kept (hk q.1 (apart k q hq).1 (apart k q hq).2)) hP1, va_D.app ⟨fun i j p q hi hj => hD.1 i j p q (at' i p hi) (at' j q hj), fun k q hq => hD.2 k q (at' k q hq)⟩ (hD1.weaken (fun k q _ h => hF q.1 h)) (fun i j p q hp hq hpq => (apart i p hp).2 (by rw [hpq]; exact hD1.2 j q hq))⟩
section CXWR
variable {p : Program} {l : Launch} {e : Env} {R : Room} {s : State} {m : MethodId} {args : Array Value} {below : List Frame} {meth : Method} {c : Code} {H : Heap} {locs : List Loc} {D : va_G} {cI cP : ClassId} {a : cx_a} {κ : sh_K} {np n0 : Nat} {A : Nat → Prop} {σ : sh_S} {ls : Array Slot} {c1 : Cond}
set_option maxHeartbeats 4000000 in
set_option maxRecDepth 100000 in
theorem cx_writeEnd (S : CallFix p m c b_C_write 4 s args (c1 :: bt) "StepHeap$Cells") (hr : meth.sig.returnType = none) (hlk : meth.locks = false) {Lp : List (Nat × Nat × Nat)} (hok : cx_ok κ np σ Lp) (hP : va_P D vwC (cx_w cI cP a κ np σ Lp) H) (hD : va_D A (cx_w cI cP a κ np σ Lp)) (hS : va_S A s.heap H locs) (hK : va_K D vwC (cx_tys cI cP) s) (hnx : nx s) (h0 : n0 ≤ nal σ) (hA : ∀ q, s.heap.size ≤ q → A q) (hbud : 2 * (np - n0) ≤ R.cells ∧ 1025 * (np - n0) ≤ R.slots)
    {n q r : Nat} {v : Int32} (hn : n < 2 ^ 30) (hm : (n / 1024, q, r) ∈ Lp) (hl : lv_has ls 4 [(3, .ref q), (0, .ref (aXC a)), (1, .int (nI n)), (2, .int v)]) {σ' : sh_S} (hs : σ' = uC σ (σ.1.1, σ.1.2.1, upd σ.1.2.2.1 n v, σ.1.2.2.2)) :
    W p l e R s m args below meth c H locs (2 * (nal σ - n0)) (1025 * (nal σ - n0)) (MQ below (sx_Q none (fun t => ∃ Lp', cx_St D cI cP a κ np σ' Lp' A t.heap) A (2 * (nal σ' - n0)) (1025 * (nal σ' - n0))) args s R.cells R.slots A) (F0 m 50 ls []) := by
  obtain ⟨⟨kq, hkq⟩, kr, hkr⟩ := cx_pg_at (cI := cI) (cP := cP) (a := a) (κ := κ) (np := np) (σ := σ) hm
  obtain ⟨e1, e2, e3, e4, e5, e8⟩ := hok
  refine lv_aload_n S.1 S.2.1 d_C_write_50 rfl (lv_at hl 0 rfl) ?_
  refine va_getN (D := D) (ci := 3) (v := .ref r) (C := "StepHeap$Page") (T := TP) (N := 1) S.1 S.2.1 S.2.2.2.2 (fun w h => List.mem_cons_of_mem _ (inP w h)) S.2.2.2.1 hK hP kq hkq rfl 0 (by decide) (va_Nw.use rfl (hnx _ nxw_5)) (fun _ h9 => h9) rfl d_C_write_51 ?_
  refine lv_iload_n S.1 S.2.1 d_C_write_54 rfl (lv_at hl 2 rfl) ?_
  refine lv_sipush (v := 1023) S.1 S.2.1 d_C_write_55 (by decide) ?_
  refine lv_iand S.1 S.2.1 d_C_write_58 ?_
  rw [pk_andN (by omega) 10 (by decide)]
  refine lv_iload_n S.1 S.2.1 d_C_write_59 rfl (lv_at hl 3 rfl) ?_
  refine va_iast (D := D) S.1 S.2.1 hK hP hD hS kr 0 hkr rfl (vp_in_nI (by omega) (by omega)) d_C_write_60 (fun H locs hP hD1 hS => ?_)
  rw [nI_clamp (by omega)] at hP hD1
  have apart : ∀ (j : Nat) (x : Nat × va_E), (cx_w cI cP a κ np σ Lp)[j]? = some x → x.2 ≠ .inl (cI, 1024, .inl (cx_row (sMem σ) (n / 1024))) → x.1 ≠ r := by
    intro j x hj hne z
    have := hD.1 j kr x _ hj hkr z
    subst this
    rw [hj] at hkr
    exact hne (congrArg Prod.snd (Option.some.inj hkr))
  have heq : (cx_w cI cP a κ np σ Lp).set kr (r, .inl (cI, 1024, .inl (upd (cx_row (sMem σ) (n / 1024)) (n % 2 ^ 10) v))) = cx_w cI cP a κ np σ' Lp := by
    rw [cx_setmap hD hkr, hs]
    have a0 := apart 0 _ rfl (by simp)
    have a1 := apart 1 _ rfl (by simp)
    have a2 := apart 2 _ rfl (by simp)
    have a3 := apart 3 _ rfl (by
      intro z
      have := congrArg (fun e : va_E => match e with | .inl w => w.2.1 | .inr _ => 0) z
      simp at this)
    have a4 := apart 4 _ rfl (by
      intro z
      have := congrArg (fun e : va_E => match e with | .inl (_, _, .inl _) => true | _ => false) z
      simp at this)
    have hpl := cx_pl_map (cI := cI) (mem := sMem σ) (v := v) hm e8 (fun t ht => by
      obtain ⟨k1, hk1⟩ := (cx_pg_at (cI := cI) (cP := cP) (a := a) (κ := κ) (np := np) (σ := σ) (i := t.1) (q := t.2.1) (r := t.2.2) ht).1
      exact apart k1 _ hk1 (by simp)) (fun t ht hi => by
      have := cx_nodup_inj1 (by rw [e1]; exact e2) ht hm hi
      rw [this])
    simp only [List.map_cons]
    rw [if_neg a0, if_neg a1, if_neg a2, if_neg a3, if_neg a4]
    rw [hpl]
  rw [heq] at hP hD1
  have hin : n / 1024 ∈ sPgs σ := by rw [← e1]; exact List.mem_map.mpr ⟨_, hm, rfl⟩
  have hok' : cx_ok κ np σ' Lp := by
    rw [hs]
    refine ⟨e1, e2, e3, fun j hj => ?_, e5, e8⟩
    show upd (sMem σ) n v j = 0
    rw [pk_un (fun z => hj (by rw [z]; exact hin))]
    exact e4 j hj
  have hnal : nal σ' = nal σ := by rw [hs]
  refine W.cs (cells' := 2 * (nal σ' - n0)) (slots' := 1025 * (nal σ' - n0)) (by rw [hnal]) (by rw [hnal]) ?_
  exact cx_retV S hr hlk ⟨⟨Lp, hok', hP, hD1⟩, hS, hK, hnx, by rw [hnal]; exact h0, hA⟩ hbud rfl rfl d_C_write_61
end CXWR
