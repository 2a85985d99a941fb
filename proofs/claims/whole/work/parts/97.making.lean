/-! ===== A NEW THING, A NEW CYCLE, HEADS, WAYS: with words and touches ===== -/
theorem tc_place {κ : sh_K} {σ : sh_S} {hf k base ob free low scan tend nh made beg al t : Nat} {α : ab_A} {ad od : Nat → Nat} {Mv Mk Sn : List Nat} {brf : Nat → Nat → Nat} (k1 : kHalf κ = nI hf) (k2 : kLast κ = nI (2 * hf)) (k3 : kK κ = nI k) (hk : k ≤ 64)
    (N : gc_N σ base free low scan tend nh made beg) (I : gc_I (sMem σ) hf base ob free low scan tend nh α ad od Mv Mk Sn brf) (hm : made = gc_sum (aC α) Mk)
    {o : Nat} {h : Int32} (f0 : o ≠ 0) (f1 : o ∉ Sn) (f2 : o ∉ Mk) (hok : gc_ok h) (hr : gc_sum (aC α) Sn + gc_sum (aC α) Mk + hC h ≤ hf) (hT : tc κ al σ.1 t) (hb : t + 16 + 560 * k ≤ al) :
    ∃ t', t' ≤ t + 16 + 560 * k ∧ tc κ al (sh_place κ σ h).2.1 t' := by
  obtain ⟨hl, I1⟩ := gc_place0 I f0 f1 f2 hok hr
  have F := gc_free_le I
  obtain ⟨h1, h2, -⟩ := I.1
  obtain ⟨a1, a2, a3, a4, a5, a6, a7, a8⟩ := id N
  have hC0 := hC_big h
  have hC16 := hok.2
  have eq : sh_place κ σ h = (sLow (sh_work κ (uMade (uC (uLow σ (nI (low - hC h))) (sh_zeroN κ (sh_write κ σ.1 (nI (low - hC h)) h) (nI (low - hC h)) (nI 1) (hC h - 1))) (nI (made + hC h)))), sh_work κ (uMade (uC (uLow σ (nI (low - hC h))) (sh_zeroN κ (sh_write κ σ.1 (nI (low - hC h)) h) (nI (low - hC h)) (nI 1) (hC h - 1))) (nI (made + hC h)))) := by
    have e1 : sLow σ - hd_cells h = nI (low - hC h) := by rw [a5, hC_eq, pk_sub (by omega)]
    have e2 : sMade σ + hd_cells h = nI (made + hC h) := by rw [a1, hC_eq, nI_add]
    have e3 : (hd_cells h).toNatClampNeg - 1 = hC h - 1 := by rw [hC_eq, nI_clamp (by omega)]
    unfold sh_place
    show (sLow (sh_work κ (uMade (uC (uLow σ (sLow σ - hd_cells h)) (sh_zeroN κ (sh_write κ σ.1 (sLow σ - hd_cells h) h) (sLow σ - hd_cells h) 1 ((hd_cells h).toNatClampNeg - 1))) (sMade σ + hd_cells h))), sh_work κ (uMade (uC (uLow σ (sLow σ - hd_cells h)) (sh_zeroN κ (sh_write κ σ.1 (sLow σ - hd_cells h) h) (sLow σ - hd_cells h) 1 ((hd_cells h).toNatClampNeg - 1))) (sMade σ + hd_cells h))) = _
    rw [e1, e2, e3]
    rfl
  have N1 : gc_N (uMade (uC (uLow σ (nI (low - hC h))) (sh_zeroN κ (sh_write κ σ.1 (nI (low - hC h)) h) (nI (low - hC h)) (nI 1) (hC h - 1))) (nI (made + hC h))) base free (low - hC h) scan tend nh (made + hC h) beg := ⟨rfl, a2, a3, a4, rfl, a6, a7, a8⟩
  have em : sMem (uMade (uC (uLow σ (nI (low - hC h))) (sh_zeroN κ (sh_write κ σ.1 (nI (low - hC h)) h) (nI (low - hC h)) (nI 1) (hC h - 1))) (nI (made + hC h))) = gc_pm (sMem σ) (low - hC h) (hC h) h := by
    show (sh_zeroN κ (sh_write κ σ.1 (nI (low - hC h)) h) (nI (low - hC h)) (nI 1) (hC h - 1)).2.2.1 = _
    rw [gc_zeroN k2 (by omega) (by omega) _ _ _ (by omega), gc_writeI k2 (by omega) (by omega) (by omega)]
    funext x
    unfold gc_pm
    by_cases hx : low - hC h + 1 ≤ x ∧ x < low - hC h + 1 + (hC h - 1)
    · rw [if_pos hx, if_neg (by omega), if_pos (by omega)]
    · rw [if_neg hx]
      by_cases hy : x = low - hC h
      · rw [if_pos hy, hy, pk_us]
      · rw [if_neg hy, if_neg (by omega), pk_un hy]
  have hkm : k * (made + hC h) ≤ 64 * (hf + 16) := Nat.mul_le_mul hk (by omega)
  rw [← em] at I1
  have ht1 : tc κ al (uMade (uC (uLow σ (nI (low - hC h))) (sh_zeroN κ (sh_write κ σ.1 (nI (low - hC h)) h) (nI (low - hC h)) (nI 1) (hC h - 1))) (nI (made + hC h))).1 (t + 1 + (hC h - 1)) := tc_zeroN _ _ _ _ (tc_write hT (by omega)) (by omega)
  obtain ⟨t', q1, q2⟩ := tc_workN (κ := κ) (goal := base + k * (made + hC h)) k1 k2 (by omega) (16 * k) _ _ _ _ _ _ _ _ N1 I1 ht1 (by omega)
  have ew : sh_work κ (uMade (uC (uLow σ (nI (low - hC h))) (sh_zeroN κ (sh_write κ σ.1 (nI (low - hC h)) h) (nI (low - hC h)) (nI 1) (hC h - 1))) (nI (made + hC h))) = sh_workN κ (nI (base + k * (made + hC h))) (uMade (uC (uLow σ (nI (low - hC h))) (sh_zeroN κ (sh_write κ σ.1 (nI (low - hC h)) h) (nI (low - hC h)) (nI 1) (hC h - 1))) (nI (made + hC h))) (16 * k) := by
    have e4 : kK κ * 16 = nI (16 * k) := by rw [k3, show (16 : Int32) = nI 16 from rfl, pk_mul, Nat.mul_comm]
    unfold sh_work
    show sh_workN κ (sBase σ + kK κ * nI (made + hC h)) _ (kK κ * 16).toNatClampNeg = _
    rw [e4, nI_clamp (by omega), a3, k3, pk_mul, nI_add]
  rw [eq, ew]
  exact ⟨t', by omega, q2⟩
theorem tc_begin {κ : sh_K} {σ : sh_S} {hf base ob free low scan tend nh made beg al t : Nat} {α : ab_A} {ad od : Nat → Nat} {Mv Mk Sn Sn' : List Nat} {brf : Nat → Nat → Nat} (k1 : kHalf κ = nI hf) (k2 : kLast κ = nI (2 * hf))
    (N : gc_N σ base free low scan tend nh made beg) (I : gc_I (sMem σ) hf base ob free low scan tend nh α ad od Mv Mk Sn brf) (hs : scan = free) (hr : ∀ t, t < 8 → gc_bw ad Mv Mk (aR α t) (sReg σ t))
    (d1 : Sn'.Nodup) (d2 : ∀ o, o ∈ Sn' → o ∈ Mv ∨ o ∈ Mk) (d3 : ∀ o j, o ∈ Sn' → j < aT α o → aF α o j = 0 ∨ aF α o j ∈ Sn') (d4 : gc_sum (aC α) Sn' ≤ hf) (d5 : ∀ t, t < 8 → aR α t = 0 ∨ aR α t ∈ Sn') (hT : tc κ al σ.1 t) (hb : t + 264 ≤ al) :
    ∃ t', t' ≤ t + 264 ∧ tc κ al (sh_begin κ σ).1 t' := by
  have I0 := gc_beg0 I hs d1 d2 d3 d4
  obtain ⟨a1, a2, a3, a4, a5, a6, a7, a8⟩ := id N
  obtain ⟨h1, h2, -⟩ := I.1
  have hob : (if sBase σ = 1 then 1 + kHalf κ else 1) = nI ob := by
    rw [a3, k1, show (1 : Int32) = nI 1 from rfl, nI_add]
    rcases h2 with ⟨h3, h4⟩ | ⟨h3, h4⟩
    · rw [if_pos (by rw [h3]), h4]
    · by_cases hz : nI base = nI 1
      · have := (nI_eq (by omega) (by omega)).mp hz
        rw [if_pos hz]
        congr 1
        omega
      · rw [if_neg hz, h4]
  obtain ⟨t', q1, q2⟩ := tc_regsN (κ := κ) (base := ob) (ob := base) (low := ob + hf) (scan := ob) (tend := ob) (nh := ob) (made := 0) (beg := beg + 1) (α := α) k1 k2 8 0 t (uBeg (uMade (sh_useHalf κ σ (nI ob)) 0) (sBeg (sh_useHalf κ σ (nI ob)) + 1)) ob (fun _ => 0) [] rfl
    ⟨rfl, by show sBeg σ + 1 = _; rw [a2, nI_1], rfl, rfl, by show nI ob + kHalf κ = _; rw [k1, nI_add], rfl, rfl, rfl⟩ I0 (fun t _ ht => by
      show gc_gw (fun _ => 0) (gc_rs Sn' ad) [] [] Sn' (aR α t) (sReg σ t)
      rcases d5 t ht with h | h
      · refine Or.inl ⟨?_, Or.inl h⟩
        rw [(hr t ht).1, h, I.2.1.1]
      · refine Or.inr ⟨?_, h⟩
        rw [(hr t ht).1, gc_rs_in h]) hT (by omega)
  have eq : sh_begin κ σ = sh_regsN κ (uBeg (uMade (sh_useHalf κ σ (nI ob)) 0) (sBeg (sh_useHalf κ σ (nI ob)) + 1)) 0 8 := by
    unfold sh_begin
    rw [hob]
  rw [eq]
  exact ⟨t', by omega, q2⟩
theorem gx_place {κ : sh_K} {σ : sh_S} {α : ab_A} {h k made beg R c : Nat} {U : Nat → Prop} {W : Nat → Int32 → Prop} (g : gc_X κ σ α h k made beg R U W c) {o : Nat} {hd : Int32} (f0 : o ≠ 0) (fU : ¬ U o) (hok : gc_ok hd) (hroom : R + made + hC hd ≤ 2 * h + 64) (hc : (¬ R ≤ k * made) ∨ R + made + hC hd ≤ h * k / (k + 1) ∨ made = 0) (hb : c + 16 + 560 * k ≤ 700 * k + 200) :
    gc_X κ (sh_place κ σ hd).2 (abN α o hd) h k (made + hC hd) beg R (fun q => U q ∨ q = o) (fun r w => W r w ∨ (r = o ∧ w = (sh_place κ σ hd).1)) (c + 16 + 560 * k) := by
  obtain ⟨g1, ⟨t, ht, hT⟩, base, ob, free, low, scan, tend, nh, ad, od, Mv, Mk, Sn, brf, N, I, hr, hB, e1, e2, hp, hR, hq, hU, w0⟩ := g
  obtain ⟨h1, h2, h3, h4, k1, k2, k3, k4, k5⟩ := id g1
  have nS : ∀ q, q ∈ Sn → q ≠ o := fun q hq z => fU (z ▸ hU q (Or.inl hq))
  have nK : ∀ q, q ∈ Mk → q ≠ o := fun q hq z => fU (z ▸ hU q (Or.inr hq))
  obtain ⟨t', ht', hT'⟩ := tc_place k1 k4 k2 h4 N I e1 f0 (fun z => nS o z rfl) (fun z => nK o z rfl) hok (by omega) hT (by omega)
  obtain ⟨ad', Mv', free', scan', tend', nh', N', er, x', I', p', w'⟩ := gc_place k1 k4 k2 h4 N I e1 hp f0 (fun z => nS o z rfl) (fun z => nK o z rfl) hok (by omega)
  generalize sh_place κ σ hd = q at N' er I' w' hT' ⊢
  have cC : ∀ q, q ≠ o → aC (abN α o hd) q = aC α q := fun q hq => by show hC (aH (abN α o hd) q) = hC _; rw [abN_H hq]
  have eo : aC (abN α o hd) o = hC hd := by show hC (aH (abN α o hd) o) = hC _; rw [abN_Ho]
  have hC16 := hok.2
  have hlim := gm_lim (k := k) h1 h3
  have bw : ∀ r w, gc_bw ad Mv Mk r w → gc_bw ad' Mv' (o :: Mk) r w := fun r w hh => by
    have hb := x'.bw hh
    exact ⟨hb.1, hb.2.imp id (Or.imp id (List.mem_cons_of_mem _))⟩
  refine ⟨g1, ⟨t', by omega, hT'⟩, base, ob, free', _, scan', tend', nh', ad', od, Mv', o :: Mk, Sn, brf, N', I', ?_, ?_, ?_, ?_, p', hR, ?_, ?_, ?_⟩
  · intro u hu
    rw [er]
    exact bw _ _ (hr u hu)
  · refine hB.mono x'.2 (fun q hq => ?_)
    show aT (abN α o hd) q = _
    unfold aT
    rw [abN_H (nS q hq)]
  · show made + hC hd = aC (abN α o hd) o + gc_sum (aC (abN α o hd)) Mk
    rw [eo, gc_sum_congr Mk (fun q hq => cC q (nK q hq)), ← e1]
    omega
  · rw [e2]
    exact (gc_sum_congr Sn (fun q hq => cC q (nS q hq))).symm
  · have hm : k * (made + hC hd) = k * made + k * hC hd := Nat.mul_add _ _ _
    have hm2 : k * hC hd ≤ k * 16 := Nat.mul_le_mul_left _ hC16
    rcases hc with hc | hc | hc
    · left; omega
    · right; omega
    · subst hc
      by_cases hz : R = 0
      · right; omega
      · left
        rw [hm, Nat.mul_zero]
        omega
  · intro q hq
    rcases hq with hq | hq
    · exact Or.inl (hU q (Or.inl hq))
    · rcases List.mem_cons.mp hq with hq | hq
      · exact Or.inr hq
      · exact Or.inl (hU q (Or.inr hq))
  · intro r w hw
    rcases hw with hw | ⟨rfl, rfl⟩
    · exact bw _ _ (w0 r w hw)
    · rw [w']
      exact ⟨rfl, Or.inr (Or.inr List.mem_cons_self)⟩
theorem gx_begin {κ : sh_K} {σ : sh_S} {α : ab_A} {h k made beg R c : Nat} {U U' : Nat → Prop} {W : Nat → Int32 → Prop} (g : gc_X κ σ α h k made beg R U W c) {Sn' : List Nat} (hS : ab_R α Sn') (hU' : ∀ o, o ∈ Sn' → U' o) (c1 : R ≤ k * made) (c2 : R ≤ h * k / (k + 1)) (hb : c + 264 ≤ 700 * k + 200) :
    gc_X κ (sh_begin κ σ) α h k 0 (beg + 1) (gc_sum (aC α) Sn') U' (fun _ _ => False) (c + 264) ∧ gc_sum (aC α) Sn' + 16 ≤ 2 * h + 64 := by
  obtain ⟨hd1, hd2⟩ := gc_doneI g.U.G
  obtain ⟨g1, ⟨t, ht, hT⟩, base, ob, free, low, scan, tend, nh, ad, od, Mv, Mk, Sn, brf, N, I, hr, hB, e1, e2, hp, hR, hq, hU, w0⟩ := g
  obtain ⟨h1, h2, h3, h4, k1, k2, k3, k4, k5⟩ := id g1
  have F := gc_free_le I
  obtain ⟨b1, b2, b3⟩ := I.1
  obtain ⟨a1, a2, a3, a4, a5, a6, a7, a8⟩ := id N
  have hsf : scan = free := by
    have := (hd2 c1).2
    rw [a6, a4] at this
    exact (nI_eq (by omega) (by omega)).mp this
  have d2 : ∀ o, o ∈ Sn' → o ∈ Mv ∨ o ∈ Mk := fun o ho => gr_sub I hsf hr ((hS.2 o).mp ho)
  have hcl := ab_reach_cl α
  have d3 : ∀ o j, o ∈ Sn' → j < aT α o → aF α o j = 0 ∨ aF α o j ∈ Sn' := fun o j ho hj => by
    by_cases hz : aF α o j = 0
    · exact Or.inl hz
    · exact Or.inr ((hS.2 _).mpr (hcl.2 o j ((hS.2 o).mp ho) hj hz))
  have d5 : ∀ t, t < 8 → aR α t = 0 ∨ aR α t ∈ Sn' := fun t ht => by
    by_cases hz : aR α t = 0
    · exact Or.inl hz
    · exact Or.inr ((hS.2 _).mpr (hcl.1 t ht hz))
  have hsum := gr_sum I hS.1 d2
  have har : R + made < h + 16 := gc_arith h3 c2 hq
  obtain ⟨t', ht', hT'⟩ := tc_begin k1 k4 N I hsf hr hS.1 d2 d3 (by omega) d5 hT (by omega)
  obtain ⟨ad', od', Mv', free', N', I', r', hm'⟩ := gc_begin k1 k4 N I hsf hr hS.1 d2 d3 (by omega) d5
  have F' := gc_free_le I'
  refine ⟨⟨g1, ⟨t', by omega, hT'⟩, ob, base, free', _, ob, ob, ob, ad', od', Mv', [], Sn', aF α, N', I', r', ?_, rfl, rfl, Or.inr (by omega), by omega, Or.inl (by omega), fun o ho => ?_, fun _ _ z => z.elim⟩, by omega⟩
  · intro P p1 p2 o ho
    have := (hS.2 o).mp ho (fun q => q ∈ Sn' ∧ P q) ⟨fun t ht hne => ⟨(d5 t ht).resolve_left hne, p1 _ (hm' t ht hne)⟩, fun q j hq2 hj hne => ⟨(d3 q j hq2.1 hj).resolve_left hne, p2 q j hq2.2 hq2.1 hj hne⟩⟩
    exact this.2
  · rcases ho with ho | ho
    · exact hU' o ho
    · exact absurd ho List.not_mem_nil
theorem gx_head {κ : sh_K} {σ : sh_S} {α : ab_A} {h k made beg R c : Nat} {U : Nat → Prop} {W : Nat → Int32 → Prop} (g : gc_X κ σ α h k made beg R U W c) {t : Nat} (ht : t < 8) : (sh_head κ σ (nI t)).1 = (if aR α t = 0 then 0 else aH α (aR α t)) ∧ gc_X κ (sh_head κ σ (nI t)).2 α h k made beg R U W 1 := by
  refine ⟨(gm_head g.U ht).1, ?_⟩
  have h0 := gx_start g
  unfold sh_head
  dsimp only
  split
  · exact gx_mono h0 (fun _ _ z => z) (by omega) (fun _ z => z)
  · exact gx_touch h0 (by omega)
theorem gx_gapN {κ : sh_K} {α : ab_A} {h k made beg R i e : Nat} {U : Nat → Prop} (hi : i < 2 ^ 20) (he : e = 34 ∨ (e = 1 ∧ R ≤ k * made)) :
    ∀ (d n : Nat) (σ : sh_S) (W : Nat → Int32 → Prop) (c y : Nat) (w : Int32), d ≤ n → d ≤ 2 → gc_X κ σ α h k made beg R U W c → W y w → y ≠ 0 → ab_nd α d y → c + e * d ≤ 700 * k + 200 →
    gc_X κ (sh_gapN κ σ (nI i) w (nI d) n).2 α h k made beg R U W (c + e * d) ∧ (sh_gapN κ σ (nI i) w (nI d) n).1 = nI (ab_gap α i d y)
  | 0, n, σ, W, c, y, w, hn, h2, X, hw, hy, hd, hb => by
    have e : sh_gapN κ σ (nI i) w (nI 0) n = (0, σ) := by
      cases n with
      | zero => rfl
      | succ n => rw [sh_gapN]; simp only [if_pos (show nI 0 ≤ 0 by decide)]
    rw [e]
    exact ⟨gx_mono X (fun _ _ z => z) (by omega) (fun _ z => z), rfl⟩
  | d + 1, 0, σ, W, c, y, w, hn, h2, X, hw, hy, hd, hb => by omega
  | d + 1, n + 1, σ, W, c, y, w, hn, h2, X, hw, hy, hd, hb => by
    have hs := ab_slot_lt i (d + 1)
    have hj : ab_slot i (d + 1) < aT α y := by rw [hd.1]; exact hs
    have hmul : e * (d + 1) = e * d + e := Nat.mul_succ _ _
    have X1 := gx_follow X hw hy hj (show gx_e α k made R e y (ab_slot i (d + 1)) from he.imp id (fun z => ⟨z.1, Or.inl z.2⟩)) (by omega)
    rw [sh_gapN, ab_slotI hi h2]
    generalize sh_follow κ σ (w + 1 + nI (ab_slot i (d + 1))) = q at X1 ⊢
    have hlv : ¬ nI (d + 1) ≤ 0 := nI_nle (by omega) (by omega)
    have hq0 := (gx_w0 X1 (Or.inr ⟨rfl, rfl⟩)).1
    by_cases hz : aF α y (ab_slot i (d + 1)) = 0
    · simp only [if_neg hlv, if_pos (hq0.mpr hz)]
      refine ⟨gx_mono X1 (fun _ _ z => Or.inl z) (by rw [hmul]; omega) (fun _ z => z), ?_⟩
      rw [ab_gap, if_pos hz]
    · simp only [if_neg hlv, if_neg (fun z => hz (hq0.mp z))]
      rw [show nI (d + 1) + (-1) = nI d from pk_m1 d]
      obtain ⟨X2, r2⟩ := gx_gapN hi he d n q.2 _ (c + e) (aF α y (ab_slot i (d + 1))) q.1 (by omega) (by omega) X1 (Or.inr ⟨rfl, rfl⟩) hz ((hd.2 _ hs).resolve_left hz) (by omega)
      refine ⟨gx_mono X2 (fun _ _ z => Or.inl z) (by omega) (fun _ z => z), ?_⟩
      rw [r2, ab_gap, if_neg hz]
theorem gx_wayN {κ : sh_K} {α : ab_A} {h k made beg R i lv : Nat} {U : Nat → Prop} (hi : i < 2 ^ 20) (hlv : lv ≤ 2) :
    ∀ (d n : Nat) (σ : sh_S) (W : Nat → Int32 → Prop) (c y : Nat) (w : Int32), d ≤ n → d ≤ 2 → gc_X κ σ α h k made beg R U W c → W y w → y ≠ 0 → ab_nd α d y → ab_wk α i lv d y → c + 34 * (d - lv) ≤ 700 * k + 200 →
    gc_X κ (sh_wayN κ σ (nI i) (nI lv) w (nI d) n).2 α h k made beg R U (fun r v => W r v ∨ (r = ab_way α i lv d y ∧ v = (sh_wayN κ σ (nI i) (nI lv) w (nI d) n).1)) (c + 34 * (d - lv)) ∧ ab_way α i lv d y ≠ 0 ∧ ab_nd α (min d lv) (ab_way α i lv d y)
  | 0, n, σ, W, c, y, w, hn, h2, X, hw, hy, hd, hk, hb => by
    have e : sh_wayN κ σ (nI i) (nI lv) w (nI 0) n = (w, σ) := by
      cases n with
      | zero => rfl
      | succ n => rw [sh_wayN]; simp only [if_pos (nI_le (Nat.zero_le lv) (by omega))]
    rw [e]
    refine ⟨gx_mono X (fun r v z => ?_) (by omega) (fun _ z => z), hy, by rw [Nat.zero_min]; trivial⟩
    rcases z with z | ⟨rfl, rfl⟩
    · exact z
    · exact hw
  | d + 1, 0, σ, W, c, y, w, hn, h2, X, hw, hy, hd, hk, hb => by omega
  | d + 1, n + 1, σ, W, c, y, w, hn, h2, X, hw, hy, hd, hk, hb => by
    by_cases hdl : d + 1 ≤ lv
    · have e : sh_wayN κ σ (nI i) (nI lv) w (nI (d + 1)) (n + 1) = (w, σ) := by
        rw [sh_wayN]; simp only [if_pos (nI_le hdl (by omega))]
      rw [e, ab_way, if_pos hdl]
      refine ⟨gx_mono X (fun r v z => ?_) (by omega) (fun _ z => z), hy, by rw [Nat.min_eq_left hdl]; exact hd⟩
      rcases z with z | ⟨rfl, rfl⟩
      · exact z
      · exact hw
    · obtain ⟨hz, hk2⟩ := hk.resolve_left hdl
      have hs := ab_slot_lt i (d + 1)
      have hj : ab_slot i (d + 1) < aT α y := by rw [hd.1]; exact hs
      have X1 := gx_follow X hw hy hj (show gx_e α k made R 34 y (ab_slot i (d + 1)) from Or.inl rfl) (by omega)
      rw [sh_wayN, ab_slotI hi h2, ab_way, if_neg hdl]
      generalize sh_follow κ σ (w + 1 + nI (ab_slot i (d + 1))) = q at X1 ⊢
      have hl : ¬ nI (d + 1) ≤ nI lv := nI_ge (by omega) (by omega)
      simp only [if_neg hl]
      rw [show nI (d + 1) + (-1) = nI d from pk_m1 d]
      obtain ⟨X2, r2, n2⟩ := gx_wayN hi hlv d n q.2 _ (c + 34) (aF α y (ab_slot i (d + 1))) q.1 (by omega) (by omega) X1 (Or.inr ⟨rfl, rfl⟩) hz ((hd.2 _ hs).resolve_left hz) hk2 (by omega)
      refine ⟨gx_mono X2 (fun r v z => ?_) (by omega) (fun _ z => z), r2, by rw [show min (d + 1) lv = min d lv by omega]; exact n2⟩
      rcases z with z | z
      · exact Or.inl (Or.inl z)
      · exact Or.inr z
