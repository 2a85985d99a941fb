/-! ===== ROOM AND A NEW THING, side by side ===== -/
def jn (ρ : rm_S) (made R beg ob : Nat) (F : List Nat) : Prop := rMade ρ = lN made ∧ rRea ρ = nI R ∧ rCyc ρ = nI beg ∧ rGiv ρ = nI F.length ∧ rg_F (rBack ρ) (rKind ρ) ob F ∧ ∀ o, rMark ρ o = 0
theorem jr_go {ρ : rm_S} {α : ab_A} {ow : Nat → Nat} {ob made R beg : Nat} {F : List Nat} (h : jr ρ α ow ob) (n : jn ρ made R beg ob F) :
    rs_room ρ ∧ ∃ (ρ' : rm_S) (Sn' F' : List Nat), rm_go (vCyc ρ (rCyc ρ + 1)) = (nI (gc_sum (aC α) Sn'), ρ') ∧ ab_R α Sn' ∧ jr ρ' α ow ob ∧ (∀ p, p ∈ Sn' → jr_U ρ' ob p) ∧ rCyc ρ' = nI (beg + 1) ∧ rGiv ρ' = nI F'.length ∧ rg_F (rBack ρ') (rKind ρ') ob F' ∧ (∀ o, rMark ρ' o = 0) ∧ rGap ρ' = rGap ρ ∧ rGil ρ' = rGil ρ := by
  obtain ⟨n1, n2, n3, n4, n5, n6⟩ := n
  obtain ⟨s, L, F', kd, bk, mk, pl, pu, e, hm, hk, hF, hR, hU⟩ := rg_go (ρ := vCyc ρ (rCyc ρ + 1)) h.H h.1.1 n6 n4 n5
  refine ⟨s, _, L.map (· + 1), F', e, hR, ?_, fun p hp => ?_, ?_, rfl, hF, hm, rfl, rfl⟩
  · have hin : ∀ q, ab_reach α (q + 1) → q ∈ L := fun q hq => by
      obtain ⟨b, hb, eb⟩ := List.mem_map.mp ((hR.2 _).mpr hq)
      have : b = q := by omega
      exact this ▸ hb
    have hkin : ∀ q, q ∈ L → kd q = rKind ρ q := fun q hq => by rw [hk, if_neg (fun z => z.2 hq)]
    have hv : ∀ (ρ' : rm_S), rKind ρ' = kd → ∀ w x, (x ≠ 0 → ab_reach α x) → jr_v ρ ow ob w x → jr_v ρ' ow ob w x := by
      intro ρ' ek w x hx hv
      rcases hv with rfl | ⟨q, rfl, h1, h2⟩
      · exact Or.inl rfl
      · have e := hkin q (hin q (hx (by omega)))
        refine Or.inr ⟨q, rfl, ⟨h1.1, by rw [ek, e]; exact h1.2⟩, ?_⟩
        rw [ek, e]
        exact h2
    obtain ⟨⟨k1, k2, k3, k4, k5⟩, hg, ho⟩ := h
    refine ⟨⟨k1, k2, k3, k4, k5⟩, fun t ht => ⟨(hg t ht).1, hv _ rfl _ _ (fun z => (ab_reach_cl α).1 t ht z) (hg t ht).2⟩, fun o hL => ?_⟩
    have hL1 : kd o ≠ 0 := hL.2
    have hlt : o < ob := hL.1
    have hoL : o ∈ L := Decidable.byContradiction fun z => hL1 (by rw [hk, if_pos ⟨hlt, z⟩])
    have e := hkin o hoL
    obtain ⟨f1, f2, f3, f4, f5⟩ := ho o ⟨hlt, by rw [← e]; exact hL1⟩
    have hro : ab_reach α (o + 1) := (hR.2 _).mp (List.mem_map.mpr ⟨o, hoL, rfl⟩)
    refine ⟨f1, f2, ?_, fun j hj => ⟨(f4 j hj).1, hv _ rfl _ _ (fun z => (ab_reach_cl α).2 _ j hro hj z) (f4 j hj).2⟩, f5⟩
    show (kd o = 1 ∧ _) ∨ (kd o = 2 ∧ _) ∨ (kd o = 3 ∧ _)
    rw [e]
    exact f3
  · obtain ⟨q, hq, rfl⟩ := List.mem_map.mp hp
    obtain ⟨q', e', hL⟩ := hU q hq
    have : q = q' := by omega
    subst this
    exact ⟨q, rfl, hL.1, by show kd q ≠ 0; rw [hk, if_neg (fun z => z.2 hq)]; exact hL.2⟩
  · show rCyc ρ + 1 = _
    rw [n3, nI_1]
theorem rz_s {o : Nat} (ho : o < 110000) : ∀ (n f : Nat), f + n ≤ 16 → rs_zeroN (nI o) (nI f) n
  | 0, _, _ => trivial
  | n + 1, f, h => by
    rw [rs_zeroN, show (16 : Int32) = nI 16 from rfl, pk_mul, nI_add, nI_1]
    exact ⟨vp_in_nI (by omega) (by decide), rz_s ho n (f + 1) (by omega)⟩
theorem rz_v {o : Nat} (ho : o < 110000) : ∀ (n f : Nat) (row : Nat → Int32) (p : Nat), f + n ≤ 16 → rm_zeroN row (nI o) (nI f) n p = (if o * 16 + f ≤ p ∧ p < o * 16 + f + n then 0 else row p)
  | 0, f, row, p, _ => by rw [rm_zeroN, if_neg (by omega)]
  | n + 1, f, row, p, h => by
    rw [rm_zeroN, show (16 : Int32) = nI 16 from rfl, pk_mul, nI_add, nI_1, nI_clamp (by omega), rz_v ho n (f + 1) _ p (by omega)]
    by_cases e : p = o * 16 + f
    · rw [if_neg (by omega), if_pos (by omega), e, pk_us]
    · rw [pk_un e]
      by_cases c : o * 16 + (f + 1) ≤ p ∧ p < o * 16 + (f + 1) + n
      · rw [if_pos c, if_pos (by omega)]
      · rw [if_neg c, if_neg (by omega)]
theorem jn_add {ρ : rm_S} {ob : Nat} {F : List Nat} (e1 : rObj ρ = nI ob) (hb : ob < 100000) (e2 : rGiv ρ = nI F.length) (hF : rg_F (rBack ρ) (rKind ρ) ob F) :
    rs_add ρ ∧ ∃ (o ob' : Nat) (F' : List Nat), rm_new ρ = nI o ∧ jr_f ρ ob ob' o ∧ ob' ≤ ob + 1 ∧ rm_tk ρ = vGiv (vObj ρ (nI ob')) (nI F'.length) ∧ ∀ kk, rg_F (rBack ρ) (upd (rKind ρ) o kk) ob' F' := by
  have hlen := rg_len hF.2.1 (fun q hq => (hF.2.2 q hq).1)
  rcases List.eq_nil_or_concat F with rfl | ⟨F', o, rfl⟩
  · have hg : rGiv ρ ≤ 0 := by rw [e2]; decide
    have en : rm_new ρ = nI ob := by unfold rm_new; rw [if_pos hg, e1]
    refine ⟨⟨fun z => absurd hg z, by rw [en]; exact vp_in_nI (by omega) (by decide), by rw [en]; exact rz_s (by omega) 16 0 (by omega)⟩, ob, ob + 1, [], en, Or.inr ⟨rfl, rfl⟩, by omega, ?_, fun kk => ⟨fun i q hi => by simp at hi, List.nodup_nil, fun q hq => by simp at hq⟩⟩
    unfold rm_tk
    rw [if_pos hg, e1, nI_1, ← e2]
  · rw [List.concat_eq_append] at e2 hF hlen
    rw [List.length_append, List.length_singleton] at e2 hlen
    have hg : ¬ rGiv ρ ≤ 0 := by rw [e2]; exact nI_nle (by omega) (by omega)
    have e3 : rGiv ρ - 1 = nI F'.length := by rw [e2, nI_pred]
    have en : rm_new ρ = nI o := by unfold rm_new; rw [if_neg hg, e3, nI_clamp (by omega)]; exact hF.1 F'.length o (by simp)
    obtain ⟨ho1, ho2⟩ := hF.2.2 o (by simp)
    refine ⟨⟨fun _ => by rw [e3]; exact vp_in_nI (by omega) (by decide), by rw [en]; exact vp_in_nI (by omega) (by decide), by rw [en]; exact rz_s (by omega) 16 0 (by omega)⟩, o, ob, F', en, Or.inl ⟨ho1, rfl, ho2⟩, by omega, ?_, fun kk => ⟨fun i q hi => ?_, ?_, fun q hq => ?_⟩⟩
    · unfold rm_tk
      rw [if_neg hg, e3, ← e1]
    · refine hF.1 i q ?_
      have hi2 : i < F'.length := by
        rcases Nat.lt_or_ge i F'.length with h | h
        · exact h
        · rw [List.getElem?_eq_none h] at hi; cases hi
      rw [List.getElem?_append_left hi2]
      exact hi
    · exact (List.nodup_append.mp hF.2.1).1
    · have hne : q ≠ o := fun z => (List.nodup_append.mp hF.2.1).2.2 q hq o (by simp) z
      rw [pk_un hne]
      exact hF.2.2 q (by simp [hq])
theorem jr_done {ρ : rm_S} {made R k : Nat} (e1 : rMade ρ = lN made) (e2 : rRea ρ = nI R) (hk : k < 2 ^ 31) (hm : k * made < 2 ^ 31) (hR : R < 2 ^ 31) : rm_done (nI k) ρ = (if R ≤ k * made then 1 else 0) := by
  unfold rm_done
  rw [e1, e2, nI_l hk, nI_l hR, lN_mul]
  by_cases h : R ≤ k * made
  · rw [if_pos h, if_neg (by rw [lg_cmp_lt, lN_lt hm hR]; omega)]
  · rw [if_neg h, if_pos (by rw [lg_cmp_lt, lN_lt hm hR]; omega)]
theorem gx_num {κ : sh_K} {σ : sh_S} {α : ab_A} {h k made beg R c : Nat} {U : Nat → Prop} {W : Nat → Int32 → Prop} (g : gc_X κ σ α h k made beg R U W c) : gc_p κ h k ∧ sMade σ = nI made ∧ sBeg σ = nI beg ∧ R < h + 16 ∧ made ≤ 2 * h + 64 ∧ k * made ≤ 64 * (2 * h + 64) ∧ h * k / (k + 1) ≤ h ∧ sSte σ = 1 := by
  obtain ⟨g1, ⟨t, ht, hT⟩, base, ob, free, low, scan, tend, nh, ad, od, Mv, Mk, Sn, brf, N, I, hr, hB, e1, e2, hp, hR, hq, hU, w0⟩ := g
  have F := gc_free_le I
  have hm : made ≤ 2 * h + 64 := by omega
  refine ⟨g1, N.1, N.2.1, hR, hm, Nat.mul_le_mul g1.2.2.2.1 hm, ?_, hT.2.1⟩
  have h3 := g1.2.2.1
  have q1 : h * k / (k + 1) * (k + 1) ≤ h * k := Nat.div_mul_le_self _ _
  have q2 : h * k / (k + 1) * k ≤ h * k / (k + 1) * (k + 1) := Nat.mul_le_mul_left _ (by omega)
  exact Nat.le_of_mul_le_mul_right (Nat.le_trans q2 q1) (by omega)
theorem jx_room {κ : sh_K} {σ : sh_S} {ρ : rm_S} {α : ab_A} {ow : Nat → Nat} {h k made beg R ob c C n : Nat} {F : List Nat} {W : Nat → Int32 → Prop} (X : gc_X κ σ α h k made beg R (jr_U ρ ob) W c) (J : jr ρ α ow ob) (nn : jn ρ made R beg ob F) (hn : n ≤ 16) (hc : c ≤ C) (hc2 : R ≤ k * made → c + 264 ≤ C) (hC : C ≤ 700 * k + 200) :
    (sh_room κ σ (nI n) = (0, σ) ∧ rm_room (nI k) (nI (h * k / (k + 1))) ρ (nI n) = (0, ρ)) ∨
    ∃ (σ' : sh_S) (ρ' : rm_S) (made' beg' R' : Nat) (F' : List Nat), sh_room κ σ (nI n) = (1, σ') ∧ rm_room (nI k) (nI (h * k / (k + 1))) ρ (nI n) = (1, vMade ρ' (lN (made' + n))) ∧ gc_X κ σ' α h k made' beg' R' (jr_U ρ' ob) (fun _ _ => False) C ∧ jr ρ' α ow ob ∧ jn ρ' made' R' beg' ob F' ∧
      R' + made' + n ≤ 2 * h + 64 ∧ (¬ R' ≤ k * made' ∨ R' + made' + n ≤ h * k / (k + 1) ∨ made' = 0) ∧ rGap ρ' = rGap ρ ∧ rGil ρ' = rGil ρ ∧ beg' ≤ beg + 1 := by
  obtain ⟨s, ρ', Sn', F', eg, hS, J', hU', ec', eg', hF', hm', ep', el'⟩ := jr_go J nn
  obtain ⟨r1, r2, r3⟩ := gm_room X.U.G hn hS
  obtain ⟨g1, -, -, hR, hm, hkm, hl, -⟩ := gx_num X
  obtain ⟨h1, h2, h3, h4, -⟩ := id g1
  obtain ⟨n1, n2, n3, n4, n5, n6⟩ := id nn
  have hd := jr_done (k := k) n1 n2 (by omega) (by omega) (by omega)
  have hdl : h * k / (k + 1) < 2 ^ 31 := by omega
  unfold rm_room
  rw [hd, eg, n2]
  by_cases c1 : R ≤ k * made
  · rw [if_pos c1, if_neg (show ¬ (1 : Int32) = 0 by decide)]
    by_cases c2 : R ≤ h * k / (k + 1)
    · rw [if_pos (nI_le c2 hdl), nI_l (show R < 2 ^ 31 by omega), n1, lN_add, nI_l (show n < 2 ^ 31 by omega), lN_add, nI_l hdl]
      by_cases c3 : R + made + n ≤ h * k / (k + 1)
      · rw [if_pos (by rw [lg_cmp_le, lN_le (by omega) (by omega)]; exact c3), lN_add]
        obtain ⟨q1, q2⟩ := r2 (Or.inr ⟨c2, c3⟩)
        exact Or.inr ⟨σ, ρ, made, beg, R, F, q1, rfl, gx_mono X (fun _ _ z => z.elim) hc (fun _ z => z), J, nn, q2, Or.inr (Or.inl c3), rfl, rfl, by omega⟩
      · rw [if_neg (by rw [lg_cmp_le, lN_le (by omega) (by omega)]; exact c3)]
        obtain ⟨q1, -⟩ := r3 c1 c2 (by omega)
        obtain ⟨X', q2⟩ := gx_begin X hS hU' c1 c2 (by have := hc2 c1; omega)
        refine Or.inr ⟨sh_begin κ σ, vMade (vRea ρ' (nI (gc_sum (aC α) Sn'))) (lN 0), 0, beg + 1, gc_sum (aC α) Sn', F', q1, ?_, gx_mono X' (fun _ _ z => z) (hc2 c1) (fun _ z => z), J', ⟨rfl, rfl, ec', eg', hF', hm'⟩, by omega, Or.inr (Or.inr rfl), ep', el', by omega⟩
        show (1, vMade (vRea ρ' (nI (gc_sum (aC α) Sn'))) (0 + lN n)) = _
        rw [show (0 : Int64) = lN 0 from rfl, lN_add]
    · rw [if_neg (nI_ge (by omega) (by omega))]
      exact Or.inl ⟨r1 c1 (by omega), rfl⟩
  · rw [if_neg c1, if_pos rfl, n1, nI_l (show n < 2 ^ 31 by omega), lN_add]
    obtain ⟨q1, q2⟩ := r2 (Or.inl c1)
    exact Or.inr ⟨σ, ρ, made, beg, R, F, q1, rfl, gx_mono X (fun _ _ z => z.elim) hc (fun _ z => z), J, nn, q2, Or.inl c1, rfl, rfl, by omega⟩
theorem jx_safe {ρ : rm_S} {α : ab_A} {ow : Nat → Nat} {ob made R beg : Nat} {F : List Nat} {k lim : Int32} (J : jr ρ α ow ob) (nn : jn ρ made R beg ob F) : rs_make k lim ρ ∧ ∀ n, rGap (rm_room k lim ρ n).2 = rGap ρ := by
  obtain ⟨s, ρ', Sn', F', eg, hS, J', hU', ec', eg', hF', hm', ep', el'⟩ := jr_go J nn
  have s1 := (jn_add J.1.1 J.1.2.1 nn.2.2.2.1 nn.2.2.2.2.1).1
  have s2 := (jn_add J'.1.1 J'.1.2.1 eg' hF').1
  refine ⟨⟨s, fun n => ?_⟩, fun n => ?_⟩
  · unfold rm_room
    rw [eg]
    split
    · exact s1
    · split
      · split
        · exact s1
        · exact s2
      · exact s1
  · unfold rm_room
    rw [eg]
    split
    · rfl
    · split
      · split
        · rfl
        · exact ep'
      · rfl
theorem nb_r : ∀ r, r < 16 → vp_nar .byte (nI r).toInt8.toInt32 = nI r := by decide +kernel
/-- a new thing on both sides -/
theorem jx_add {κ : sh_K} {σ : sh_S} {ρ : rm_S} {α : ab_A} {ow : Nat → Nat} {h k made beg R ob C w kn : Nat} {hd : Int32} {F : List Nat} {W : Nat → Int32 → Prop} (X : gc_X κ σ α h k made beg R (jr_U ρ ob) W C) (J : jr ρ α ow ob) (nn : jn ρ made R beg ob F)
    (hroom : R + made + hC hd ≤ 2 * h + 64) (hc : ¬ R ≤ k * made ∨ R + made + hC hd ≤ h * k / (k + 1) ∨ made = 0) (hb : C + 16 + 560 * k ≤ 700 * k + 200) (hob : ob + 1 < 100000) (hk1 : 1 ≤ kn) (hk3 : kn ≤ 3) :
    ∃ (o ob' : Nat) (F' : List Nat), jr_f ρ ob ob' o ∧ ob' ≤ ob + 1 ∧ (rm_add (vMade ρ (lN (made + hC hd))) (nI kn) (nI (hT hd)) (nI (hP hd))).1 = nI o ∧ ∀ (ln of : Nat → Int32), (∀ q, q ≠ o → ln q = rLen ρ q ∧ of q = rOfr ρ q) →
      ∀ ρ', ρ' = vOfr (vLen (rm_add (vMade ρ (lN (made + hC hd))) (nI kn) (nI (hT hd)) (nI (hP hd))).2 ln) of → rKind ρ' o = nI kn ∧ (jr_s ρ' (fun p => if p = o + 1 then w else ow p) hd o →
      gc_X κ (sh_place κ σ hd).2 (abN α (o + 1) hd) h k (made + hC hd) beg R (jr_U ρ' ob') (fun r w => W r w ∨ (r = o + 1 ∧ w = (sh_place κ σ hd).1)) (C + 16 + 560 * k) ∧ jr ρ' (abN α (o + 1) hd) (fun p => if p = o + 1 then w else ow p) ob' ∧ jn ρ' (made + hC hd) R beg ob' F' ∧ (∀ q, jr_L ρ ob q → jr_L ρ' ob' q) ∧ jr_L ρ' ob' o ∧ rReg ρ' = rReg ρ) := by
  obtain ⟨n1, n2, n3, n4, n5, n6⟩ := id nn
  obtain ⟨-, o, ob', F', en, hf, hle, etk, hF'⟩ := jn_add (ρ := ρ) J.1.1 J.1.2.1 n4 n5
  have ho : o < 110000 := by
    have := J.1.2.1
    rcases hf with ⟨h1, -, -⟩ | ⟨h1, -⟩ <;> omega
  have en' : rm_new (vMade ρ (lN (made + hC hd))) = nI o := en
  have etk' : rm_tk (vMade ρ (lN (made + hC hd))) = vGiv (vObj (vMade ρ (lN (made + hC hd))) (nI ob')) (nI F'.length) := by
    unfold rm_tk at etk ⊢
    by_cases hz : rGiv ρ ≤ 0
    · rw [if_pos hz] at etk
      rw [if_pos hz]
      exact congrArg (fun x => vMade x (lN (made + hC hd))) etk
    · rw [if_neg hz] at etk
      rw [if_neg hz]
      exact congrArg (fun x => vMade x (lN (made + hC hd))) etk
  have hTl := (hT_lt hd).1
  have hPl := (hP_lt hd).1
  refine ⟨o, ob', F', hf, hle, en', fun ln of hq ρ' er => ?_⟩
  have er2 : ρ' = vOfr (vLen (vRow (vInts (vRefs (vKind (vGiv (vObj (vMade ρ (lN (made + hC hd))) (nI ob')) (nI F'.length)) (upd (rKind ρ) o (nI kn))) (upd (rRefs ρ) o (nI (hT hd)))) (upd (rInts ρ) o (nI (hP hd)))) (rm_zeroN (rRow ρ) (nI o) (nI 0) 16)) ln) of := by
    rw [er]
    unfold rm_add rm_add1
    rw [etk', en', nI_clamp (by omega), nb_r kn (by omega), nb_r _ hTl, nb_r _ hPl]
    rfl
  clear er
  subst er2
  refine ⟨pk_us, fun hs => ?_⟩
  obtain ⟨J', hL, hLo, hLi⟩ := jr_N (w := w) (hd := hd) (kk := nI kn) (ρ' := vOfr (vLen (vRow (vInts (vRefs (vKind (vGiv (vObj (vMade ρ (lN (made + hC hd))) (nI ob')) (nI F'.length)) (upd (rKind ρ) o (nI kn))) (upd (rRefs ρ) o (nI (hT hd)))) (upd (rInts ρ) o (nI (hP hd)))) (rm_zeroN (rRow ρ) (nI o) (nI 0) 16)) ln) of) J hf (by omega) (nI_ne0 (by omega) (by omega)) rfl rfl rfl hq (fun p => by
    show rm_zeroN (rRow ρ) (nI o) (nI 0) 16 p = _
    rw [rz_v ho 16 0 _ p (by omega)]
    by_cases e : p / 16 = o
    · rw [if_pos e, if_pos (by omega)]
    · rw [if_neg e, if_neg (by omega)]) rfl rfl hs
  have hok := (jr_sz hs).1
  have X' := gx_place X (o := o + 1) (hd := hd) (by omega) (fun z => by
    obtain ⟨q, hq, hL⟩ := z
    have : q = o := by omega
    exact hf.nL (this ▸ hL)) hok hroom hc hb
  refine ⟨gx_mono X' (fun _ _ z => z) (Nat.le_refl _) (fun p hp => ?_), J', ⟨rfl, n2, n3, rfl, hF' _, n6⟩, hL, hLo, rfl⟩
  rcases hp with ⟨q, rfl, hq⟩ | rfl
  · exact ⟨q, rfl, hL q hq⟩
  · exact ⟨o, rfl, hLo⟩
