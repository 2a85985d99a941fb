/-! ===== the calls on items, side by side ===== -/
/-- register t holds an array q of n items, x 1 for references; j is one of its items -/
def jr_ar (ρ : rm_S) (α : ab_A) (ow : Nat → Nat) (ob t q n x j : Nat) : Prop := t < 8 ∧ aR α t = q + 1 ∧ jr_L ρ ob q ∧ q < 100000 ∧ n ≤ 3375 ∧ x < 2 ∧ j < n ∧ ow (q + 1) = 1 + 2 * jr_h n + x ∧ aH α (q + 1) = hd_arr (nI n) (nI x) ∧ rLen ρ q = nI n ∧ rm_o ρ (nI t) = nI q
theorem jr_hasIt {ρ : rm_S} {α : ab_A} {ow : Nat → Nat} {ob : Nat} (J : jr ρ α ow ob) (o i b : Int32) :
    (rm_hasItem ρ o i b = 0 ∧ sh_below i (hd_items (jr_hd α o) b) = 0) ∨ ∃ t q n x j, jr_ar ρ α ow ob t q n x j ∧ o = nI t ∧ i = nI j ∧ b = nI x ∧ ¬ rm_hasItem ρ o i b = 0 ∧ ¬ sh_below i (hd_items (jr_hd α o) b) = 0 ∧ jr_hd α o = hd_arr (nI n) (nI x) := by
  have b0 : ∀ f, sh_below f (nI 0) = 0 := fun f => by
    rcases sb_cases f (n := 0) (by decide) with h | ⟨j, hj, -⟩
    · exact h.1
    · omega
  by_cases c1 : sh_isReg o = 0
  · have e1 : jr_hd α o = 0 := by unfold jr_hd; rw [if_pos c1]
    rw [e1, hd_0.2.2]
    exact Or.inl ⟨by unfold rm_hasItem; rw [if_pos c1], b0 i⟩
  obtain ⟨t, ht, rfl⟩ := ri_isReg c1
  have et : (nI t).toNatClampNeg = t := nI_clamp (by omega)
  rcases jr_at J ht with ⟨c2, c3⟩ | ⟨q, hq, c3, eo, hq5, hL, ho, hk⟩
  · have e1 : jr_hd α (nI t) = 0 := by unfold jr_hd; rw [if_neg c1, et, if_pos c2]
    rw [e1, hd_0.2.2]
    exact Or.inl ⟨by unfold rm_hasItem; rw [if_neg c1, et, if_pos c3], b0 i⟩
  have e1 : jr_hd α (nI t) = aH α (q + 1) := by unfold jr_hd; rw [if_neg c1, et, if_neg (by omega), hq]
  rw [e1]
  rcases hk with ⟨k1, ha⟩ | ⟨k1, n, x, hn, hx, eh, hw, eln, eof⟩
  · rw [(hd_pl ha).2.2]
    exact Or.inl ⟨by unfold rm_hasItem; rw [if_neg c1, et, if_neg c3, eo, nI_clamp (by omega), k1, if_neg (by decide)], b0 i⟩
  · rw [eh, (hd_ar hn hx).2.2 b]
    have e2 : rm_hasItem ρ (nI t) i b = (if nI x = b then (if i < 0 then 0 else if nI n ≤ i then 0 else 1) else 0) := by
      unfold rm_hasItem
      rw [if_neg c1, et, if_neg c3, eo, nI_clamp (by omega), if_pos k1, eln, eof]
    rw [e2]
    by_cases cb : nI x = b
    · rw [if_pos cb, if_pos cb]
      rcases sb_cases i (n := n) (by omega) with ⟨h1, h2 | ⟨h2, h3⟩⟩ | ⟨j, hj, rfl, hs⟩
      · exact Or.inl ⟨if_pos h2, h1⟩
      · exact Or.inl ⟨by rw [if_neg h2, if_pos h3], h1⟩
      · refine Or.inr ⟨t, q, n, x, j, ⟨ht, hq, hL, hq5, hn, hx, hj, hw, eh, eln, eo⟩, rfl, rfl, cb.symm, ?_, by rw [hs]; decide, rfl⟩
        rw [if_neg (nI_pos (by omega)), if_neg (nI_ge hj (by omega))]
        decide
    · rw [if_neg cb, if_neg cb]
      exact Or.inl ⟨rfl, b0 i⟩
theorem rm_eachN {n : Nat} (hn : n ≤ 3375) : rm_each (rm_levels (nI n)) = nI (ab_pw (jr_h n)) := by
  unfold rm_levels jr_h
  by_cases c1 : n ≤ 15
  · rw [if_neg (show ¬ (15 : Int32) < nI n from nI_nlt (a := 15) (b := n) c1 (by decide)), if_pos c1]
    rfl
  · rw [if_pos (show (15 : Int32) < nI n from nI_lt (a := 15) (by omega) (by omega)), if_neg c1]
    by_cases c2 : n ≤ 225
    · rw [if_neg (show ¬ (225 : Int32) < nI n from nI_nlt (a := 225) (b := n) c2 (by decide)), if_pos c2]
      rfl
    · rw [if_pos (show (225 : Int32) < nI n from nI_lt (a := 225) (by omega) (by omega)), if_neg c2]
      rfl
theorem jr_h_pw {n : Nat} (hn : n ≤ 3375) : n ≤ 15 * ab_pw (jr_h n) := by
  unfold jr_h
  split
  · show n ≤ 15 * 1
    omega
  · split
    · show n ≤ 15 * 15
      omega
    · show n ≤ 15 * 225
      omega
/-- what item answers -/
def jr_res (ρ : rm_S) (z g j : Nat) : Int32 × rm_S := if g = 0 then (nI (z * 16 + ab_slot j 0), ρ) else (-1, vGil (vGap ρ (nI (z * 16 + ab_slot j g))) (if g = 1 then 1 else 0))
theorem jr_theItem {ρ : rm_S} {α : ab_A} {ow : Nat → Nat} {ob t q n x j : Nat} (J : jr ρ α ow ob) (h : jr_ar ρ α ow ob t q n x j) : rs_item ρ (nI t) (nI j) ∧ ∃ z g, jr_it ρ α ow ob j x (jr_h n) 3 q z g ∧ z < 100000 ∧ rm_item ρ (nI t) (nI j) = jr_res ρ z g j := by
  obtain ⟨ht, hq, hL, hq5, hn, hx, hj, hw, eh, eln, eo⟩ := h
  have hh := jr_h_le n
  have hp := jr_h_pw hn
  obtain ⟨z, g, hit⟩ := jr_item (i := j) J (jr_h n) 3 q (by omega) hh hL hw
  have ej : j % (15 * ab_pw (jr_h n)) = j := Nat.mod_eq_of_lt (by omega)
  have hz := hit.2.2.2.1.1
  have hob := J.1.2.1
  obtain ⟨s, -, -, -, -, -, -, hr⟩ := id hit
  rw [ej] at s hr
  refine ⟨⟨vp_in_nI (by omega) (by decide), by rw [eo]; exact vp_in_nI (by omega) (by decide), by rw [eo, nI_clamp (by omega), eln, rm_eachN hn]; exact s⟩, z, g, hit, by omega, ?_⟩
  unfold rm_item
  rw [eo, nI_clamp (by omega), eln, rm_eachN hn]
  exact hr
theorem jr_rsit {ρ : rm_S} {α : ab_A} {ow : Nat → Nat} {ob : Nat} (J : jr ρ α ow ob) (o i : Int32) : rs_it ρ o i := by
  intro b hb
  rcases jr_hasIt J o i b with ⟨h1, -⟩ | ⟨t, q, n, x, j, har, rfl, rfl, -⟩
  · exact absurd h1 hb
  · obtain ⟨s, z, g, hit, hz, er⟩ := jr_theItem J har
    refine ⟨s, fun hne => ?_⟩
    rw [er] at hne ⊢
    have hs := ab_slot_lt j 0
    unfold jr_res at hne ⊢
    by_cases hg : g = 0
    · rw [if_pos hg]; exact vp_in_nI (by omega) (by decide)
    · rw [if_neg hg] at hne; exact absurd rfl hne
theorem jr_rsfill {ρ : rm_S} {α : ab_A} {ow : Nat → Nat} {ob made R beg : Nat} {F : List Nat} {k lim : Int32} (J : jr ρ α ow ob) (nn : jn ρ made R beg ob F) (o i : Int32) : (∃ x, ¬ rm_hasItem ρ o i x = 0) → (rm_item ρ o i).1 = -1 → rs_fill k lim (rm_item ρ o i).2 := by
  rintro ⟨b, hb⟩ hm
  rcases jr_hasIt J o i b with ⟨h1, -⟩ | ⟨t, q, n, x, j, har, rfl, rfl, -⟩
  · exact absurd h1 hb
  · obtain ⟨s, z, g, hit, hz, er⟩ := jr_theItem J har
    rw [er] at hm ⊢
    have hs := ab_slot_lt j g
    have hs0 := ab_slot_lt j 0
    unfold jr_res at hm ⊢
    by_cases hg : g = 0
    · rw [if_pos hg] at hm; exact absurd hm (nI_nm1 (by omega))
    · rw [if_neg hg]
      obtain ⟨s1, s2⟩ := jx_safe (k := k) (lim := lim) (ρ := vGil (vGap ρ (nI (z * 16 + ab_slot j g))) (if g = 1 then 1 else 0)) J nn
      exact ⟨s1, by rw [s2]; exact vp_in_nI (by omega) (by decide)⟩
theorem ha_h {n x : Nat} (hn : n ≤ 3375) (hx : x < 2) : hd_height (hd_arr (nI n) (nI x)) = nI (jr_h n) := (ha_T hn hx).2.2.2.2.2.2
/-- leaves -/
theorem jr_leaf {ρ : rm_S} {α : ab_A} {ow : Nat → Nat} {ob z x : Nat} (J : jr ρ α ow ob) (hL : jr_L ρ ob z) (hw : ow (z + 1) = 1 + x) (hx : x < 2) : aT α (z + 1) = 15 * x ∧ aP α (z + 1) = 15 * (1 - x) := by
  have t := (jr_sz (J.2.2 z hL).2.2.1).2.2.2.1 (by omega)
  have hc : x = 0 ∨ x = 1 := by omega
  rcases hc with rfl | rfl
  · exact ⟨by show hT (aH α (z + 1)) = _; rw [t.1, if_pos (by omega)], by show hP (aH α (z + 1)) = _; rw [t.2, if_pos (by omega)]⟩
  · exact ⟨by show hT (aH α (z + 1)) = _; rw [t.1, if_neg (by omega)], by show hP (aH α (z + 1)) = _; rw [t.2, if_neg (by omega)]⟩
section CALLS3
variable {κ : sh_K} {σ : sh_S} {ρ : rm_S} {h k N : Nat}
theorem jc_getItem (jx : jj κ σ ρ h k N) (t o i : Int32) : (sh_getItem κ σ t o i).1 = (rm_getItem ρ t o i).1 ∧ jj κ (sh_getItem κ σ t o i).2 (rm_getItem ρ t o i).2 h k (N + 1) := by
  obtain ⟨α, ow, made, beg, R, ob, F, X, J, nn, l1, l2⟩ := jx
  have hk := X.1.2.2.1
  obtain ⟨eh, X1⟩ := cx_head X o
  unfold sh_getItem rm_getItem
  dsimp only
  generalize sh_head κ σ o = hq at eh X1 ⊢
  rw [eh]
  have same : jj κ hq.2 ρ h k (N + 1) := ⟨α, ow, made, beg, R, ob, F, gx_mono X1 (fun _ _ z => z) (by omega) (fun _ z => z), J, nn, by omega, by omega⟩
  by_cases c1 : sh_isReg t = 0
  · rw [if_pos c1, if_pos c1]; exact ⟨rfl, same⟩
  rw [if_neg c1, if_neg c1]
  rcases jr_hasIt J o i 1 with ⟨b1, b2⟩ | ⟨u, q, n, x, j, har, rfl, rfl, bx, b1, b2, ehd⟩
  · rw [if_pos b1, if_pos b2]; exact ⟨rfl, same⟩
  rw [if_neg b1, if_neg b2, ehd]
  obtain ⟨t, ht, rfl⟩ := ri_isReg c1
  obtain ⟨-, z, g, hit, hz, er⟩ := jr_theItem J har
  rw [er]
  obtain ⟨hu, hq1, hL, hq5, hn, hx, hj, hw, -⟩ := har
  have hx1 : x = 1 := ((nI_eq (a := 1) (by decide) (by omega)).mp bx).symm
  subst hx1
  obtain ⟨-, hg, hgd, hLz, hway, hwz, -, -⟩ := hit
  have hh := jr_h_le n
  obtain ⟨X2, eg⟩ := cx_gap (i := j) (e := 34) X1 J hu hq1 hL hw hh (ha_h hn hx) (by omega) (Or.inl rfl) (by omega)
  generalize sh_gap κ hq.2 (nI u) (hd_arr (nI n) (nI 1)) (nI j) = gp at X2 eg ⊢
  rw [eg, ← hg, nI_clamp (show t < 2 ^ 31 by omega)]
  unfold jr_res
  by_cases g0 : g = 0
  · subst g0
    rw [if_pos (show nI 0 = 0 from rfl), if_pos (show (0 : Nat) = 0 from rfl)]
    have hs := ab_slot_lt j 0
    rw [if_neg (nI_nm1 (by omega)), nI_clamp (by omega)]
    obtain ⟨v, ev, X3⟩ := cx_way (i := j) (lv := 0) X2 J hu hq1 hL hw hh (ha_h hn hx) (by omega) (by omega) (by omega) (by omega)
    rw [show nI 0 = 0 from rfl] at ev X3
    generalize sh_way κ gp.2 (nI u) (hd_arr (nI n) (nI 1)) (nI j) 0 = wy at ev X3 ⊢
    rw [ev]
    obtain ⟨lT, -⟩ := jr_leaf J hLz (x := 1) (by omega) (by omega)
    have X4 := gx_follow X3 (e := 34) (z := z + 1) (j := ab_slot j 0) (w := v) (Or.inr ⟨hway.symm, rfl⟩) (by omega) (by omega) (Or.inl rfl) (by omega)
    generalize sh_follow κ wy.2 (v + 1 + nI (ab_slot j 0)) = fo at X4 ⊢
    have X5 := gx_setReg X4 ht (Or.inr ⟨rfl, rfl⟩)
    obtain ⟨er, ev⟩ := (J.2.2 z hLz).2.2.2.1 (ab_slot j 0) (by omega)
    refine ⟨rfl, abR α t (aF α (z + 1) (ab_slot j 0)), ow, made, beg, R, ob, F, gx_mono X5 (fun _ _ z => z.elim) (by omega) (fun _ z => z), ?_, nn, by omega, by omega⟩
    rw [er]
    exact jr_setReg J (ev.low (by omega) (by omega))
  · rw [if_neg (show ¬ nI g = 0 from nI_ne0 (by omega) (by omega)), if_neg g0, if_pos rfl]
    have X3 := gx_setReg (gx_zero X2) ht (Or.inr ⟨rfl, rfl⟩)
    refine ⟨rfl, abR α t 0, ow, made, beg, R, ob, F, gx_mono X3 (fun _ _ z => z.elim) (by omega) (fun _ z => z), ?_, nn, by omega, by omega⟩
    rw [← nI_0]
    exact jr_setReg (ρ := vGil (vGap ρ (nI (z * 16 + ab_slot j g))) (if g = 1 then 1 else 0)) J (Or.inl rfl)
theorem jc_lookItem (jx : jj κ σ ρ h k N) (o i : Int32) : (sh_lookItem κ σ o i).1 = (rm_lookItem ρ o i).1 ∧ jj κ (sh_lookItem κ σ o i).2 (rm_lookItem ρ o i).2 h k (N + 1) := by
  obtain ⟨α, ow, made, beg, R, ob, F, X, J, nn, l1, l2⟩ := jx
  have hk := X.1.2.2.1
  obtain ⟨eh, X1⟩ := cx_head X o
  unfold sh_lookItem rm_lookItem
  dsimp only
  generalize sh_head κ σ o = hq at eh X1 ⊢
  rw [eh]
  have same : jj κ hq.2 ρ h k (N + 1) := ⟨α, ow, made, beg, R, ob, F, gx_mono X1 (fun _ _ z => z) (by omega) (fun _ z => z), J, nn, by omega, by omega⟩
  rcases jr_hasIt J o i 0 with ⟨b1, b2⟩ | ⟨u, q, n, x, j, har, rfl, rfl, bx, b1, b2, ehd⟩
  · rw [if_pos b1, if_pos b2]; exact ⟨rfl, same⟩
  rw [if_neg b1, if_neg b2, ehd]
  obtain ⟨-, z, g, hit, hz, er⟩ := jr_theItem J har
  rw [er]
  obtain ⟨hu, hq1, hL, hq5, hn, hx, hj, hw, -⟩ := har
  have hx1 : x = 0 := ((nI_eq (a := 0) (by decide) (by omega)).mp bx).symm
  subst hx1
  obtain ⟨-, hg, hgd, hLz, hway, hwz, -, -⟩ := hit
  have hh := jr_h_le n
  obtain ⟨X2, eg⟩ := cx_gap (i := j) (e := 34) X1 J hu hq1 hL hw hh (ha_h hn hx) (by omega) (Or.inl rfl) (by omega)
  generalize sh_gap κ hq.2 (nI u) (hd_arr (nI n) (nI 0)) (nI j) = gp at X2 eg ⊢
  rw [eg, ← hg]
  unfold jr_res
  by_cases g0 : g = 0
  · subst g0
    rw [if_pos (show nI 0 = 0 from rfl), if_pos (show (0 : Nat) = 0 from rfl)]
    have hs := ab_slot_lt j 0
    rw [if_neg (nI_nm1 (by omega)), nI_clamp (by omega)]
    obtain ⟨v, ev, X3⟩ := cx_way (i := j) (lv := 0) X2 J hu hq1 hL hw hh (ha_h hn hx) (by omega) (by omega) (by omega) (by omega)
    rw [congrArg (sh_way κ gp.2 (nI u) (hd_arr (nI n) (nI 0)) (nI j)) (show (0 : Int32) = nI 0 from rfl)]
    generalize sh_way κ gp.2 (nI u) (hd_arr (nI n) (nI 0)) (nI j) (nI 0) = wy at ev X3 ⊢
    rw [ev]
    obtain ⟨lT, lP⟩ := jr_leaf J hLz (x := 0) (by omega) (by omega)
    have evv := gx_val X3 (z := z + 1) (j := ab_slot j 0) (w := v) (Or.inr ⟨hway.symm, rfl⟩) (by omega) (by omega)
    have err := (J.2.2 z hLz).2.2.2.2 (ab_slot j 0) (by omega)
    rw [lT] at evv err
    rw [show 15 * 0 + ab_slot j 0 = ab_slot j 0 by omega] at evv
    rw [show z * 16 + 15 * 0 + ab_slot j 0 = z * 16 + ab_slot j 0 by omega] at err
    rw [evv, err]
    exact ⟨rfl, α, ow, made, beg, R, ob, F, gx_mono (gx_touch X3 (by omega)) (fun _ _ z => z.elim) (by omega) (fun _ z => z), J, nn, by omega, by omega⟩
  · rw [if_neg (show ¬ nI g = 0 from nI_ne0 (by omega) (by omega)), if_neg g0, if_pos rfl]
    exact ⟨rfl, α, ow, made, beg, R, ob, F, gx_mono X2 (fun _ _ z => z) (by omega) (fun _ z => z), J, nn, by omega, by omega⟩
end CALLS3
