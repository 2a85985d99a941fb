/-! ===== putItem and setItem, side by side ===== -/
theorem hd_new {g x n : Nat} (hg1 : 1 ≤ g) (hg2 : g ≤ 2) (hn : n ≤ 3375) (hx : x < 2) : hd_node (if nI g ≤ 1 then hd_refIt (hd_arr (nI n) (nI x)) else 1) = hd_obj (nI (if g - 1 + x = 0 then 0 else 15)) (nI (if g - 1 + x = 0 then 15 else 0)) := by
  rw [(ha_T hn hx).2.1]
  have h1 : g = 1 ∨ g = 2 := by omega
  have h2 : x = 0 ∨ x = 1 := by omega
  rcases h1 with rfl | rfl
  · rcases h2 with rfl | rfl <;> decide
  · rcases h2 with rfl | rfl <;> decide
theorem rm_fillI {k lim : Int32} {ρ ρ' : rm_S} {g x : Nat} {m : Int64} (hg1 : 1 ≤ g) (hx : x < 2) (e : rm_room k lim ρ 16 = (1, vMade ρ' m)) (eg : rGil ρ' = (if g = 1 then 1 else 0)) : rm_fill k lim ρ (nI x) = (2, rm_filFin (rGap ρ') (rm_add (vMade ρ' m) (nI 3) (nI (if g - 1 + x = 0 then 0 else 15)) (nI (if g - 1 + x = 0 then 15 else 0)))) := by
  unfold rm_fill
  rw [e]
  rw [if_neg (show ¬ (1 : Int32) = 0 by decide)]
  have h2 : x = 0 ∨ x = 1 := by omega
  rcases h2 with rfl | rfl
  · rw [if_pos (show nI 0 = 0 from rfl)]
    by_cases h1 : g = 1
    · subst h1
      rw [if_neg (show ¬ rGil (vMade ρ' m) = 0 by show ¬ rGil ρ' = 0; rw [eg]; decide)]
      rfl
    · rw [if_pos (show rGil (vMade ρ' m) = 0 by show rGil ρ' = 0; rw [eg, if_neg h1]), if_neg (show ¬ g - 1 + 0 = 0 by omega), if_neg (show ¬ g - 1 + 0 = 0 by omega)]
      rfl
  · rw [if_neg (show ¬ nI 1 = 0 by decide), if_neg (show ¬ g - 1 + 1 = 0 by omega), if_neg (show ¬ g - 1 + 1 = 0 by omega)]
    rfl
theorem rm_eta (ρ : rm_S) : ρ = vOfr (vLen ρ (rLen ρ)) (rOfr ρ) := rfl
theorem jr_U_row {ρ : rm_S} {f : Nat → Int32} {ob p : Nat} (h : jr_U ρ ob p) : jr_U (vRow ρ f) ob p := h
theorem jn_row {ρ : rm_S} {f : Nat → Int32} {made R beg ob : Nat} {F : List Nat} (h : jn ρ made R beg ob F) : jn (vRow ρ f) made R beg ob F := h
theorem jx_link {κ : sh_K} {σ : sh_S} {ρ : rm_S} {α : ab_A} {ow : Nat → Nat} {h k N made beg R ob t q n x j z g : Nat} {F : List Nat} (X : gc_X κ σ α h k made beg R (jr_U ρ ob) (fun _ _ => False) 267) (J : jr ρ α ow ob) (nn : jn ρ made R beg ob F) (l1 : ob ≤ N) (l2 : beg ≤ N + 1) (hN : N + 1 < 100000)
    (ht : t < 8) (hq : aR α t = q + 1) (hn : n ≤ 3375) (hx : x < 2) (hj : j < n) (hw : ow (q + 1) = 1 + 2 * jr_h n + x) (hg : g = ab_gap α j (jr_h n) (q + 1)) (hg0 : g ≠ 0) (hgd : g ≤ jr_h n) (hway : ab_way α j g (jr_h n) (q + 1) = z + 1)
    (hr : R + made + 16 ≤ 2 * h + 64) (hc : ¬ R ≤ k * made ∨ R + made + 16 ≤ h * k / (k + 1) ∨ made = 0) (eG : rGap ρ = nI (z * 16 + ab_slot j g)) {hd : Int32} (ehd : hd = hd_obj (nI (if g - 1 + x = 0 then 0 else 15)) (nI (if g - 1 + x = 0 then 15 else 0))) :
    jj κ (sh_link κ (sh_way κ (sh_place κ σ hd).2 (nI t) (hd_arr (nI n) (nI x)) (nI j) (nI g)).2 (sh_way κ (sh_place κ σ hd).2 (nI t) (hd_arr (nI n) (nI x)) (nI j) (nI g)).1 (sh_place κ σ hd).1)
      (rm_filFin (rGap ρ) (rm_add (vMade ρ (lN (made + 16))) (nI 3) (nI (if g - 1 + x = 0 then 0 else 15)) (nI (if g - 1 + x = 0 then 15 else 0)))) h k (N + 1) := by
  have hk := X.1.2.2.1
  have hh := jr_h_le n
  have hob := J.1.2.1
  have hLq : jr_L ρ ob q := by
    rcases (J.2.1 t ht).2 with h0 | ⟨q', e', hL', -⟩
    · omega
    · have : q' = q := by omega
      exact this ▸ hL'
  obtain ⟨z', g', -, hg', hgd', hLz, hway', hwz, hF, -⟩ := jr_item (i := j) J (jr_h n) 3 q (by omega) hh hLq hw
  have eg : g' = g := by rw [hg', hg]
  subst eg
  have ez : z' = z := by
    rw [hway] at hway'
    omega
  subst ez
  have hs := ab_slot_lt j g'
  have hz := hLz.1
  have q1 : (if g' - 1 + x = 0 then 0 else 15) < 16 := by split <;> omega
  have q2 : (if g' - 1 + x = 0 then 15 else 0) < 16 := by split <;> omega
  obtain ⟨t1, t2, -, -⟩ := ho_T q1 q2
  rw [← ehd] at t1 t2
  have eC : hC hd = 16 := by
    unfold hC
    rw [t1, t2]
    split <;> rfl
  obtain ⟨o, ob', F2, hf, hle, ea, hadd⟩ := jx_add (hd := hd) (w := 1 + 2 * (g' - 1) + x) (kn := 3) X J nn (by omega) (by rw [eC]; exact hc) (by omega) (by omega) (by omega) (by omega)
  obtain ⟨r1, r2, r3⟩ := rm_addL (vMade ρ (lN (made + 16))) (nI 3) (nI (if g' - 1 + x = 0 then 0 else 15)) (nI (if g' - 1 + x = 0 then 15 else 0))
  rw [t1, t2, eC] at ea hadd
  obtain ⟨ek, hx2⟩ := hadd (rLen (rm_add (vMade ρ (lN (made + 16))) (nI 3) (nI (if g' - 1 + x = 0 then 0 else 15)) (nI (if g' - 1 + x = 0 then 15 else 0))).2) (rOfr (rm_add (vMade ρ (lN (made + 16))) (nI 3) (nI (if g' - 1 + x = 0 then 0 else 15)) (nI (if g' - 1 + x = 0 then 15 else 0))).2) (fun q _ => ⟨congrFun r1 q, congrFun r2 q⟩)
    (rm_add (vMade ρ (lN (made + 16))) (nI 3) (nI (if g' - 1 + x = 0 then 0 else 15)) (nI (if g' - 1 + x = 0 then 15 else 0))).2 (rm_eta _)
  obtain ⟨X3, J3, n3, hL3, hLo, -⟩ := hx2 (Or.inr (Or.inr ⟨ek, g' - 1, x, by omega, hx, if_pos rfl, ehd⟩))
  clear hadd hx2 r1 r2 r3
  generalize rm_add (vMade ρ (lN (made + 16))) (nI 3) (nI (if g' - 1 + x = 0 then 0 else 15)) (nI (if g' - 1 + x = 0 then 15 else 0)) = ad at ea ek X3 J3 n3 hL3 hLo ⊢
  generalize sh_place κ σ hd = pl at X3 ⊢
  have hnq : ¬ q + 1 = o + 1 := fun e => hf.nL ((by omega : q = o) ▸ hLq)
  have hnz : ¬ z' + 1 = o + 1 := fun e => hf.nL ((by omega : z' = o) ▸ hLz)
  obtain ⟨ag, aw⟩ := jr_agree (hd := hd) (i := j) J hf.nL (jr_h n) q hLq hw
  obtain ⟨v, ev, X4⟩ := cx_way (i := j) (lv := g') (x := x) X3 J3 ht (show aR (abN α (o + 1) hd) t = q + 1 from hq) (hL3 q hLq) (by show (if q + 1 = o + 1 then _ else ow (q + 1)) = _; rw [if_neg hnq]; exact hw) hh (ha_h hn hx) (by omega) (by omega) (by rw [ag, ← hg]; exact Nat.le_refl _) (by omega)
  have hwz2 : ab_way (abN α (o + 1) hd) j g' (jr_h n) (q + 1) = z' + 1 := by rw [aw g' (by rw [← hg]; exact Nat.le_refl _)]; exact hway
  generalize sh_way κ pl.2 (nI t) (hd_arr (nI n) (nI x)) (nI j) (nI g') = wy at ev X4 ⊢
  rw [ev]
  have eT : aT (abN α (o + 1) hd) (z' + 1) = 15 := by
    show hT (aH (abN α (o + 1) hd) (z' + 1)) = 15
    rw [abN_H hnz, ((jr_sz (J.2.2 z' hLz).2.2.1).2.2.2.1 (by omega)).1, if_neg (by omega)]
  have eF0 : aF (abN α (o + 1) hd) (z' + 1) (ab_slot j g') = 0 := by rw [abN_F hnz]; exact hF hg0
  have X5 := gx_link X4 (e := 1) (z := z' + 1) (j := ab_slot j g') (r := o + 1) (w := v) (v := pl.1) (Or.inr ⟨hwz2.symm, rfl⟩) (by omega) (by rw [eT]; exact hs) (Or.inl (Or.inr ⟨rfl, rfl⟩)) (Or.inr ⟨rfl, Or.inr eF0⟩) (by omega)
  have J5 := jr_F (z := z') (j := ab_slot j g') (r := o + 1) J3 (hL3 z' hLz) (by rw [eT]; exact hs) (Or.inr ⟨o, rfl, hLo, fun hle => by
    have hle : (if z' + 1 = o + 1 then _ else ow (z' + 1)) ≤ 2 := hle
    rw [if_neg hnz] at hle
    omega, fun _ => ⟨ek, by
      show (if o + 1 = o + 1 then 1 + 2 * (g' - 1) + x else ow (o + 1)) + 2 = (if z' + 1 = o + 1 then _ else ow (z' + 1))
      rw [if_pos rfl, if_neg hnz, hwz]
      omega⟩⟩)
  unfold rm_filFin
  rw [eG, nI_clamp (by omega), ea, nI_1]
  exact ⟨_, _, _, _, _, ob', F2, gx_mono X5 (fun _ _ z => z.elim) (by omega) (fun _ z => jr_U_row z), J5, jn_row n3, by omega, by omega⟩
theorem jx_open {κ : sh_K} {σ : sh_S} {ρ : rm_S} {α : ab_A} {ow : Nat → Nat} {h k N made beg R ob t q n x j z g : Nat} {F : List Nat} (X : gc_X κ σ α h k made beg R (jr_U ρ ob) (fun _ _ => False) 1) (J : jr ρ α ow ob) (nn : jn ρ made R beg ob F) (l1 : ob ≤ N) (l2 : beg ≤ N) (hN : N + 1 < 100000) (har : jr_ar ρ α ow ob t q n x j) (hit : jr_it ρ α ow ob j x (jr_h n) 3 q z g) :
    (g = 0 → (sh_open κ σ (nI t) (hd_arr (nI n) (nI x)) (nI j)).1 = 1 ∧ gc_X κ (sh_open κ σ (nI t) (hd_arr (nI n) (nI x)) (nI j)).2 α h k made beg R (jr_U ρ ob) (fun _ _ => False) 69) ∧
    (g ≠ 0 → ¬ (sh_open κ σ (nI t) (hd_arr (nI n) (nI x)) (nI j)).1 = 1 ∧ (sh_open κ σ (nI t) (hd_arr (nI n) (nI x)) (nI j)).1 = (rm_fill (nI k) (nI (h * k / (k + 1))) (vGil (vGap ρ (nI (z * 16 + ab_slot j g))) (if g = 1 then 1 else 0)) (nI x)).1 ∧
      jj κ (sh_open κ σ (nI t) (hd_arr (nI n) (nI x)) (nI j)).2 (rm_fill (nI k) (nI (h * k / (k + 1))) (vGil (vGap ρ (nI (z * 16 + ab_slot j g))) (if g = 1 then 1 else 0)) (nI x)).2 h k (N + 1)) := by
  have hk := X.1.2.2.1
  have hh := jr_h_le n
  obtain ⟨ht, hq, hL, hq5, hn, hx, hj, hw, -⟩ := har
  obtain ⟨-, hg, hgd, hLz, hway, hwz, hF, -⟩ := hit
  obtain ⟨e, he, hb1, hb2⟩ : ∃ e, (e = 34 ∨ (e = 1 ∧ R ≤ k * made)) ∧ 1 + e * jr_h n ≤ 69 ∧ (R ≤ k * made → 1 + e * jr_h n + 264 ≤ 267) := by
    by_cases c : R ≤ k * made
    · exact ⟨1, Or.inr ⟨rfl, c⟩, by omega, fun _ => by omega⟩
    · exact ⟨34, Or.inl rfl, by omega, fun z => absurd z c⟩
  obtain ⟨X2, eg⟩ := cx_gap (i := j) (e := e) X J ht hq hL hw hh (ha_h hn hx) (by omega) he (by omega)
  unfold sh_open
  dsimp only
  generalize sh_gap κ σ (nI t) (hd_arr (nI n) (nI x)) (nI j) = gp at X2 eg ⊢
  rw [eg, ← hg]
  refine ⟨fun g0 => ?_, fun g0 => ?_⟩
  · rw [if_pos (show nI g = 0 by rw [g0]; rfl)]
    exact ⟨rfl, gx_mono X2 (fun _ _ z => z) hb1 (fun _ z => z)⟩
  · rw [if_neg (show ¬ nI g = 0 from nI_ne0 (by omega) (by omega)), hd_new (by omega) (by omega) hn hx]
    generalize hρi : vGil (vGap ρ (nI (z * 16 + ab_slot j g))) (if g = 1 then 1 else 0) = ρi
    have Ji : jr ρi α ow ob := by rw [← hρi]; exact J
    have ni : jn ρi made R beg ob F := by rw [← hρi]; exact nn
    have Xi : gc_X κ gp.2 α h k made beg R (jr_U ρi ob) (fun _ _ => False) (1 + e * jr_h n) := by rw [← hρi]; exact X2
    have gG : rGap ρi = nI (z * 16 + ab_slot j g) := by rw [← hρi]
    have gL : rGil ρi = (if g = 1 then 1 else 0) := by rw [← hρi]
    have e16 : (16 : Int32) = nI 16 := rfl
    rcases jx_room (C := 267) (n := 16) Xi Ji ni (by omega) (by omega) hb2 (by omega) with ⟨e1, e2⟩ | ⟨σ', ρ', made', beg', R', F', e1, e2, X', J', nn', hr, hc, ep, el, hbeg⟩
    · have ef : rm_fill (nI k) (nI (h * k / (k + 1))) ρi (nI x) = (0, ρi) := by
        unfold rm_fill
        rw [e16, e2, if_pos rfl]
      rw [ef, e16, e1, if_pos rfl]
      exact ⟨(show ¬ (0 : Int32) = 1 by decide), rfl, α, ow, made, beg, R, ob, F, gx_mono Xi (fun _ _ z => z) (by omega) (fun _ z => z), Ji, ni, by omega, by omega⟩
    · rw [rm_fillI (g := g) (by omega) hx (by rw [e16]; exact e2) (by rw [el]; exact gL), e16, e1, if_neg (show ¬ (1 : Int32) = 0 by decide)]
      refine ⟨(show ¬ (2 : Int32) = 1 by decide), rfl, ?_⟩
      dsimp only
      exact jx_link X' J' nn' l1 (by omega) hN ht hq hn hx hj hw hg g0 hgd hway hr hc (by rw [ep]; exact gG) rfl
section CALLS4
variable {κ : sh_K} {σ : sh_S} {ρ : rm_S} {h k N : Nat}
theorem jc_putItem (jx : jj κ σ ρ h k N) (hN : N + 1 < 100000) (o i r : Int32) : (sh_putItem κ σ o i r).1 = (rm_putItem (nI k) (nI (h * k / (k + 1))) ρ o i r).1 ∧ jj κ (sh_putItem κ σ o i r).2 (rm_putItem (nI k) (nI (h * k / (k + 1))) ρ o i r).2 h k (N + 1) := by
  obtain ⟨α, ow, made, beg, R, ob, F, X, J, nn, l1, l2⟩ := jx
  have hk := X.1.2.2.1
  obtain ⟨eh, X1⟩ := cx_head X o
  unfold sh_putItem rm_putItem
  dsimp only
  generalize sh_head κ σ o = hq at eh X1 ⊢
  rw [eh]
  have same : jj κ hq.2 ρ h k (N + 1) := ⟨α, ow, made, beg, R, ob, F, gx_mono X1 (fun _ _ z => z) (by omega) (fun _ z => z), J, nn, by omega, by omega⟩
  by_cases c1 : sh_isReg r = 0
  · rw [if_pos c1, if_pos c1]; exact ⟨rfl, same⟩
  rw [if_neg c1, if_neg c1]
  rcases jr_hasIt J o i 1 with ⟨b1, b2⟩ | ⟨u, q, n, x, j, har, rfl, rfl, bx, b1, b2, ehd⟩
  · rw [if_pos b1, if_pos b2]; exact ⟨rfl, same⟩
  rw [if_neg b1, if_neg b2, ehd]
  obtain ⟨t, ht, rfl⟩ := ri_isReg c1
  obtain ⟨-, z, g, hit, hz, er⟩ := jr_theItem J har
  rw [er]
  obtain ⟨o1, o2⟩ := jx_open X1 J nn l1 l2 hN har hit
  generalize sh_open κ hq.2 (nI u) (hd_arr (nI n) (nI x)) (nI j) = op at o1 o2 ⊢
  obtain ⟨hu, hq1, hL, hq5, hn, hx, hj, hw, -⟩ := har
  have hx1 : x = 1 := ((nI_eq (a := 1) (by decide) (by omega)).mp bx).symm
  subst hx1
  obtain ⟨-, hg, hgd, hLz, hway, hwz, -, -⟩ := hit
  have hh := jr_h_le n
  unfold jr_res
  by_cases g0 : g = 0
  · obtain ⟨a1, X2⟩ := o1 g0
    clear o1 o2
    subst g0
    have hs := ab_slot_lt j 0
    rw [a1, if_pos rfl, if_pos (show (0 : Nat) = 0 from rfl), if_neg (nI_nm1 (by omega)), nI_clamp (by omega)]
    obtain ⟨v, ev, X3⟩ := cx_way (i := j) (lv := 0) X2 J hu hq1 hL hw hh (ha_h hn hx) (by omega) (by omega) (by omega) (by omega)
    rw [congrArg (sh_way κ op.2 (nI u) (hd_arr (nI n) (nI 1)) (nI j)) (show (0 : Int32) = nI 0 from rfl)]
    generalize sh_way κ op.2 (nI u) (hd_arr (nI n) (nI 1)) (nI j) (nI 0) = wy at ev X3 ⊢
    rw [ev]
    obtain ⟨lT, -⟩ := jr_leaf J hLz (x := 1) (by omega) (by omega)
    have X4 := gx_link (gx_reg X3 ht) (e := 34) (z := z + 1) (j := ab_slot j 0) (w := v) (r := aR α t) (v := sh_reg wy.2 (nI t)) (Or.inl (Or.inr ⟨hway.symm, rfl⟩)) (by omega) (by omega) (Or.inr ⟨rfl, rfl⟩) (Or.inl rfl) (by omega)
    obtain ⟨er, ev⟩ := J.2.1 t ht
    refine ⟨rfl, abF α (z + 1) (ab_slot j 0) (aR α t), ow, made, beg, R, ob, F, gx_mono X4 (fun _ _ z => z.elim) (by omega) (fun _ z => z), ?_, nn, by omega, by omega⟩
    rw [nI_clamp (show t < 2 ^ 31 by omega), er]
    exact jr_F J hLz (by omega) (ev.low (by omega) (by omega))
  · obtain ⟨a1, a2, a3⟩ := o2 g0
    clear o1 o2
    rw [if_neg a1, if_neg g0, if_pos rfl]
    exact ⟨a2, a3⟩
theorem jc_setItem (jx : jj κ σ ρ h k N) (hN : N + 1 < 100000) (o i v : Int32) : (sh_setItem κ σ o i v).1 = (rm_setItem (nI k) (nI (h * k / (k + 1))) ρ o i v).1 ∧ jj κ (sh_setItem κ σ o i v).2 (rm_setItem (nI k) (nI (h * k / (k + 1))) ρ o i v).2 h k (N + 1) := by
  obtain ⟨α, ow, made, beg, R, ob, F, X, J, nn, l1, l2⟩ := jx
  have hk := X.1.2.2.1
  obtain ⟨eh, X1⟩ := cx_head X o
  unfold sh_setItem rm_setItem
  dsimp only
  generalize sh_head κ σ o = hq at eh X1 ⊢
  rw [eh]
  have same : jj κ hq.2 ρ h k (N + 1) := ⟨α, ow, made, beg, R, ob, F, gx_mono X1 (fun _ _ z => z) (by omega) (fun _ z => z), J, nn, by omega, by omega⟩
  rcases jr_hasIt J o i 0 with ⟨b1, b2⟩ | ⟨u, q, n, x, j, har, rfl, rfl, bx, b1, b2, ehd⟩
  · rw [if_pos b1, if_pos b2]; exact ⟨rfl, same⟩
  rw [if_neg b1, if_neg b2, ehd]
  obtain ⟨-, z, g, hit, hz, er⟩ := jr_theItem J har
  rw [er]
  obtain ⟨o1, o2⟩ := jx_open X1 J nn l1 l2 hN har hit
  generalize sh_open κ hq.2 (nI u) (hd_arr (nI n) (nI x)) (nI j) = op at o1 o2 ⊢
  obtain ⟨hu, hq1, hL, hq5, hn, hx, hj, hw, -⟩ := har
  have hx1 : x = 0 := ((nI_eq (a := 0) (by decide) (by omega)).mp bx).symm
  subst hx1
  obtain ⟨-, hg, hgd, hLz, hway, hwz, -, -⟩ := hit
  have hh := jr_h_le n
  unfold jr_res
  by_cases g0 : g = 0
  · obtain ⟨a1, X2⟩ := o1 g0
    clear o1 o2
    subst g0
    have hs := ab_slot_lt j 0
    rw [a1, if_pos rfl, if_pos (show (0 : Nat) = 0 from rfl), if_neg (nI_nm1 (by omega)), nI_clamp (by omega)]
    obtain ⟨w, ev, X3⟩ := cx_way (i := j) (lv := 0) X2 J hu hq1 hL hw hh (ha_h hn hx) (by omega) (by omega) (by omega) (by omega)
    rw [congrArg (sh_way κ op.2 (nI u) (hd_arr (nI n) (nI 0)) (nI j)) (show (0 : Int32) = nI 0 from rfl)]
    generalize sh_way κ op.2 (nI u) (hd_arr (nI n) (nI 0)) (nI j) (nI 0) = wy at ev X3 ⊢
    rw [ev]
    obtain ⟨lT, lP⟩ := jr_leaf J hLz (x := 0) (by omega) (by omega)
    have X4 := gx_write X3 (z := z + 1) (j := ab_slot j 0) (w := w) (v := v) (Or.inr ⟨hway.symm, rfl⟩) (by omega) (by omega) (by omega)
    have J4 := jr_I (v := v) (j := ab_slot j 0) J hLz (by omega)
    rw [lT, show 15 * 0 + ab_slot j 0 = ab_slot j 0 by omega] at X4
    rw [lT, show z * 16 + 15 * 0 + ab_slot j 0 = z * 16 + ab_slot j 0 by omega] at J4
    exact ⟨rfl, abI α (z + 1) (ab_slot j 0) v, ow, made, beg, R, ob, F, gx_mono X4 (fun _ _ z => z.elim) (by omega) (fun _ z => z), J4, nn, by omega, by omega⟩
  · obtain ⟨a1, a2, a3⟩ := o2 g0
    clear o1 o2
    rw [if_neg a1, if_neg g0, if_pos rfl]
    exact ⟨a2, a3⟩
theorem jc_safe (jx : jj κ σ ρ h k N) (lim o i : Int32) : rs_make (nI k) lim ρ ∧ rs_it ρ o i ∧ ((∃ x, ¬ rm_hasItem ρ o i x = 0) → (rm_item ρ o i).1 = -1 → rs_fill (nI k) lim (rm_item ρ o i).2) := by
  obtain ⟨α, ow, made, beg, R, ob, F, X, J, nn, l1, l2⟩ := jx
  exact ⟨(jx_safe J nn).1, jr_rsit J o i, jr_rsfill J nn o i⟩
end CALLS4
