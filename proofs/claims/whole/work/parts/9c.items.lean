/-! ===== ITEMS, side by side ===== -/
def ab_pw : Nat → Nat
  | 0 => 1
  | 1 => 15
  | _ => 225
theorem jr_nd {ρ : rm_S} {α : ab_A} {ow : Nat → Nat} {ob x : Nat} (J : jr ρ α ow ob) : ∀ d q, jr_L ρ ob q → ow (q + 1) = 1 + 2 * d + x → ab_nd α d (q + 1) := by
  intro d
  induction d with
  | zero => intro q hL hw; exact trivial
  | succ d ih =>
    intro q hL hw
    have e := J.2.2 q hL
    have t := ((jr_sz e.2.2.1).2.2.2.1 (by omega)).1
    have eT : aT α (q + 1) = 15 := by
      show hT (aH α (q + 1)) = _
      rw [t, if_neg (by omega)]
    refine ⟨eT, fun j hj => ?_⟩
    rcases (e.2.2.2.1 j (by rw [eT]; exact hj)).2 with h | ⟨q', e', hL', -, h3⟩
    · exact Or.inl h
    · refine Or.inr ?_
      have := (h3 (by omega)).2
      rw [e'] at this ⊢
      exact ih q' hL' (by omega)
theorem ab_pwS {d i : Nat} (hd : d ≤ 1) : ab_pw (d + 1) = 15 * ab_pw d ∧ 0 < ab_pw d ∧ ab_pw d ≤ 15 ∧ (ab_pw d = 1 ↔ d = 0) ∧ i % (15 * ab_pw (d + 1)) / ab_pw (d + 1) = ab_slot i (d + 1) ∧ i % (15 * ab_pw (d + 1)) % ab_pw (d + 1) = i % (15 * ab_pw d) := by
  have hc : d = 0 ∨ d = 1 := by omega
  rcases hc with rfl | rfl
  · refine ⟨rfl, by decide, by decide, by decide, ?_, ?_⟩
    · show i % (15 * 15) / 15 = i / 15 % 15
      omega
    · show i % (15 * 15) % 15 = i % (15 * 1)
      omega
  · refine ⟨rfl, by decide, by decide, by decide, ?_, ?_⟩
    · show i % (15 * 225) / 225 = i / 225 % 15
      omega
    · show i % (15 * 225) % 225 = i % (15 * 15)
      omega
def jr_it (ρ : rm_S) (α : ab_A) (ow : Nat → Nat) (ob i x d c q z g : Nat) : Prop :=
  rs_itemN ρ (nI q) (nI (i % (15 * ab_pw d))) (nI (ab_pw d)) c ∧ g = ab_gap α i d (q + 1) ∧ g ≤ d ∧ jr_L ρ ob z ∧ ab_way α i g d (q + 1) = z + 1 ∧ ow (z + 1) = 1 + 2 * g + x ∧ (g ≠ 0 → aF α (z + 1) (ab_slot i g) = 0) ∧
  rm_itemN ρ (nI q) (nI (i % (15 * ab_pw d))) (nI (ab_pw d)) c = (if g = 0 then (nI (z * 16 + ab_slot i 0), ρ) else (-1, vGil (vGap ρ (nI (z * 16 + ab_slot i g))) (if g = 1 then 1 else 0)))
theorem jr_item {ρ : rm_S} {α : ab_A} {ow : Nat → Nat} {ob x i : Nat} (J : jr ρ α ow ob) : ∀ d c q, d ≤ c → d ≤ 2 → jr_L ρ ob q → ow (q + 1) = 1 + 2 * d + x → ∃ z g, jr_it ρ α ow ob i x d c q z g := by
  have hob := J.1.2.1
  intro d
  induction d with
  | zero =>
    intro c q hc h2 hL hw
    have hq := hL.1
    have e : rm_itemN ρ (nI q) (nI (i % (15 * ab_pw 0))) (nI (ab_pw 0)) c = (nI (q * 16 + ab_slot i 0), ρ) := by
      have e1 : nI q * 16 + nI (i % (15 * ab_pw 0)) = nI (q * 16 + ab_slot i 0) := by rw [show (16 : Int32) = nI 16 from rfl, pk_mul, nI_add]; rfl
      cases c with
      | zero => rw [rm_itemN, e1]
      | succ c => rw [rm_itemN, if_pos (show nI (ab_pw 0) ≤ 1 by decide), e1]
    refine ⟨q, 0, ?_, rfl, Nat.le_refl _, hL, rfl, hw, fun z => absurd rfl z, by rw [e, if_pos rfl]⟩
    cases c with
    | zero => exact (show nI (ab_pw 0) ≤ 1 by decide)
    | succ c => exact Or.inl (show nI (ab_pw 0) ≤ 1 by decide)
  | succ d ih =>
    intro c q hc h2 hL hw
    have hq := hL.1
    obtain ⟨p1, p2, p3, p4, p5, p6⟩ := ab_pwS (d := d) (i := i) (by omega)
    have hs := ab_slot_lt i (d + 1)
    have e := J.2.2 q hL
    have t := ((jr_sz e.2.2.1).2.2.2.1 (by omega)).1
    have eT : aT α (q + 1) = 15 := by
      show hT (aH α (q + 1)) = _
      rw [t, if_neg (by omega)]
    obtain ⟨c, rfl⟩ : ∃ c', c = c' + 1 := ⟨c - 1, by omega⟩
    have hlt : i % (15 * ab_pw (d + 1)) < 15 * ab_pw (d + 1) := Nat.mod_lt _ (by omega)
    have hne : ¬ nI (ab_pw (d + 1)) ≤ 1 := nI_ge (a := 1) (by omega) (by omega)
    have e1 : nI q * 16 + nI (i % (15 * ab_pw (d + 1))) / nI (ab_pw (d + 1)) = nI (q * 16 + ab_slot i (d + 1)) := by
      rw [pk_div (by omega) (by omega) (by omega), p5, show (16 : Int32) = nI 16 from rfl, pk_mul, nI_add]
    have e2 : nI (i % (15 * ab_pw (d + 1))) - nI (i % (15 * ab_pw (d + 1))) / nI (ab_pw (d + 1)) * nI (ab_pw (d + 1)) = nI (i % (15 * ab_pw d)) := by
      rw [pk_rem (by omega) (by omega) (by omega), p6]
    have e3 : nI (ab_pw (d + 1)) / 15 = nI (ab_pw d) := by
      rw [show (15 : Int32) = nI 15 from rfl, pk_div (by omega) (by omega) (by omega), p1, Nat.mul_div_cancel_left _ (by omega)]
    have hin : vp_in (nI (q * 16 + ab_slot i (d + 1))) 1921024 := vp_in_nI (by omega) (by decide)
    obtain ⟨er, ev⟩ := e.2.2.2.1 (ab_slot i (d + 1)) (by rw [eT]; exact hs)
    by_cases hz : aF α (q + 1) (ab_slot i (d + 1)) = 0
    · have eg : ab_gap α i (d + 1) (q + 1) = d + 1 := by rw [ab_gap, if_pos hz]
      have er0 : rRow ρ (nI (q * 16 + ab_slot i (d + 1))).toNatClampNeg = 0 := by rw [nI_clamp (by omega), er, hz, nI_0]
      refine ⟨q, d + 1, ?_, eg.symm, Nat.le_refl _, hL, by rw [ab_way, if_pos (Nat.le_refl _)], hw, fun _ => hz, ?_⟩
      · rw [rs_itemN, e1]
        exact Or.inr ⟨hin, Or.inl er0⟩
      · rw [rm_itemN, if_neg hne, e1, if_pos er0, e3, if_neg (show ¬ d + 1 = 0 by omega)]
        by_cases hd0 : d = 0
        · rw [if_pos (show nI (ab_pw d) = 1 by rw [p4.mpr hd0]; rfl), if_pos (show d + 1 = 1 by omega)]
        · rw [if_neg (show ¬ nI (ab_pw d) = 1 from fun z => hd0 (p4.mp ((nI_eq (b := 1) (by omega) (by decide)).mp z))), if_neg (show ¬ d + 1 = 1 by omega)]
    · rcases ev with h | ⟨q', e', hL', -, h3⟩
      · exact absurd h hz
      · have hw' := (h3 (by omega)).2
        have hq' := hL'.1
        rw [e'] at hw'
        have er0 : rRow ρ (nI (q * 16 + ab_slot i (d + 1))).toNatClampNeg = nI (q' + 1) := by rw [nI_clamp (by omega), er, e']
        obtain ⟨z, g, s, hg, hle, hLz, hway, hwz, hF, hr⟩ := ih c q' (by omega) (by omega) hL' (by omega)
        have eg : ab_gap α i (d + 1) (q + 1) = ab_gap α i d (q' + 1) := by rw [ab_gap, if_neg hz, e']
        refine ⟨z, g, ?_, by rw [eg]; exact hg, by omega, hLz, by rw [ab_way, if_neg (by omega), e']; exact hway, hwz, hF, ?_⟩
        · rw [rs_itemN, e1, er0, nI_pred, e2, e3]
          exact Or.inr ⟨hin, Or.inr s⟩
        · rw [rm_itemN, if_neg hne, e1, er0, if_neg (nI_ne0 (by omega) (by omega)), nI_pred, e2, e3]
          exact hr
theorem jr_agree {ρ : rm_S} {α : ab_A} {ow : Nat → Nat} {ob x i o : Nat} {hd : Int32} (J : jr ρ α ow ob) (hn : ¬ jr_L ρ ob o) : ∀ d q, jr_L ρ ob q → ow (q + 1) = 1 + 2 * d + x → ab_gap (abN α (o + 1) hd) i d (q + 1) = ab_gap α i d (q + 1) ∧ ∀ lv, ab_gap α i d (q + 1) ≤ lv → ab_way (abN α (o + 1) hd) i lv d (q + 1) = ab_way α i lv d (q + 1) := by
  intro d
  induction d with
  | zero => intro q hL hw; exact ⟨rfl, fun _ _ => rfl⟩
  | succ d ih =>
    intro q hL hw
    have hs := ab_slot_lt i (d + 1)
    have e := J.2.2 q hL
    have t := ((jr_sz e.2.2.1).2.2.2.1 (by omega)).1
    have eT : aT α (q + 1) = 15 := by
      show hT (aH α (q + 1)) = _
      rw [t, if_neg (by omega)]
    have hne : q + 1 ≠ o + 1 := fun z => hn ((by omega : q = o) ▸ hL)
    have eF : aF (abN α (o + 1) hd) (q + 1) (ab_slot i (d + 1)) = aF α (q + 1) (ab_slot i (d + 1)) := abN_F hne
    rw [ab_gap, ab_gap, eF]
    by_cases hz : aF α (q + 1) (ab_slot i (d + 1)) = 0
    · rw [if_pos hz, if_pos hz]
      refine ⟨rfl, fun lv hlv => ?_⟩
      rw [ab_way, ab_way, if_pos hlv, if_pos hlv]
    · rw [if_neg hz, if_neg hz]
      rcases (e.2.2.2.1 (ab_slot i (d + 1)) (by rw [eT]; exact hs)).2 with h | ⟨q', e', hL', -, h3⟩
      · exact absurd h hz
      · have hw' := (h3 (by omega)).2
        rw [e'] at hw' ⊢
        obtain ⟨a1, a2⟩ := ih q' hL' (by omega)
        refine ⟨a1, fun lv hlv => ?_⟩
        rw [ab_way, ab_way, eF, e']
        by_cases hd1 : d + 1 ≤ lv
        · rw [if_pos hd1, if_pos hd1]
        · rw [if_neg hd1, if_neg hd1]; exact a2 lv hlv
/-- the class's gap and way from a register that holds an array or its node -/
theorem cx_gap {κ : sh_K} {σ : sh_S} {ρ : rm_S} {α : ab_A} {ow : Nat → Nat} {h k made beg R ob c e x i d t q : Nat} {hd : Int32} {W : Nat → Int32 → Prop} (X : gc_X κ σ α h k made beg R (jr_U ρ ob) W c) (J : jr ρ α ow ob) (ht : t < 8) (hq : aR α t = q + 1) (hL : jr_L ρ ob q) (hw : ow (q + 1) = 1 + 2 * d + x) (hd2 : d ≤ 2) (hh : hd_height hd = nI d) (hi : i < 2 ^ 20) (he : e = 34 ∨ (e = 1 ∧ R ≤ k * made)) (hb : c + e * d ≤ 700 * k + 200) :
    gc_X κ (sh_gap κ σ (nI t) hd (nI i)).2 α h k made beg R (jr_U ρ ob) W (c + e * d) ∧ (sh_gap κ σ (nI t) hd (nI i)).1 = nI (ab_gap α i d (q + 1)) := by
  have X1 := gx_reg X ht
  obtain ⟨X2, e2⟩ := gx_gapN hi he d 3 σ _ c (q + 1) (sh_reg σ (nI t)) (by omega) hd2 X1 (Or.inr ⟨hq.symm, rfl⟩) (by omega) (jr_nd J d q hL hw) hb
  unfold sh_gap
  rw [hh]
  exact ⟨gx_mono X2 (fun _ _ z => Or.inl z) (Nat.le_refl _) (fun _ z => z), e2⟩
theorem cx_way {κ : sh_K} {σ : sh_S} {ρ : rm_S} {α : ab_A} {ow : Nat → Nat} {h k made beg R ob c x i d t q lv : Nat} {hd : Int32} {W : Nat → Int32 → Prop} (X : gc_X κ σ α h k made beg R (jr_U ρ ob) W c) (J : jr ρ α ow ob) (ht : t < 8) (hq : aR α t = q + 1) (hL : jr_L ρ ob q) (hw : ow (q + 1) = 1 + 2 * d + x) (hd2 : d ≤ 2) (hh : hd_height hd = nI d) (hi : i < 2 ^ 20) (hlv : lv ≤ 2) (hg : ab_gap α i d (q + 1) ≤ lv) (hb : c + 34 * (d - lv) ≤ 700 * k + 200) :
    ∃ v, (sh_way κ σ (nI t) hd (nI i) (nI lv)).1 = v + 1 + nI (ab_slot i lv) ∧ gc_X κ (sh_way κ σ (nI t) hd (nI i) (nI lv)).2 α h k made beg R (jr_U ρ ob) (fun r w => W r w ∨ (r = ab_way α i lv d (q + 1) ∧ w = v)) (c + 34 * (d - lv)) := by
  have X1 := gx_reg X ht
  obtain ⟨X2, -⟩ := gx_wayN hi hlv d 3 σ _ c (q + 1) (sh_reg σ (nI t)) (by omega) hd2 X1 (Or.inr ⟨hq.symm, rfl⟩) (by omega) (jr_nd J d q hL hw) (ab_wk_of d (q + 1) hg) hb
  unfold sh_way
  rw [hh]
  refine ⟨_, by rw [ab_slotI hi hlv], gx_mono X2 (fun r w z => ?_) (Nat.le_refl _) (fun _ z => z)⟩
  rcases z with z | z
  · exact Or.inl (Or.inl z)
  · exact Or.inr z
