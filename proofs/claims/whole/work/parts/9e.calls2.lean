/-! ===== make and array, side by side ===== -/
theorem rm_addL (ρ : rm_S) (w r i : Int32) : rLen (rm_add ρ w r i).2 = rLen ρ ∧ rOfr (rm_add ρ w r i).2 = rOfr ρ ∧ rReg (rm_add ρ w r i).2 = rReg ρ := by
  unfold rm_add rm_tk
  split <;> exact ⟨rfl, rfl, rfl⟩
theorem jx_fill {κ : sh_K} {σ : sh_S} {ρ : rm_S} {α : ab_A} {ow : Nat → Nat} {h k N made beg R ob t kn w : Nat} {hd : Int32} {F : List Nat} (X : gc_X κ σ α h k made beg R (jr_U ρ ob) (fun _ _ => False) (700 * k + 200)) (J : jr ρ α ow ob) (nn : jn ρ made R beg ob F) (l1 : ob ≤ N) (l2 : beg ≤ N) (hN : N + 1 < 100000) (ht : t < 8) (hC16 : hC hd ≤ 16) (hk1 : 1 ≤ kn) (hk2 : kn ≤ 2) :
    ((sh_fill κ σ (nI t) hd).1 = 0 ∧ rm_room (nI k) (nI (h * k / (k + 1))) ρ (nI (hC hd)) = (0, ρ) ∧ jj κ (sh_fill κ σ (nI t) hd).2 ρ h k (N + 1)) ∨
    ((sh_fill κ σ (nI t) hd).1 = 1 ∧ (rm_room (nI k) (nI (h * k / (k + 1))) ρ (nI (hC hd))).1 = 1 ∧ ∃ (o : Nat) (a : Int32 × rm_S), o < 110000 ∧ rm_add (rm_room (nI k) (nI (h * k / (k + 1))) ρ (nI (hC hd))).2 (nI kn) (nI (hT hd)) (nI (hP hd)) = a ∧ a.1 = nI o ∧
      ∀ (ln of : Nat → Int32), (∀ q, q ≠ o → ln q = rLen a.2 q ∧ of q = rOfr a.2 q) → rKind (vOfr (vLen a.2 ln) of) o = nI kn ∧ (jr_s (vOfr (vLen a.2 ln) of) (fun p => if p = o + 1 then w else ow p) hd o →
        jj κ (sh_fill κ σ (nI t) hd).2 (vReg (vOfr (vLen a.2 ln) of) (upd (rReg a.2) t (a.1 + 1))) h k (N + 1))) := by
  have hk := X.1.2.2.1
  have X0 := gx_start X
  have eC : hd_cells hd = nI (hC hd) := hC_eq hd
  unfold sh_fill
  dsimp only
  rw [eC]
  rcases jx_room X0 J nn (n := hC hd) (C := 264) hC16 (by omega) (fun _ => by omega) (by omega) with ⟨e1, e2⟩ | ⟨σ', ρ', made', beg', R', F', e1, e2, X', J', nn', hr, hc, -, -, hbeg⟩
  · rw [e1, e2]
    exact Or.inl ⟨rfl, rfl, α, ow, made, beg, R, ob, F, gx_mono X0 (fun _ _ z => z) (by omega) (fun _ z => z), J, nn, by omega, by omega⟩
  · rw [e1, e2]
    refine Or.inr ?_
    obtain ⟨o, ob', F2, hf, hle, ea, hadd⟩ := jx_add (w := w) (kn := kn) X' J' nn' hr hc (by omega) (by omega) hk1 (by omega)
    obtain ⟨r1, r2, r3⟩ := rm_addL (vMade ρ' (lN (made' + hC hd))) (nI kn) (nI (hT hd)) (nI (hP hd))
    have ho : o < 110000 := by
      rcases hf with ⟨h1, -, -⟩ | ⟨h1, -⟩ <;> omega
    refine ⟨rfl, rfl, o, _, ho, rfl, ea, fun ln of hq => ?_⟩
    obtain ⟨ek, hx⟩ := hadd ln of (fun q hne => by
      obtain ⟨a1, a2⟩ := hq q hne
      rw [a1, a2]
      exact ⟨congrFun r1 q, congrFun r2 q⟩) _ rfl
    refine ⟨ek, fun hs => ?_⟩
    obtain ⟨X2, J2, n2, hL2, hLo, er⟩ := hx hs
    generalize rm_add (vMade ρ' (lN (made' + hC hd))) (nI kn) (nI (hT hd)) (nI (hP hd)) = a at ea r1 r2 r3 hq ek hs X2 J2 n2 hL2 hLo er ⊢
    have X3 := gx_setReg X2 ht (Or.inr ⟨rfl, rfl⟩)
    have hk2' : rKind (vOfr (vLen a.2 ln) of) o ≠ 3 := by
      rw [ek]
      exact fun z => absurd ((nI_eq (b := 3) (by omega) (by decide)).mp z) (by omega)
    have J3 := jr_setReg (t := t) (r := o + 1) J2 (Or.inr ⟨o, rfl, hLo, fun _ => hk2', fun z => by omega⟩)
    rw [ea, nI_1]
    exact ⟨_, _, _, _, _, ob', F2, gx_mono X3 (fun _ _ z => z.elim) (by omega) (fun _ z => z), J3, n2, by omega, by omega⟩
theorem jc_make {κ : sh_K} {σ : sh_S} {ρ : rm_S} {h k N : Nat} (jx : jj κ σ ρ h k N) (hN : N + 1 < 100000) (g r i : Int32) : (sh_make κ σ g r i).1 = (rm_make (nI k) (nI (h * k / (k + 1))) ρ g r i).1 ∧ jj κ (sh_make κ σ g r i).2 (rm_make (nI k) (nI (h * k / (k + 1))) ρ g r i).2 h k (N + 1) ∧ rs_make (nI k) (nI (h * k / (k + 1))) ρ := by
  have same := jc_mono jx
  obtain ⟨α, ow, made, beg, R, ob, F, X, J, nn, l1, l2⟩ := jx
  have hsafe := (jx_safe (k := nI k) (lim := nI (h * k / (k + 1))) J nn).1
  suffices q : (sh_make κ σ g r i).1 = (rm_make (nI k) (nI (h * k / (k + 1))) ρ g r i).1 ∧ jj κ (sh_make κ σ g r i).2 (rm_make (nI k) (nI (h * k / (k + 1))) ρ g r i).2 h k (N + 1) from ⟨q.1, q.2, hsafe⟩
  unfold sh_make rm_make
  by_cases c1 : sh_isReg g = 0
  · rw [if_pos c1, if_pos c1]; exact ⟨rfl, same⟩
  rw [if_neg c1, if_neg c1]
  have e16 : (16 : Int32) = nI 16 := rfl
  rcases sb_cases r (n := 16) (by decide) with ⟨h1, h2⟩ | ⟨a, ha, rfl, hs1⟩
  · rw [if_pos (show sh_shape r i = 0 by unfold sh_shape; rw [e16, if_pos h1])]
    rcases h2 with h2 | ⟨h2, h3⟩
    · rw [if_pos h2]; exact ⟨rfl, same⟩
    · rw [if_neg h2]
      obtain ⟨a, ha, rfl⟩ := nI_of h2
      have : 16 ≤ a := (nI_leI (by decide) ha).mp h3
      by_cases c2 : i < 0
      · rw [if_pos c2]; exact ⟨rfl, same⟩
      · rw [if_neg c2, if_pos (show (15 : Int32) < nI a from nI_lt (a := 15) (by omega) ha)]; exact ⟨rfl, same⟩
  rw [if_neg (show ¬ nI a < 0 from nI_pos (by omega)), if_neg (show ¬ (15 : Int32) < nI a from nI_nlt (b := a) (a := 15) (by omega) (by decide)), show (15 : Int32) - nI a = nI (15 - a) from pk_sub (a := 15) (by omega)]
  rcases sb_cases i (n := 16) (by decide) with ⟨h1, h2⟩ | ⟨b, hb, rfl, hs2⟩
  · rw [if_pos (show sh_shape (nI a) i = 0 by unfold sh_shape; rw [e16, hs1, if_neg (by decide), if_pos h1])]
    rcases h2 with h2 | ⟨h2, h3⟩
    · rw [if_pos h2]; exact ⟨rfl, same⟩
    · rw [if_neg h2]
      obtain ⟨b, hb, rfl⟩ := nI_of h2
      have : 16 ≤ b := (nI_leI (by decide) hb).mp h3
      rw [if_neg (show ¬ nI b ≤ nI (15 - a) from nI_ge (by omega) hb)]; exact ⟨rfl, same⟩
  have esum : (1 : Int32) + nI a + nI b = nI (1 + a + b) := by rw [show (1 : Int32) = nI 1 from rfl, nI_add, nI_add]
  rw [if_neg (show ¬ nI b < 0 from nI_pos (by omega)), esum]
  by_cases c2 : a + b ≤ 15
  · rw [if_neg (show ¬ sh_shape (nI a) (nI b) = 0 by unfold sh_shape; rw [e16, hs1, if_neg (by decide), hs2, if_neg (by decide), esum, if_neg (nI_nlt (by omega) (by decide))]; decide), if_pos (show nI b ≤ nI (15 - a) from nI_le (by omega) (by omega))]
    obtain ⟨t, ht, rfl⟩ := ri_isReg c1
    obtain ⟨t1, t2, -, -⟩ := ho_T (r := a) (i := b) (by omega) (by omega)
    have eC : hC (hd_obj (nI a) (nI b)) = 1 + a + b := by unfold hC; rw [t1, t2]
    have q := jx_fill (hd := hd_obj (nI a) (nI b)) (kn := 1) (w := 0) X J nn l1 l2 hN ht (by omega) (by omega) (by omega)
    rw [t1, t2, eC] at q
    generalize sh_fill κ σ (nI t) (hd_obj (nI a) (nI b)) = fl at q ⊢
    generalize rm_room (nI k) (nI (h * k / (k + 1))) ρ (nI (1 + a + b)) = ro at q ⊢
    rcases q with ⟨f1, rfl, f3⟩ | ⟨f1, f2, o, ad, ho, rfl, ea, f3⟩
    · rw [if_pos rfl]; exact ⟨f1, f3⟩
    · rw [f2, if_neg (show ¬ (1 : Int32) = 0 by decide)]
      refine ⟨f1, ?_⟩
      obtain ⟨ek, hx⟩ := f3 (rLen (rm_add ro.2 1 (nI a) (nI b)).2) (rOfr (rm_add ro.2 1 (nI a) (nI b)).2) (fun q _ => ⟨rfl, rfl⟩)
      rw [nI_clamp (show t < 2 ^ 31 by omega)]
      exact hx (Or.inl ⟨ek, if_pos rfl, a, b, c2, rfl⟩)
  · rw [if_pos (show sh_shape (nI a) (nI b) = 0 by unfold sh_shape; rw [e16, hs1, if_neg (by decide), hs2, if_neg (by decide), esum, if_pos (nI_lt (by omega) (by omega))]), if_neg (show ¬ nI b ≤ nI (15 - a) from nI_ge (by omega) (by omega))]
    exact ⟨rfl, same⟩
theorem ns_1 : ∀ a, a < 68 → ∀ b, b < 50 → vp_nar .short (nI (a * 50 + b)).toInt16.toInt32 = nI (a * 50 + b) := by decide +kernel
theorem ns_n {n : Nat} (hn : n ≤ 3375) : vp_nar .short (nI n).toInt16.toInt32 = nI n := by
  have := ns_1 (n / 50) (by omega) (n % 50) (by omega)
  rw [show n / 50 * 50 + n % 50 = n by omega] at this
  exact this
theorem nb_x : ∀ x, x < 2 → vp_nar .boolean (nI x) = nI x := by decide +kernel
theorem jc_array {κ : sh_K} {σ : sh_S} {ρ : rm_S} {h k N : Nat} (jx : jj κ σ ρ h k N) (hN : N + 1 < 100000) (g n : Int32) {x : Nat} (hx : x < 2) : (sh_array κ σ g n (nI x)).1 = (rm_array (nI k) (nI (h * k / (k + 1))) ρ g n (nI x)).1 ∧ jj κ (sh_array κ σ g n (nI x)).2 (rm_array (nI k) (nI (h * k / (k + 1))) ρ g n (nI x)).2 h k (N + 1) ∧ rs_make (nI k) (nI (h * k / (k + 1))) ρ := by
  have same := jc_mono jx
  obtain ⟨α, ow, made, beg, R, ob, F, X, J, nn, l1, l2⟩ := jx
  have hsafe := (jx_safe (k := nI k) (lim := nI (h * k / (k + 1))) J nn).1
  suffices q : (sh_array κ σ g n (nI x)).1 = (rm_array (nI k) (nI (h * k / (k + 1))) ρ g n (nI x)).1 ∧ jj κ (sh_array κ σ g n (nI x)).2 (rm_array (nI k) (nI (h * k / (k + 1))) ρ g n (nI x)).2 h k (N + 1) from ⟨q.1, q.2, hsafe⟩
  unfold sh_array rm_array
  by_cases c1 : sh_isReg g = 0
  · rw [if_pos c1, if_pos c1]; exact ⟨rfl, same⟩
  rw [if_neg c1, if_neg c1]
  by_cases c2 : n < 0
  · rw [if_pos c2, if_pos c2]; exact ⟨rfl, same⟩
  rw [if_neg c2, if_neg c2]
  by_cases c3 : n ≤ 3375
  · rw [if_pos c3, if_pos c3]
    obtain ⟨t, ht, rfl⟩ := ri_isReg c1
    obtain ⟨n, hn, rfl⟩ := nI_of2 (n := 3375) (by decide) c2 c3
    obtain ⟨-, -, -, t1, t2, t3, -⟩ := ha_T hn hx
    have eC : hC (hd_arr (nI n) (nI x)) = 16 := by
      unfold hC
      rw [t1, t2]
      repeat' split
      all_goals rfl
    have q := jx_fill (hd := hd_arr (nI n) (nI x)) (kn := 2) (w := 1 + 2 * jr_h n + x) X J nn l1 l2 hN ht (by omega) (by omega) (by omega)
    rw [eC, t1, t2] at q
    have elv : (rm_levels (nI n) ≤ 1) ↔ n ≤ 15 := by
      unfold rm_levels
      by_cases c : n ≤ 15
      · rw [if_neg (show ¬ (15 : Int32) < nI n from nI_nlt (a := 15) (b := n) c (by decide))]
        exact ⟨fun _ => c, fun _ => by decide⟩
      · rw [if_pos (show (15 : Int32) < nI n from nI_lt (a := 15) (by omega) (by omega))]
        refine ⟨fun z => ?_, fun z => absurd z c⟩
        split at z
        · exact absurd z (by decide)
        · exact absurd z (by decide)
    have hfin : ∀ ad : Int32 × rm_S, rm_arrFin (nI t) (nI n) (nI x) ad = vReg (vOfr (vLen ad.2 (upd (rLen ad.2) ad.1.toNatClampNeg (nI n))) (upd (rOfr ad.2) ad.1.toNatClampNeg (nI x))) (upd (rReg ad.2) t (ad.1 + 1)) := by
      intro ad
      unfold rm_arrFin
      rw [ns_n hn, nb_x x hx, nI_clamp (show t < 2 ^ 31 by omega)]
    have e16 : (16 : Int32) = nI 16 := rfl
    rw [e16]
    generalize sh_fill κ σ (nI t) (hd_arr (nI n) (nI x)) = fl at q ⊢
    generalize rm_room (nI k) (nI (h * k / (k + 1))) ρ (nI 16) = ro at q ⊢
    have key : ¬ ro.1 = 0 → (if nI x = 0 then (if rm_levels (nI n) ≤ 1 then ((1 : Int32), rm_arrFin (nI t) (nI n) (nI x) (rm_add ro.2 2 0 15)) else (1, rm_arrFin (nI t) (nI n) (nI x) (rm_add ro.2 2 15 0))) else (1, rm_arrFin (nI t) (nI n) (nI x) (rm_add ro.2 2 15 0)))
        = (1, rm_arrFin (nI t) (nI n) (nI x) (rm_add ro.2 (nI 2) (nI (if x = 0 then (if n ≤ 15 then 0 else 15) else 15)) (nI (if x = 0 then (if n ≤ 15 then 15 else 0) else 0)))) := by
      intro _
      by_cases cx : x = 0
      · rw [if_pos (show nI x = 0 by rw [cx]; rfl), if_pos cx, if_pos cx]
        by_cases cn : n ≤ 15
        · rw [if_pos (elv.mpr cn), if_pos cn, if_pos cn]; rfl
        · rw [if_neg (fun z => cn (elv.mp z)), if_neg cn, if_neg cn]; rfl
      · rw [if_neg (nI_ne0 (by omega) (by omega)), if_neg cx, if_neg cx]; rfl
    rcases q with ⟨f1, rfl, f3⟩ | ⟨f1, f2, o, ad, ho, hadd, ea, f3⟩
    · rw [if_pos rfl]; exact ⟨f1, f3⟩
    · have hne : ¬ ro.1 = 0 := by rw [f2]; decide
      rw [key hne, if_neg hne, hadd, hfin, ea, nI_clamp (show o < 2 ^ 31 by omega)]
      refine ⟨f1, ?_⟩
      obtain ⟨ek, hx2⟩ := f3 (upd (rLen ad.2) o (nI n)) (upd (rOfr ad.2) o (nI x)) (fun q hq => ⟨pk_un hq, pk_un hq⟩)
      rw [ea] at hx2
      exact hx2 (Or.inr (Or.inl ⟨ek, n, x, hn, hx, rfl, if_pos rfl, pk_us, pk_us⟩))
  · rw [if_neg c3, if_neg c3]; exact ⟨rfl, same⟩
