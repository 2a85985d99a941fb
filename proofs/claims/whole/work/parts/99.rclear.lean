/-! ===== THE REFERENCE: goOver frees what is not reached ===== -/
def rg_F (bk kd : Nat → Int32) (ob : Nat) (F : List Nat) : Prop := (∀ i q, F[i]? = some q → bk i = nI q) ∧ F.Nodup ∧ ∀ q, q ∈ F → q < ob ∧ kd q = 0
def rg_C (ρ1 : rm_S) (L : List Nat) (ob o : Nat) (F : List Nat) (ρ : rm_S) : Prop :=
  ∃ kd bk mk, ρ = vMark (vGiv (vBack (vKind ρ1 kd) bk) (nI F.length)) mk ∧ (∀ p, mk p = (if p < o then 0 else if p ∈ L then 1 else 0)) ∧ (∀ p, kd p = (if p < o ∧ p ∉ L then 0 else rKind ρ1 p)) ∧ rg_F bk kd ob F
theorem rg_clr1 {ρ1 ρ : rm_S} {L F : List Nat} {ob o : Nat} (hob : ob < 100000) (ho : o < ob) (C : rg_C ρ1 L ob o F ρ) : vp_in (nI o) 120064 ∧ vp_in (rGiv ρ) 120064 ∧ ∃ F', rg_C ρ1 L ob (o + 1) F' (rm_clr1 ρ (nI o)) := by
  obtain ⟨kd, bk, mk, rfl, hm, hk, hb, hn, hF⟩ := C
  have hlen := rg_len hn (fun q hq => (hF q hq).1)
  refine ⟨vp_in_nI (by omega) (by decide), vp_in_nI (by omega) (by decide), ?_⟩
  have n0 : vp_nar .boolean 0 = 0 := rfl
  have b0 : vp_nar .byte 0 = 0 := rfl
  have hm' : ∀ p, upd mk o 0 p = (if p < o + 1 then 0 else if p ∈ L then 1 else 0) := by
    intro p
    by_cases hp : p = o
    · rw [hp, pk_us, if_pos (by omega)]
    · rw [pk_un hp, hm]
      by_cases h1 : p < o
      · rw [if_pos h1, if_pos (by omega)]
      · rw [if_neg h1, if_neg (show ¬ p < o + 1 by omega)]
  unfold rm_clr1
  rw [nI_clamp (by omega), n0, b0]
  by_cases hin : o ∈ L
  · rw [if_neg (by show ¬ mk o = 0; rw [hm, if_neg (by omega), if_pos hin]; decide)]
    refine ⟨F, kd, bk, upd mk o 0, rfl, hm', fun p => ?_, hb, hn, hF⟩
    rw [hk]
    by_cases hp : p = o
    · subst hp
      rw [if_neg (fun z => z.2 hin), if_neg (fun z => z.2 hin)]
    · by_cases h1 : p < o ∧ p ∉ L
      · rw [if_pos h1, if_pos ⟨by omega, h1.2⟩]
      · rw [if_neg h1, if_neg (fun z => h1 ⟨by omega, z.2⟩)]
  · rw [if_pos (by show mk o = 0; rw [hm, if_neg (by omega), if_neg hin])]
    have hko : kd o = rKind ρ1 o := by rw [hk, if_neg (by omega)]
    have hk' : ∀ p, upd kd o 0 p = (if p < o + 1 ∧ p ∉ L then 0 else rKind ρ1 p) := by
      intro p
      by_cases hp : p = o
      · subst hp
        rw [pk_us, if_pos ⟨by omega, hin⟩]
      · rw [pk_un hp, hk]
        by_cases h1 : p < o ∧ p ∉ L
        · rw [if_pos h1, if_pos ⟨by omega, h1.2⟩]
        · rw [if_neg h1, if_neg (fun z => h1 ⟨by omega, z.2⟩)]
    by_cases hz : kd o = 0
    · rw [if_pos (show kd o = 0 from hz)]
      refine ⟨F, kd, bk, upd mk o 0, rfl, hm', fun p => ?_, hb, hn, hF⟩
      rw [← hk' p]
      by_cases hp : p = o
      · rw [hp, pk_us, hz]
      · rw [pk_un hp]
    · rw [if_neg (show ¬ kd o = 0 from hz)]
      refine ⟨F ++ [o], upd kd o 0, upd bk F.length (nI o), upd mk o 0, ?_, hm', hk', fun i q hi => ?_, ?_, fun q hq => ?_⟩
      · show vMark (vGiv (vBack (vKind _ (upd kd o 0)) (upd bk (nI F.length).toNatClampNeg (nI o))) (nI F.length + 1)) (upd mk o 0) = _
        rw [nI_clamp (by omega), nI_1, List.length_append]
        rfl
      · by_cases hi2 : i < F.length
        · rw [pk_un (by omega)]
          rw [List.getElem?_append_left hi2] at hi
          exact hb i q hi
        · rw [List.getElem?_append_right (by omega)] at hi
          have : i - F.length = 0 := by
            rcases Nat.eq_zero_or_pos (i - F.length) with h | h
            · exact h
            · rw [List.getElem?_eq_none (by simp; omega)] at hi
              cases hi
          have hi3 : i = F.length := by omega
          rw [this] at hi
          have : o = q := by simpa using hi
          rw [hi3, pk_us, this]
      · rw [List.nodup_append]
        exact ⟨hn, by simp, fun a ha b hb z => by
          rw [List.mem_singleton] at hb
          subst hb; subst z; exact hz (hF a ha).2⟩
      · rcases List.mem_append.mp hq with h | h
        · refine ⟨(hF q h).1, ?_⟩
          by_cases hp : q = o
          · rw [hp, pk_us]
          · rw [pk_un hp]; exact (hF q h).2
        · rw [List.mem_singleton] at h
          subst h
          exact ⟨ho, pk_us⟩
theorem rg_clrN {ρ1 : rm_S} {L : List Nat} {ob : Nat} (hob : ob < 100000) : ∀ (n o : Nat) (F : List Nat) (ρ : rm_S), o + n = ob → rg_C ρ1 L ob o F ρ → rs_clrN ρ (nI o) n ∧ ∃ F', rg_C ρ1 L ob ob F' (rm_clrN ρ (nI o) n)
  | 0, o, F, ρ, ho, C => ⟨trivial, F, by rw [show ob = o by omega] at C ⊢; exact C⟩
  | n + 1, o, F, ρ, ho, C => by
    obtain ⟨s1, s2, F1, C1⟩ := rg_clr1 hob (by omega) C
    obtain ⟨s3, F2, C2⟩ := rg_clrN hob n (o + 1) F1 _ (by omega) C1
    rw [rs_clrN, rm_clrN, nI_1]
    exact ⟨⟨s1, s2, s3⟩, F2, C2⟩
theorem gc_sum_mapG {f : Nat → Nat} (L : List Nat) : gc_sum f (L.map (· + 1)) = gc_sum (fun o => f (o + 1)) L := by
  induction L with
  | nil => rfl
  | cons o L ih => rw [List.map_cons, gc_sum, gc_sum, ih]
theorem gc_sum_map {α : ab_A} (L : List Nat) : gc_sum (aC α) (L.map (· + 1)) = gc_sum (fun o => aC α (o + 1)) L := gc_sum_mapG L
theorem rg_go {ρ : rm_S} {α : ab_A} {ob : Nat} {U : Nat → Prop} {F : List Nat} (H : rg_H ρ α ob U) (hob : rObj ρ = nI ob) (hm : ∀ o, rMark ρ o = 0) (hg : rGiv ρ = nI F.length) (hF : rg_F (rBack ρ) (rKind ρ) ob F) :
    rs_go ρ ∧ ∃ (L F' : List Nat) (kd bk mk pl : Nat → Int32) (pu : Int32), rm_go ρ = (nI (gc_sum (aC α) (L.map (· + 1))), vMark (vGiv (vBack (vKind (vPus (vPile ρ pl) pu) kd) bk) (nI F'.length)) mk) ∧ (∀ o, mk o = 0) ∧ (∀ p, kd p = (if p < ob ∧ p ∉ L then 0 else rKind ρ p)) ∧ rg_F bk kd ob F' ∧ ab_R α (L.map (· + 1)) ∧ ∀ o, o ∈ L → U (o + 1) := by
  have hlt := H.1
  have M0 : rg_M ρ [] (vPus ρ 0) := ⟨rMark ρ, rPile ρ, rfl, fun i q hi => by simp at hi, fun o => by rw [hm]; simp⟩
  obtain ⟨s1, e1, M1, g1, h1⟩ := rg_regsN H 8 0 (vPus ρ 0) [] (by omega) M0 ⟨List.nodup_nil, fun o ho => by simp at ho⟩
  obtain ⟨s2, L, M2, g2, c2, r2, i2⟩ := rg_pileN H ob [] ([] ++ e1) (rm_go1 ρ) M1 g1 (fun o j ho => by simp at ho) (by simp)
  have hob' : (rObj ρ).toNatClampNeg = ob := by rw [hob, nI_clamp (by omega)]
  have e2 : rm_go2 ρ = rm_pileN (rm_go1 ρ) (nI (gc_sum (fun o => aC α (o + 1)) [])) (nI ([] : List Nat).length) ob := by unfold rm_go2; rw [hob']; rfl
  rw [← e2] at M2 r2
  obtain ⟨mk, pl, e3, hp, hk⟩ := M2
  have hL : ∀ o, o ∈ L → o < ob := fun o ho => (H.2.2.1 o (g2.2 o ho).1).1
  obtain ⟨s3, F', C⟩ := rg_clrN (ρ1 := vPus (vPile ρ pl) (nI L.length)) (L := L) hlt ob 0 F (rm_go2 ρ).2 (by omega) ⟨rKind ρ, rBack ρ, mk, by rw [e3, ← hg], fun p => by rw [hk, if_neg (show ¬ p < 0 by omega)], fun p => by rw [if_neg (by omega)], hF⟩
  obtain ⟨kd, bk, mk', e4, hm4, hk4, hF4⟩ := C
  refine ⟨⟨s1, by rw [hob']; exact s2, by rw [hob']; exact s3⟩, L, F', kd, bk, mk', pl, nI L.length, ?_, fun o => ?_, hk4, hF4, ⟨?_, fun o => ⟨fun ho => ?_, fun ho => ?_⟩⟩, fun o ho => (g2.2 o ho).1⟩
  · unfold rm_go
    rw [hob', r2, gc_sum_map]
    exact Prod.ext rfl e4
  · rw [hm4]
    by_cases h : o < ob
    · rw [if_pos h]
    · rw [if_neg h, if_neg (fun z => h (hL o z))]
  · have : ∀ l : List Nat, l.Nodup → (l.map (· + 1)).Nodup := by
      intro l
      induction l with
      | nil => intro _; exact List.nodup_nil
      | cons a l ih =>
        intro hn
        rw [List.nodup_cons] at hn
        rw [List.map_cons, List.nodup_cons]
        refine ⟨fun z => ?_, ih hn.2⟩
        obtain ⟨b, hb, e⟩ := List.mem_map.mp z
        have : b = a := by omega
        exact hn.1 (this ▸ hb)
    exact this L g2.1
  · obtain ⟨b, hb, rfl⟩ := List.mem_map.mp ho
    exact (g2.2 b hb).2
  · refine ho (fun q => q ∈ L.map (· + 1)) ⟨fun t ht hz => ?_, fun q j hq hj hz => ?_⟩
    · have := i2 _ (h1 t (by omega) ht hz)
      exact List.mem_map.mpr ⟨_, this, by omega⟩
    · obtain ⟨b, hb, rfl⟩ := List.mem_map.mp hq
      exact List.mem_map.mpr ⟨_, c2 b j hb hj hz, by omega⟩
