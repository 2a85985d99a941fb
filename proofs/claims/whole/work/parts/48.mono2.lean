/-! ===== pages are only ever added: the larger functions ===== -/
set_option maxHeartbeats 20000 in
theorem mo_begin {κ : sh_K} {σ : sh_S} : nal σ ≤ nal (sh_begin κ σ) := by
  unfold sh_begin
  have h := mo_regsN (κ := κ) 8 0 (uBeg (uMade (sh_useHalf κ σ (if sBase σ = 1 then 1 + kHalf κ else 1)) 0) (sBeg (sh_useHalf κ σ (if sBase σ = 1 then 1 + kHalf κ else 1)) + 1))
  generalize 8 = n at h ⊢
  exact h
set_option maxHeartbeats 20000 in
theorem mo_room {κ : sh_K} {σ : sh_S} {n : Int32} : nal σ ≤ nal (sh_room κ σ n).2 := by
  have h1 : nal σ ≤ nal (sh_begin κ σ) := mo_begin
  unfold sh_room
  generalize sh_begin κ σ = τ at h1 ⊢
  split
  · exact Nat.le_refl _
  · split
    · split
      · exact Nat.le_refl _
      · exact h1
    · exact Nat.le_refl _
set_option maxHeartbeats 20000 in
theorem mo_open {κ : sh_K} {σ : sh_S} {o h i : Int32} : nal σ ≤ nal (sh_open κ σ o h i).2 := by
  unfold sh_open
  have h1 : nal σ ≤ nal (sh_gap κ σ o h i).2 := mo_gap
  generalize sh_gap κ σ o h i = g at h1 ⊢
  have h2 : nal g.2 ≤ nal (sh_room κ g.2 16).2 := mo_room
  dsimp only
  generalize sh_room κ g.2 16 = rm at h2 ⊢
  have h3 : nal rm.2 ≤ nal (sh_place κ rm.2 (hd_node (if g.1 ≤ 1 then hd_refIt h else 1))).2 := mo_place
  generalize sh_place κ rm.2 (hd_node (if g.1 ≤ 1 then hd_refIt h else 1)) = ch at h3 ⊢
  have h4 : nal ch.2 ≤ nal (sh_way κ ch.2 o h i g.1).2 := mo_way
  generalize sh_way κ ch.2 o h i g.1 = w at h4 ⊢
  have h5 : nal w.2 ≤ nal (sh_link κ w.2 w.1 ch.1) := mo_link
  generalize sh_link κ w.2 w.1 ch.1 = f at h5 ⊢
  split
  · exact h1
  · split
    · exact Nat.le_trans h1 h2
    · exact Nat.le_trans (Nat.le_trans (Nat.le_trans (Nat.le_trans h1 h2) h3) h4) h5
set_option maxHeartbeats 20000 in
theorem mo_fill {κ : sh_K} {σ : sh_S} {r h : Int32} : nal σ ≤ nal (sh_fill κ σ r h).2 := by
  unfold sh_fill
  dsimp only
  have h1 : nal (uC σ (sh_start σ.1)) ≤ nal (sh_room κ (uC σ (sh_start σ.1)) (hd_cells h)).2 := mo_room
  have h0 : nal (uC σ (sh_start σ.1)) = nal σ := rfl
  rw [h0] at h1
  generalize sh_room κ (uC σ (sh_start σ.1)) (hd_cells h) = rm at h1 ⊢
  have h2 : nal rm.2 ≤ nal (sh_place κ rm.2 h).2 := mo_place
  generalize sh_place κ rm.2 h = p at h2 ⊢
  have h3 : nal p.2 ≤ nal (sh_setReg p.2 r p.1) := mo_setReg
  generalize sh_setReg p.2 r p.1 = f at h3 ⊢
  split
  · exact h1
  · exact Nat.le_trans (Nat.le_trans h1 h2) h3
