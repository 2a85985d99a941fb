/-! ===== THE LAW: its sixteen cases (laid by wip/gen/genlaw.py) ===== -/
def lw_C (p : Program) (s : State) (m : MethodId) (c : Code) (sb L : Nat) (xs : Nat → Int32) (A : Nat → Prop) (R : Room) (n0 m0 np : Nat) : Prop :=
  CallFix p m c b_L_law 4 s #[Value.ref sb] (Cond.initialized "StepHeapLaw" :: bt) "StepHeapLaw" ∧ va_X sb L xs s s.heap ∧ sb < s.heap.size ∧ ¬ A sb ∧ L ≤ 2050 ∧ (10 ≤ R.frames ∧ 354 ≤ R.locals) ∧ (n0 + 2 * np ≤ R.cells ∧ m0 + 1025 * np ≤ R.slots)
section LCASES
variable {p : Program} {l : Launch} {e : Env} {R : Room} {s : State} {m : MethodId} {below : List Frame} {meth : Method} {c : Code} {H : Heap} {locs : List Loc} {Q : State → Prop} {D : va_G} {cI cP : ClassId} {a : cx_a} {κ : sh_K} {np n0 m0 : Nat} {cs : rx_c} {b : rx_a} {A : Nat → Prop} {σ : sh_S} {ρ : rm_S} {ls : Array Slot} {sb L i h k N : Nat} {xs : Nat → Int32}
/-- script[i + j] -/
theorem lw_ld {kI lI : Int32} {pc j cells slots : Nat} {rest : List Value} {z : Int} (C : lw_C p s m c sb L xs A R n0 m0 np) (hw : lw_Wd D cI cP a κ np cs b kI lI s A σ ρ H locs) (hl : lv_has ls 4 [(0, .ref sb), (1, .ref (aXX a)), (2, .ref (bO b)), (3, .int (nI i))]) (hi : i + j < L) (hj : j < 4)
    (d0 : decode b_L_law pc = .ok (.aload_n 0, 1)) (d1 : decode b_L_law (pc + 1) = .ok (.iload_n 3, 1)) (d2 : decode b_L_law (pc + 2) = .ok (.iconst z, 1)) (hz : Int32.ofInt z = nI j) (d3 : decode b_L_law (pc + 3) = .ok (.iadd, 1)) (d4 : decode b_L_law (pc + 4) = .ok (.iaload, 1))
    (kk : W p l e R s m #[Value.ref sb] below meth c H locs cells slots Q (F0 m (pc + 5) ls (.int (xs (i + j)) :: rest))) : W p l e R s m #[Value.ref sb] below meth c H locs cells slots Q (F0 m pc ls rest) := by
  obtain ⟨S, hX, hbl, hbA, hL, hR, hbud⟩ := C
  refine lv_aload_n S.1 S.2.1 d0 rfl (lv_at hl 0 rfl) ?_
  refine lv_iload_n S.1 S.2.1 d1 rfl (lv_at hl 3 rfl) ?_
  refine lv_iconst (v := nI j) S.1 S.2.1 d2 hz ?_
  refine lv_iadd S.1 S.2.1 d3 ?_
  rw [nI_add]
  refine va_sld S.1 S.2.1 hX hbl hbA hw.2.1 (vp_in_nI hi (by omega)) d4 ?_
  rw [nI_clamp (by omega)]
  exact kk
set_option maxHeartbeats 400000 in
set_option maxRecDepth 100000 in
theorem lw_k0 (C : lw_C p s m c sb L xs A R n0 m0 np) (hw : lw_Wd D cI cP a κ np cs b (nI k) (nI (h * k / (k + 1))) s A σ ρ H locs) (jx : jj κ σ ρ h k N) (hN : N + 1 < 100000) (hl : lv_has ls 4 [(0, .ref sb), (1, .ref (aXX a)), (2, .ref (bO b)), (3, .int (nI i))]) (hi : i + 4 ≤ L)
    (kk : ∀ (σ' : sh_S) (ρ' : rm_S) (H1 : Heap) (locs1 : List Loc), lw_Wd D cI cP a κ np cs b (nI k) (nI (h * k / (k + 1))) s A σ' ρ' H1 locs1 → jj κ σ' ρ' h k (N + 1) → W p l e R s m #[Value.ref sb] below meth c H1 locs1 (n0 + 2 * nal σ') (m0 + 1025 * nal σ') Q (F0 m 718 ls [])) :
    W p l e R s m #[Value.ref sb] below meth c H locs (n0 + 2 * nal σ) (m0 + 1025 * nal σ) Q (F0 m 132 ls []) := by
  obtain ⟨S, hX, hbl, hbA, hL, hR, hbud⟩ := id C
  obtain ⟨ob, hob, hok⟩ := jc_ok jx
  have hob9 : ob < 2 ^ 30 := by have := hok.2.1; omega
  obtain ⟨he, hj, hsm⟩ := jc_make jx hN (xs (i + 1)) (xs (i + 2)) (xs (i + 3))
  refine lv_aload_n S.1 S.2.1 d_L_law_132 rfl (lv_at hl 1 rfl) ?_
  refine lw_ld (pc := 133) (j := 1) C hw hl (by omega) (by decide) d_L_law_133 d_L_law_134 d_L_law_135 rfl d_L_law_136 d_L_law_137 ?_
  refine lw_ld (pc := 138) (j := 2) C hw hl (by omega) (by decide) d_L_law_138 d_L_law_139 d_L_law_140 rfl d_L_law_141 d_L_law_142 ?_
  refine lw_ld (pc := 143) (j := 3) C hw hl (by omega) (by decide) d_L_law_143 d_L_law_144 d_L_law_145 rfl d_L_law_146 d_L_law_147 ?_
  refine lw_callX S hw hbud (As := [.int (xs (i + 1)), .int (xs (i + 2)), .int (xs (i + 3))]) (rest := []) (c_X_make l D cI cP a κ np σ (xs (i + 1)) (xs (i + 2)) (xs (i + 3))) tb_113 tb_110 tb_111 tb_112 tb_1 hd_X_make rfl ⟨by omega, by omega⟩ hl.1 rfl (Nat.le_of_ble_eq_true rfl) d_L_law_148 (fun H locs hw => ?_)
  refine W.eq (g2 := F0 m 151 ls [.int ((sh_make κ σ (xs (i + 1)) (xs (i + 2)) (xs (i + 3))).1)]) rfl ?_
  refine lv_aload_n S.1 S.2.1 d_L_law_151 rfl (lv_at hl 2 rfl) ?_
  refine lw_ld (pc := 152) (j := 1) C hw hl (by omega) (by decide) d_L_law_152 d_L_law_153 d_L_law_154 rfl d_L_law_155 d_L_law_156 ?_
  refine lw_ld (pc := 157) (j := 2) C hw hl (by omega) (by decide) d_L_law_157 d_L_law_158 d_L_law_159 rfl d_L_law_160 d_L_law_161 ?_
  refine lw_ld (pc := 162) (j := 3) C hw hl (by omega) (by decide) d_L_law_162 d_L_law_163 d_L_law_164 rfl d_L_law_165 d_L_law_166 ?_
  refine lw_callR S hw hbud (As := [.int (xs (i + 1)), .int (xs (i + 2)), .int (xs (i + 3))]) (rest := [.int ((sh_make κ σ (xs (i + 1)) (xs (i + 2)) (xs (i + 3))).1)]) (c_R_make l D cs b (nI k) (nI (h * k / (k + 1))) ρ (xs (i + 1)) (xs (i + 2)) (xs (i + 3)) hsm hok.1 hob9) tb_420 tb_417 tb_418 tb_419 tb_5 hd_R_make rfl ⟨by omega, by omega⟩ hl.1 rfl (Nat.le_of_ble_eq_true rfl) d_L_law_167 (fun H locs hw => ?_)
  refine W.eq (g2 := F0 m 170 ls [.int ((rm_make (nI k) (nI (h * k / (k + 1))) ρ (xs (i + 1)) (xs (i + 2)) (xs (i + 3))).1), .int ((sh_make κ σ (xs (i + 1)) (xs (i + 2)) (xs (i + 3))).1)]) rfl ?_
  refine lv_icmp_eq (tgt := 718) S.1 S.2.1 d_L_law_170 (by decide) (fun _ => ?_) (fun z => absurd he z)
  exact kk _ _ _ _ hw hj
set_option maxHeartbeats 400000 in
set_option maxRecDepth 100000 in
theorem lw_k1 (C : lw_C p s m c sb L xs A R n0 m0 np) (hw : lw_Wd D cI cP a κ np cs b (nI k) (nI (h * k / (k + 1))) s A σ ρ H locs) (jx : jj κ σ ρ h k N) (hN : N + 1 < 100000) (hl : lv_has ls 4 [(0, .ref sb), (1, .ref (aXX a)), (2, .ref (bO b)), (3, .int (nI i))]) (hi : i + 4 ≤ L)
    (kk : ∀ (σ' : sh_S) (ρ' : rm_S) (H1 : Heap) (locs1 : List Loc), lw_Wd D cI cP a κ np cs b (nI k) (nI (h * k / (k + 1))) s A σ' ρ' H1 locs1 → jj κ σ' ρ' h k (N + 1) → W p l e R s m #[Value.ref sb] below meth c H1 locs1 (n0 + 2 * nal σ') (m0 + 1025 * nal σ') Q (F0 m 718 ls [])) :
    W p l e R s m #[Value.ref sb] below meth c H locs (n0 + 2 * nal σ) (m0 + 1025 * nal σ) Q (F0 m 175 ls []) := by
  obtain ⟨S, hX, hbl, hbA, hL, hR, hbud⟩ := id C
  obtain ⟨ob, hob, hok⟩ := jc_ok jx
  have hob9 : ob < 2 ^ 30 := by have := hok.2.1; omega
  by_cases hc : xs (i + 3) = 0
  · obtain ⟨he, hj, hsm⟩ := jc_array jx hN (xs (i + 1)) (xs (i + 2)) (x := 0) (by omega)
    refine lv_aload_n S.1 S.2.1 d_L_law_175 rfl (lv_at hl 1 rfl) ?_
    refine lw_ld (pc := 176) (j := 1) C hw hl (by omega) (by decide) d_L_law_176 d_L_law_177 d_L_law_178 rfl d_L_law_179 d_L_law_180 ?_
    refine lw_ld (pc := 181) (j := 2) C hw hl (by omega) (by decide) d_L_law_181 d_L_law_182 d_L_law_183 rfl d_L_law_184 d_L_law_185 ?_
    refine lw_ld (pc := 186) (j := 3) C hw hl (by omega) (by decide) d_L_law_186 d_L_law_187 d_L_law_188 rfl d_L_law_189 d_L_law_190 ?_
    refine lv_if_eq (tgt := 198) S.1 S.2.1 d_L_law_191 (by decide) (fun _ => ?_) (fun z => absurd hc z)
    refine lv_iconst (v := nI 0) S.1 S.2.1 d_L_law_198 (by decide) ?_
    refine lw_callX S hw hbud (As := [.int (xs (i + 1)), .int (xs (i + 2)), .int (nI 0)]) (rest := []) (c_X_array l D cI cP a κ np σ (xs (i + 1)) (xs (i + 2)) (nI 0)) tb_207 tb_204 tb_205 tb_206 tb_1 hd_X_array rfl ⟨by omega, by omega⟩ hl.1 rfl (Nat.le_of_ble_eq_true rfl) d_L_law_199 (fun H locs hw => ?_)
    refine W.eq (g2 := F0 m 202 ls [.int ((sh_array κ σ (xs (i + 1)) (xs (i + 2)) (nI 0)).1)]) rfl ?_
    refine lv_aload_n S.1 S.2.1 d_L_law_202 rfl (lv_at hl 2 rfl) ?_
    refine lw_ld (pc := 203) (j := 1) C hw hl (by omega) (by decide) d_L_law_203 d_L_law_204 d_L_law_205 rfl d_L_law_206 d_L_law_207 ?_
    refine lw_ld (pc := 208) (j := 2) C hw hl (by omega) (by decide) d_L_law_208 d_L_law_209 d_L_law_210 rfl d_L_law_211 d_L_law_212 ?_
    refine lw_ld (pc := 213) (j := 3) C hw hl (by omega) (by decide) d_L_law_213 d_L_law_214 d_L_law_215 rfl d_L_law_216 d_L_law_217 ?_
    refine lv_if_eq (tgt := 225) S.1 S.2.1 d_L_law_218 (by decide) (fun _ => ?_) (fun z => absurd hc z)
    refine lv_iconst (v := nI 0) S.1 S.2.1 d_L_law_225 (by decide) ?_
    refine lw_callR S hw hbud (As := [.int (xs (i + 1)), .int (xs (i + 2)), .int (nI 0)]) (rest := [.int ((sh_array κ σ (xs (i + 1)) (xs (i + 2)) (nI 0)).1)]) (c_R_array l D cs b (nI k) (nI (h * k / (k + 1))) ρ (xs (i + 1)) (xs (i + 2)) (nI 0) hsm hok.1 hob9) tb_451 tb_448 tb_449 tb_450 tb_5 hd_R_array rfl ⟨by omega, by omega⟩ hl.1 rfl (Nat.le_of_ble_eq_true rfl) d_L_law_226 (fun H locs hw => ?_)
    refine W.eq (g2 := F0 m 229 ls [.int ((rm_array (nI k) (nI (h * k / (k + 1))) ρ (xs (i + 1)) (xs (i + 2)) (nI 0)).1), .int ((sh_array κ σ (xs (i + 1)) (xs (i + 2)) (nI 0)).1)]) rfl ?_
    refine lv_icmp_eq (tgt := 718) S.1 S.2.1 d_L_law_229 (by decide) (fun _ => ?_) (fun z => absurd he z)
    exact kk _ _ _ _ hw hj
  · obtain ⟨he, hj, hsm⟩ := jc_array jx hN (xs (i + 1)) (xs (i + 2)) (x := 1) (by omega)
    refine lv_aload_n S.1 S.2.1 d_L_law_175 rfl (lv_at hl 1 rfl) ?_
    refine lw_ld (pc := 176) (j := 1) C hw hl (by omega) (by decide) d_L_law_176 d_L_law_177 d_L_law_178 rfl d_L_law_179 d_L_law_180 ?_
    refine lw_ld (pc := 181) (j := 2) C hw hl (by omega) (by decide) d_L_law_181 d_L_law_182 d_L_law_183 rfl d_L_law_184 d_L_law_185 ?_
    refine lw_ld (pc := 186) (j := 3) C hw hl (by omega) (by decide) d_L_law_186 d_L_law_187 d_L_law_188 rfl d_L_law_189 d_L_law_190 ?_
    refine lv_if_eq (tgt := 198) S.1 S.2.1 d_L_law_191 (by decide) (fun z => absurd z hc) (fun _ => ?_)
    refine lv_iconst (v := nI 1) S.1 S.2.1 d_L_law_194 (by decide) ?_
    refine lv_goto (tgt := 199) S.1 S.2.1 d_L_law_195 (by decide) ?_
    refine lw_callX S hw hbud (As := [.int (xs (i + 1)), .int (xs (i + 2)), .int (nI 1)]) (rest := []) (c_X_array l D cI cP a κ np σ (xs (i + 1)) (xs (i + 2)) (nI 1)) tb_207 tb_204 tb_205 tb_206 tb_1 hd_X_array rfl ⟨by omega, by omega⟩ hl.1 rfl (Nat.le_of_ble_eq_true rfl) d_L_law_199 (fun H locs hw => ?_)
    refine W.eq (g2 := F0 m 202 ls [.int ((sh_array κ σ (xs (i + 1)) (xs (i + 2)) (nI 1)).1)]) rfl ?_
    refine lv_aload_n S.1 S.2.1 d_L_law_202 rfl (lv_at hl 2 rfl) ?_
    refine lw_ld (pc := 203) (j := 1) C hw hl (by omega) (by decide) d_L_law_203 d_L_law_204 d_L_law_205 rfl d_L_law_206 d_L_law_207 ?_
    refine lw_ld (pc := 208) (j := 2) C hw hl (by omega) (by decide) d_L_law_208 d_L_law_209 d_L_law_210 rfl d_L_law_211 d_L_law_212 ?_
    refine lw_ld (pc := 213) (j := 3) C hw hl (by omega) (by decide) d_L_law_213 d_L_law_214 d_L_law_215 rfl d_L_law_216 d_L_law_217 ?_
    refine lv_if_eq (tgt := 225) S.1 S.2.1 d_L_law_218 (by decide) (fun z => absurd z hc) (fun _ => ?_)
    refine lv_iconst (v := nI 1) S.1 S.2.1 d_L_law_221 (by decide) ?_
    refine lv_goto (tgt := 226) S.1 S.2.1 d_L_law_222 (by decide) ?_
    refine lw_callR S hw hbud (As := [.int (xs (i + 1)), .int (xs (i + 2)), .int (nI 1)]) (rest := [.int ((sh_array κ σ (xs (i + 1)) (xs (i + 2)) (nI 1)).1)]) (c_R_array l D cs b (nI k) (nI (h * k / (k + 1))) ρ (xs (i + 1)) (xs (i + 2)) (nI 1) hsm hok.1 hob9) tb_451 tb_448 tb_449 tb_450 tb_5 hd_R_array rfl ⟨by omega, by omega⟩ hl.1 rfl (Nat.le_of_ble_eq_true rfl) d_L_law_226 (fun H locs hw => ?_)
    refine W.eq (g2 := F0 m 229 ls [.int ((rm_array (nI k) (nI (h * k / (k + 1))) ρ (xs (i + 1)) (xs (i + 2)) (nI 1)).1), .int ((sh_array κ σ (xs (i + 1)) (xs (i + 2)) (nI 1)).1)]) rfl ?_
    refine lv_icmp_eq (tgt := 718) S.1 S.2.1 d_L_law_229 (by decide) (fun _ => ?_) (fun z => absurd he z)
    exact kk _ _ _ _ hw hj
set_option maxHeartbeats 400000 in
set_option maxRecDepth 100000 in
theorem lw_k2 (C : lw_C p s m c sb L xs A R n0 m0 np) (hw : lw_Wd D cI cP a κ np cs b (nI k) (nI (h * k / (k + 1))) s A σ ρ H locs) (jx : jj κ σ ρ h k N) (hN : N + 1 < 100000) (hl : lv_has ls 4 [(0, .ref sb), (1, .ref (aXX a)), (2, .ref (bO b)), (3, .int (nI i))]) (hi : i + 4 ≤ L)
    (kk : ∀ (σ' : sh_S) (ρ' : rm_S) (H1 : Heap) (locs1 : List Loc), lw_Wd D cI cP a κ np cs b (nI k) (nI (h * k / (k + 1))) s A σ' ρ' H1 locs1 → jj κ σ' ρ' h k (N + 1) → W p l e R s m #[Value.ref sb] below meth c H1 locs1 (n0 + 2 * nal σ') (m0 + 1025 * nal σ') Q (F0 m 718 ls [])) :
    W p l e R s m #[Value.ref sb] below meth c H locs (n0 + 2 * nal σ) (m0 + 1025 * nal σ) Q (F0 m 234 ls []) := by
  obtain ⟨S, hX, hbl, hbA, hL, hR, hbud⟩ := id C
  obtain ⟨ob, hob, hok⟩ := jc_ok jx
  have hob9 : ob < 2 ^ 30 := by have := hok.2.1; omega
  obtain ⟨he, hj⟩ := jc_get jx (xs (i + 1)) (xs (i + 2)) (xs (i + 3))
  refine lv_aload_n S.1 S.2.1 d_L_law_234 rfl (lv_at hl 1 rfl) ?_
  refine lw_ld (pc := 235) (j := 1) C hw hl (by omega) (by decide) d_L_law_235 d_L_law_236 d_L_law_237 rfl d_L_law_238 d_L_law_239 ?_
  refine lw_ld (pc := 240) (j := 2) C hw hl (by omega) (by decide) d_L_law_240 d_L_law_241 d_L_law_242 rfl d_L_law_243 d_L_law_244 ?_
  refine lw_ld (pc := 245) (j := 3) C hw hl (by omega) (by decide) d_L_law_245 d_L_law_246 d_L_law_247 rfl d_L_law_248 d_L_law_249 ?_
  refine lw_callX S hw hbud (As := [.int (xs (i + 1)), .int (xs (i + 2)), .int (xs (i + 3))]) (rest := []) (c_X_get l D cI cP a κ np σ (xs (i + 1)) (xs (i + 2)) (xs (i + 3))) tb_218 tb_215 tb_216 tb_217 tb_1 hd_X_get rfl ⟨by omega, by omega⟩ hl.1 rfl (Nat.le_of_ble_eq_true rfl) d_L_law_250 (fun H locs hw => ?_)
  refine W.eq (g2 := F0 m 253 ls [.int ((sh_get κ σ (xs (i + 1)) (xs (i + 2)) (xs (i + 3))).1)]) rfl ?_
  refine lv_aload_n S.1 S.2.1 d_L_law_253 rfl (lv_at hl 2 rfl) ?_
  refine lw_ld (pc := 254) (j := 1) C hw hl (by omega) (by decide) d_L_law_254 d_L_law_255 d_L_law_256 rfl d_L_law_257 d_L_law_258 ?_
  refine lw_ld (pc := 259) (j := 2) C hw hl (by omega) (by decide) d_L_law_259 d_L_law_260 d_L_law_261 rfl d_L_law_262 d_L_law_263 ?_
  refine lw_ld (pc := 264) (j := 3) C hw hl (by omega) (by decide) d_L_law_264 d_L_law_265 d_L_law_266 rfl d_L_law_267 d_L_law_268 ?_
  refine lw_callR S hw hbud (As := [.int (xs (i + 1)), .int (xs (i + 2)), .int (xs (i + 3))]) (rest := [.int ((sh_get κ σ (xs (i + 1)) (xs (i + 2)) (xs (i + 3))).1)]) (c_R_get l D cs b (nI k) (nI (h * k / (k + 1))) ρ (xs (i + 1)) (xs (i + 2)) (xs (i + 3)) hok) tb_458 tb_455 tb_456 tb_457 tb_5 hd_R_get rfl ⟨by omega, by omega⟩ hl.1 rfl (Nat.le_of_ble_eq_true rfl) d_L_law_269 (fun H locs hw => ?_)
  refine W.eq (g2 := F0 m 272 ls [.int ((rm_get ρ (xs (i + 1)) (xs (i + 2)) (xs (i + 3))).1), .int ((sh_get κ σ (xs (i + 1)) (xs (i + 2)) (xs (i + 3))).1)]) rfl ?_
  refine lv_icmp_eq (tgt := 718) S.1 S.2.1 d_L_law_272 (by decide) (fun _ => ?_) (fun z => absurd he z)
  exact kk _ _ _ _ hw hj
set_option maxHeartbeats 400000 in
set_option maxRecDepth 100000 in
theorem lw_k3 (C : lw_C p s m c sb L xs A R n0 m0 np) (hw : lw_Wd D cI cP a κ np cs b (nI k) (nI (h * k / (k + 1))) s A σ ρ H locs) (jx : jj κ σ ρ h k N) (hN : N + 1 < 100000) (hl : lv_has ls 4 [(0, .ref sb), (1, .ref (aXX a)), (2, .ref (bO b)), (3, .int (nI i))]) (hi : i + 4 ≤ L)
    (kk : ∀ (σ' : sh_S) (ρ' : rm_S) (H1 : Heap) (locs1 : List Loc), lw_Wd D cI cP a κ np cs b (nI k) (nI (h * k / (k + 1))) s A σ' ρ' H1 locs1 → jj κ σ' ρ' h k (N + 1) → W p l e R s m #[Value.ref sb] below meth c H1 locs1 (n0 + 2 * nal σ') (m0 + 1025 * nal σ') Q (F0 m 718 ls [])) :
    W p l e R s m #[Value.ref sb] below meth c H locs (n0 + 2 * nal σ) (m0 + 1025 * nal σ) Q (F0 m 277 ls []) := by
  obtain ⟨S, hX, hbl, hbA, hL, hR, hbud⟩ := id C
  obtain ⟨ob, hob, hok⟩ := jc_ok jx
  have hob9 : ob < 2 ^ 30 := by have := hok.2.1; omega
  obtain ⟨he, hj⟩ := jc_put jx (xs (i + 1)) (xs (i + 2)) (xs (i + 3))
  refine lv_aload_n S.1 S.2.1 d_L_law_277 rfl (lv_at hl 1 rfl) ?_
  refine lw_ld (pc := 278) (j := 1) C hw hl (by omega) (by decide) d_L_law_278 d_L_law_279 d_L_law_280 rfl d_L_law_281 d_L_law_282 ?_
  refine lw_ld (pc := 283) (j := 2) C hw hl (by omega) (by decide) d_L_law_283 d_L_law_284 d_L_law_285 rfl d_L_law_286 d_L_law_287 ?_
  refine lw_ld (pc := 288) (j := 3) C hw hl (by omega) (by decide) d_L_law_288 d_L_law_289 d_L_law_290 rfl d_L_law_291 d_L_law_292 ?_
  refine lw_callX S hw hbud (As := [.int (xs (i + 1)), .int (xs (i + 2)), .int (xs (i + 3))]) (rest := []) (c_X_put l D cI cP a κ np σ (xs (i + 1)) (xs (i + 2)) (xs (i + 3))) tb_245 tb_242 tb_243 tb_244 tb_1 hd_X_put rfl ⟨by omega, by omega⟩ hl.1 rfl (Nat.le_of_ble_eq_true rfl) d_L_law_293 (fun H locs hw => ?_)
  refine W.eq (g2 := F0 m 296 ls [.int ((sh_putF κ σ (xs (i + 1)) (xs (i + 2)) (xs (i + 3))).1)]) rfl ?_
  refine lv_aload_n S.1 S.2.1 d_L_law_296 rfl (lv_at hl 2 rfl) ?_
  refine lw_ld (pc := 297) (j := 1) C hw hl (by omega) (by decide) d_L_law_297 d_L_law_298 d_L_law_299 rfl d_L_law_300 d_L_law_301 ?_
  refine lw_ld (pc := 302) (j := 2) C hw hl (by omega) (by decide) d_L_law_302 d_L_law_303 d_L_law_304 rfl d_L_law_305 d_L_law_306 ?_
  refine lw_ld (pc := 307) (j := 3) C hw hl (by omega) (by decide) d_L_law_307 d_L_law_308 d_L_law_309 rfl d_L_law_310 d_L_law_311 ?_
  refine lw_callR S hw hbud (As := [.int (xs (i + 1)), .int (xs (i + 2)), .int (xs (i + 3))]) (rest := [.int ((sh_putF κ σ (xs (i + 1)) (xs (i + 2)) (xs (i + 3))).1)]) (c_R_put l D cs b (nI k) (nI (h * k / (k + 1))) ρ (xs (i + 1)) (xs (i + 2)) (xs (i + 3)) hok) tb_466 tb_463 tb_464 tb_465 tb_5 hd_R_put rfl ⟨by omega, by omega⟩ hl.1 rfl (Nat.le_of_ble_eq_true rfl) d_L_law_312 (fun H locs hw => ?_)
  refine W.eq (g2 := F0 m 315 ls [.int ((rm_put ρ (xs (i + 1)) (xs (i + 2)) (xs (i + 3))).1), .int ((sh_putF κ σ (xs (i + 1)) (xs (i + 2)) (xs (i + 3))).1)]) rfl ?_
  refine lv_icmp_eq (tgt := 718) S.1 S.2.1 d_L_law_315 (by decide) (fun _ => ?_) (fun z => absurd he z)
  exact kk _ _ _ _ hw hj
set_option maxHeartbeats 400000 in
set_option maxRecDepth 100000 in
theorem lw_k4 (C : lw_C p s m c sb L xs A R n0 m0 np) (hw : lw_Wd D cI cP a κ np cs b (nI k) (nI (h * k / (k + 1))) s A σ ρ H locs) (jx : jj κ σ ρ h k N) (hN : N + 1 < 100000) (hl : lv_has ls 4 [(0, .ref sb), (1, .ref (aXX a)), (2, .ref (bO b)), (3, .int (nI i))]) (hi : i + 4 ≤ L)
    (kk : ∀ (σ' : sh_S) (ρ' : rm_S) (H1 : Heap) (locs1 : List Loc), lw_Wd D cI cP a κ np cs b (nI k) (nI (h * k / (k + 1))) s A σ' ρ' H1 locs1 → jj κ σ' ρ' h k (N + 1) → W p l e R s m #[Value.ref sb] below meth c H1 locs1 (n0 + 2 * nal σ') (m0 + 1025 * nal σ') Q (F0 m 718 ls [])) :
    W p l e R s m #[Value.ref sb] below meth c H locs (n0 + 2 * nal σ) (m0 + 1025 * nal σ) Q (F0 m 320 ls []) := by
  obtain ⟨S, hX, hbl, hbA, hL, hR, hbud⟩ := id C
  obtain ⟨ob, hob, hok⟩ := jc_ok jx
  have hob9 : ob < 2 ^ 30 := by have := hok.2.1; omega
  obtain ⟨he, hj⟩ := jc_look jx (xs (i + 1)) (xs (i + 2))
  refine lv_aload_n S.1 S.2.1 d_L_law_320 rfl (lv_at hl 1 rfl) ?_
  refine lw_ld (pc := 321) (j := 1) C hw hl (by omega) (by decide) d_L_law_321 d_L_law_322 d_L_law_323 rfl d_L_law_324 d_L_law_325 ?_
  refine lw_ld (pc := 326) (j := 2) C hw hl (by omega) (by decide) d_L_law_326 d_L_law_327 d_L_law_328 rfl d_L_law_329 d_L_law_330 ?_
  refine lw_callX S hw hbud (As := [.int (xs (i + 1)), .int (xs (i + 2))]) (rest := []) (c_X_look l D cI cP a κ np σ (xs (i + 1)) (xs (i + 2))) tb_254 tb_251 tb_252 tb_253 tb_1 hd_X_look rfl ⟨by omega, by omega⟩ hl.1 rfl (Nat.le_of_ble_eq_true rfl) d_L_law_331 (fun H locs hw => ?_)
  refine W.eq (g2 := F0 m 334 ls [.long ((sh_look κ σ (xs (i + 1)) (xs (i + 2))).1)]) rfl ?_
  refine lv_aload_n S.1 S.2.1 d_L_law_334 rfl (lv_at hl 2 rfl) ?_
  refine lw_ld (pc := 335) (j := 1) C hw hl (by omega) (by decide) d_L_law_335 d_L_law_336 d_L_law_337 rfl d_L_law_338 d_L_law_339 ?_
  refine lw_ld (pc := 340) (j := 2) C hw hl (by omega) (by decide) d_L_law_340 d_L_law_341 d_L_law_342 rfl d_L_law_343 d_L_law_344 ?_
  refine lw_callR S hw hbud (As := [.int (xs (i + 1)), .int (xs (i + 2))]) (rest := [.long ((sh_look κ σ (xs (i + 1)) (xs (i + 2))).1)]) (c_R_look l D cs b (nI k) (nI (h * k / (k + 1))) ρ (xs (i + 1)) (xs (i + 2)) hok) tb_470 tb_467 tb_468 tb_469 tb_5 hd_R_look rfl ⟨by omega, by omega⟩ hl.1 rfl (Nat.le_of_ble_eq_true rfl) d_L_law_345 (fun H locs hw => ?_)
  refine W.eq (g2 := F0 m 348 ls [.long (rm_look ρ (xs (i + 1)) (xs (i + 2))), .long ((sh_look κ σ (xs (i + 1)) (xs (i + 2))).1)]) rfl ?_
  refine W.lcmp S.1 S.2.1 d_L_law_348 ?_
  refine lv_if_eq (tgt := 718) S.1 S.2.1 d_L_law_349 (by decide) (fun _ => ?_) (fun z => absurd ((lg_cmp_eq _ _).mpr he) z)
  exact kk _ _ _ _ hw hj
set_option maxHeartbeats 400000 in
set_option maxRecDepth 100000 in
theorem lw_k5 (C : lw_C p s m c sb L xs A R n0 m0 np) (hw : lw_Wd D cI cP a κ np cs b (nI k) (nI (h * k / (k + 1))) s A σ ρ H locs) (jx : jj κ σ ρ h k N) (hN : N + 1 < 100000) (hl : lv_has ls 4 [(0, .ref sb), (1, .ref (aXX a)), (2, .ref (bO b)), (3, .int (nI i))]) (hi : i + 4 ≤ L)
    (kk : ∀ (σ' : sh_S) (ρ' : rm_S) (H1 : Heap) (locs1 : List Loc), lw_Wd D cI cP a κ np cs b (nI k) (nI (h * k / (k + 1))) s A σ' ρ' H1 locs1 → jj κ σ' ρ' h k (N + 1) → W p l e R s m #[Value.ref sb] below meth c H1 locs1 (n0 + 2 * nal σ') (m0 + 1025 * nal σ') Q (F0 m 718 ls [])) :
    W p l e R s m #[Value.ref sb] below meth c H locs (n0 + 2 * nal σ) (m0 + 1025 * nal σ) Q (F0 m 354 ls []) := by
  obtain ⟨S, hX, hbl, hbA, hL, hR, hbud⟩ := id C
  obtain ⟨ob, hob, hok⟩ := jc_ok jx
  have hob9 : ob < 2 ^ 30 := by have := hok.2.1; omega
  obtain ⟨he, hj⟩ := jc_set jx (xs (i + 1)) (xs (i + 2)) (xs (i + 3))
  refine lv_aload_n S.1 S.2.1 d_L_law_354 rfl (lv_at hl 1 rfl) ?_
  refine lw_ld (pc := 355) (j := 1) C hw hl (by omega) (by decide) d_L_law_355 d_L_law_356 d_L_law_357 rfl d_L_law_358 d_L_law_359 ?_
  refine lw_ld (pc := 360) (j := 2) C hw hl (by omega) (by decide) d_L_law_360 d_L_law_361 d_L_law_362 rfl d_L_law_363 d_L_law_364 ?_
  refine lw_ld (pc := 365) (j := 3) C hw hl (by omega) (by decide) d_L_law_365 d_L_law_366 d_L_law_367 rfl d_L_law_368 d_L_law_369 ?_
  refine lw_callX S hw hbud (As := [.int (xs (i + 1)), .int (xs (i + 2)), .int (xs (i + 3))]) (rest := []) (c_X_set l D cI cP a κ np σ (xs (i + 1)) (xs (i + 2)) (xs (i + 3))) tb_266 tb_263 tb_264 tb_265 tb_1 hd_X_set rfl ⟨by omega, by omega⟩ hl.1 rfl (Nat.le_of_ble_eq_true rfl) d_L_law_370 (fun H locs hw => ?_)
  refine W.eq (g2 := F0 m 373 ls [.int ((sh_set κ σ (xs (i + 1)) (xs (i + 2)) (xs (i + 3))).1)]) rfl ?_
  refine lv_aload_n S.1 S.2.1 d_L_law_373 rfl (lv_at hl 2 rfl) ?_
  refine lw_ld (pc := 374) (j := 1) C hw hl (by omega) (by decide) d_L_law_374 d_L_law_375 d_L_law_376 rfl d_L_law_377 d_L_law_378 ?_
  refine lw_ld (pc := 379) (j := 2) C hw hl (by omega) (by decide) d_L_law_379 d_L_law_380 d_L_law_381 rfl d_L_law_382 d_L_law_383 ?_
  refine lw_ld (pc := 384) (j := 3) C hw hl (by omega) (by decide) d_L_law_384 d_L_law_385 d_L_law_386 rfl d_L_law_387 d_L_law_388 ?_
  refine lw_callR S hw hbud (As := [.int (xs (i + 1)), .int (xs (i + 2)), .int (xs (i + 3))]) (rest := [.int ((sh_set κ σ (xs (i + 1)) (xs (i + 2)) (xs (i + 3))).1)]) (c_R_set l D cs b (nI k) (nI (h * k / (k + 1))) ρ (xs (i + 1)) (xs (i + 2)) (xs (i + 3)) hok) tb_475 tb_472 tb_473 tb_474 tb_5 hd_R_set rfl ⟨by omega, by omega⟩ hl.1 rfl (Nat.le_of_ble_eq_true rfl) d_L_law_389 (fun H locs hw => ?_)
  refine W.eq (g2 := F0 m 392 ls [.int ((rm_set ρ (xs (i + 1)) (xs (i + 2)) (xs (i + 3))).1), .int ((sh_set κ σ (xs (i + 1)) (xs (i + 2)) (xs (i + 3))).1)]) rfl ?_
  refine lv_icmp_eq (tgt := 718) S.1 S.2.1 d_L_law_392 (by decide) (fun _ => ?_) (fun z => absurd he z)
  exact kk _ _ _ _ hw hj
set_option maxHeartbeats 400000 in
set_option maxRecDepth 100000 in
theorem lw_k6 (C : lw_C p s m c sb L xs A R n0 m0 np) (hw : lw_Wd D cI cP a κ np cs b (nI k) (nI (h * k / (k + 1))) s A σ ρ H locs) (jx : jj κ σ ρ h k N) (hN : N + 1 < 100000) (hl : lv_has ls 4 [(0, .ref sb), (1, .ref (aXX a)), (2, .ref (bO b)), (3, .int (nI i))]) (hi : i + 4 ≤ L)
    (kk : ∀ (σ' : sh_S) (ρ' : rm_S) (H1 : Heap) (locs1 : List Loc), lw_Wd D cI cP a κ np cs b (nI k) (nI (h * k / (k + 1))) s A σ' ρ' H1 locs1 → jj κ σ' ρ' h k (N + 1) → W p l e R s m #[Value.ref sb] below meth c H1 locs1 (n0 + 2 * nal σ') (m0 + 1025 * nal σ') Q (F0 m 718 ls [])) :
    W p l e R s m #[Value.ref sb] below meth c H locs (n0 + 2 * nal σ) (m0 + 1025 * nal σ) Q (F0 m 397 ls []) := by
  obtain ⟨S, hX, hbl, hbA, hL, hR, hbud⟩ := id C
  obtain ⟨ob, hob, hok⟩ := jc_ok jx
  have hob9 : ob < 2 ^ 30 := by have := hok.2.1; omega
  obtain ⟨he, hj⟩ := jc_getItem jx (xs (i + 1)) (xs (i + 2)) (xs (i + 3))
  obtain ⟨-, hI, hF⟩ := jc_safe jx (nI (h * k / (k + 1))) (xs (i + 2)) (xs (i + 3))
  refine lv_aload_n S.1 S.2.1 d_L_law_397 rfl (lv_at hl 1 rfl) ?_
  refine lw_ld (pc := 398) (j := 1) C hw hl (by omega) (by decide) d_L_law_398 d_L_law_399 d_L_law_400 rfl d_L_law_401 d_L_law_402 ?_
  refine lw_ld (pc := 403) (j := 2) C hw hl (by omega) (by decide) d_L_law_403 d_L_law_404 d_L_law_405 rfl d_L_law_406 d_L_law_407 ?_
  refine lw_ld (pc := 408) (j := 3) C hw hl (by omega) (by decide) d_L_law_408 d_L_law_409 d_L_law_410 rfl d_L_law_411 d_L_law_412 ?_
  refine lw_callX S hw hbud (As := [.int (xs (i + 1)), .int (xs (i + 2)), .int (xs (i + 3))]) (rest := []) (c_X_getItem l D cI cP a κ np σ (xs (i + 1)) (xs (i + 2)) (xs (i + 3))) tb_271 tb_268 tb_269 tb_270 tb_1 hd_X_getItem rfl ⟨by omega, by omega⟩ hl.1 rfl (Nat.le_of_ble_eq_true rfl) d_L_law_413 (fun H locs hw => ?_)
  refine W.eq (g2 := F0 m 416 ls [.int ((sh_getItem κ σ (xs (i + 1)) (xs (i + 2)) (xs (i + 3))).1)]) rfl ?_
  refine lv_aload_n S.1 S.2.1 d_L_law_416 rfl (lv_at hl 2 rfl) ?_
  refine lw_ld (pc := 417) (j := 1) C hw hl (by omega) (by decide) d_L_law_417 d_L_law_418 d_L_law_419 rfl d_L_law_420 d_L_law_421 ?_
  refine lw_ld (pc := 422) (j := 2) C hw hl (by omega) (by decide) d_L_law_422 d_L_law_423 d_L_law_424 rfl d_L_law_425 d_L_law_426 ?_
  refine lw_ld (pc := 427) (j := 3) C hw hl (by omega) (by decide) d_L_law_427 d_L_law_428 d_L_law_429 rfl d_L_law_430 d_L_law_431 ?_
  refine lw_callR S hw hbud (As := [.int (xs (i + 1)), .int (xs (i + 2)), .int (xs (i + 3))]) (rest := [.int ((sh_getItem κ σ (xs (i + 1)) (xs (i + 2)) (xs (i + 3))).1)]) (c_R_getItem l D cs b (nI k) (nI (h * k / (k + 1))) ρ (xs (i + 1)) (xs (i + 2)) (xs (i + 3)) hok hI) tb_479 tb_476 tb_477 tb_478 tb_5 hd_R_getItem rfl ⟨by omega, by omega⟩ hl.1 rfl (Nat.le_of_ble_eq_true rfl) d_L_law_432 (fun H locs hw => ?_)
  refine W.eq (g2 := F0 m 435 ls [.int ((rm_getItem ρ (xs (i + 1)) (xs (i + 2)) (xs (i + 3))).1), .int ((sh_getItem κ σ (xs (i + 1)) (xs (i + 2)) (xs (i + 3))).1)]) rfl ?_
  refine lv_icmp_eq (tgt := 718) S.1 S.2.1 d_L_law_435 (by decide) (fun _ => ?_) (fun z => absurd he z)
  exact kk _ _ _ _ hw hj
set_option maxHeartbeats 400000 in
set_option maxRecDepth 100000 in
theorem lw_k7 (C : lw_C p s m c sb L xs A R n0 m0 np) (hw : lw_Wd D cI cP a κ np cs b (nI k) (nI (h * k / (k + 1))) s A σ ρ H locs) (jx : jj κ σ ρ h k N) (hN : N + 1 < 100000) (hl : lv_has ls 4 [(0, .ref sb), (1, .ref (aXX a)), (2, .ref (bO b)), (3, .int (nI i))]) (hi : i + 4 ≤ L)
    (kk : ∀ (σ' : sh_S) (ρ' : rm_S) (H1 : Heap) (locs1 : List Loc), lw_Wd D cI cP a κ np cs b (nI k) (nI (h * k / (k + 1))) s A σ' ρ' H1 locs1 → jj κ σ' ρ' h k (N + 1) → W p l e R s m #[Value.ref sb] below meth c H1 locs1 (n0 + 2 * nal σ') (m0 + 1025 * nal σ') Q (F0 m 718 ls [])) :
    W p l e R s m #[Value.ref sb] below meth c H locs (n0 + 2 * nal σ) (m0 + 1025 * nal σ) Q (F0 m 440 ls []) := by
  obtain ⟨S, hX, hbl, hbA, hL, hR, hbud⟩ := id C
  obtain ⟨ob, hob, hok⟩ := jc_ok jx
  have hob9 : ob < 2 ^ 30 := by have := hok.2.1; omega
  obtain ⟨he, hj⟩ := jc_putItem jx hN (xs (i + 1)) (xs (i + 2)) (xs (i + 3))
  obtain ⟨-, hI, hF⟩ := jc_safe jx (nI (h * k / (k + 1))) (xs (i + 1)) (xs (i + 2))
  refine lv_aload_n S.1 S.2.1 d_L_law_440 rfl (lv_at hl 1 rfl) ?_
  refine lw_ld (pc := 441) (j := 1) C hw hl (by omega) (by decide) d_L_law_441 d_L_law_442 d_L_law_443 rfl d_L_law_444 d_L_law_445 ?_
  refine lw_ld (pc := 446) (j := 2) C hw hl (by omega) (by decide) d_L_law_446 d_L_law_447 d_L_law_448 rfl d_L_law_449 d_L_law_450 ?_
  refine lw_ld (pc := 451) (j := 3) C hw hl (by omega) (by decide) d_L_law_451 d_L_law_452 d_L_law_453 rfl d_L_law_454 d_L_law_455 ?_
  refine lw_callX S hw hbud (As := [.int (xs (i + 1)), .int (xs (i + 2)), .int (xs (i + 3))]) (rest := []) (c_X_putItem l D cI cP a κ np σ (xs (i + 1)) (xs (i + 2)) (xs (i + 3))) tb_298 tb_295 tb_296 tb_297 tb_1 hd_X_putItem rfl ⟨by omega, by omega⟩ hl.1 rfl (Nat.le_of_ble_eq_true rfl) d_L_law_456 (fun H locs hw => ?_)
  refine W.eq (g2 := F0 m 459 ls [.int ((sh_putItem κ σ (xs (i + 1)) (xs (i + 2)) (xs (i + 3))).1)]) rfl ?_
  refine lv_aload_n S.1 S.2.1 d_L_law_459 rfl (lv_at hl 2 rfl) ?_
  refine lw_ld (pc := 460) (j := 1) C hw hl (by omega) (by decide) d_L_law_460 d_L_law_461 d_L_law_462 rfl d_L_law_463 d_L_law_464 ?_
  refine lw_ld (pc := 465) (j := 2) C hw hl (by omega) (by decide) d_L_law_465 d_L_law_466 d_L_law_467 rfl d_L_law_468 d_L_law_469 ?_
  refine lw_ld (pc := 470) (j := 3) C hw hl (by omega) (by decide) d_L_law_470 d_L_law_471 d_L_law_472 rfl d_L_law_473 d_L_law_474 ?_
  refine lw_callR S hw hbud (As := [.int (xs (i + 1)), .int (xs (i + 2)), .int (xs (i + 3))]) (rest := [.int ((sh_putItem κ σ (xs (i + 1)) (xs (i + 2)) (xs (i + 3))).1)]) (c_R_putItem2 l D cs b (nI k) (nI (h * k / (k + 1))) ρ (xs (i + 1)) (xs (i + 2)) (xs (i + 3)) hok hI hF hok.1 hob9) tb_491 tb_488 tb_489 tb_490 tb_5 hd_R_putItem rfl ⟨by omega, by omega⟩ hl.1 rfl (Nat.le_of_ble_eq_true rfl) d_L_law_475 (fun H locs hw => ?_)
  refine W.eq (g2 := F0 m 478 ls [.int ((rm_putItem (nI k) (nI (h * k / (k + 1))) ρ (xs (i + 1)) (xs (i + 2)) (xs (i + 3))).1), .int ((sh_putItem κ σ (xs (i + 1)) (xs (i + 2)) (xs (i + 3))).1)]) rfl ?_
  refine lv_icmp_eq (tgt := 718) S.1 S.2.1 d_L_law_478 (by decide) (fun _ => ?_) (fun z => absurd he z)
  exact kk _ _ _ _ hw hj
set_option maxHeartbeats 400000 in
set_option maxRecDepth 100000 in
theorem lw_k8 (C : lw_C p s m c sb L xs A R n0 m0 np) (hw : lw_Wd D cI cP a κ np cs b (nI k) (nI (h * k / (k + 1))) s A σ ρ H locs) (jx : jj κ σ ρ h k N) (hN : N + 1 < 100000) (hl : lv_has ls 4 [(0, .ref sb), (1, .ref (aXX a)), (2, .ref (bO b)), (3, .int (nI i))]) (hi : i + 4 ≤ L)
    (kk : ∀ (σ' : sh_S) (ρ' : rm_S) (H1 : Heap) (locs1 : List Loc), lw_Wd D cI cP a κ np cs b (nI k) (nI (h * k / (k + 1))) s A σ' ρ' H1 locs1 → jj κ σ' ρ' h k (N + 1) → W p l e R s m #[Value.ref sb] below meth c H1 locs1 (n0 + 2 * nal σ') (m0 + 1025 * nal σ') Q (F0 m 718 ls [])) :
    W p l e R s m #[Value.ref sb] below meth c H locs (n0 + 2 * nal σ) (m0 + 1025 * nal σ) Q (F0 m 483 ls []) := by
  obtain ⟨S, hX, hbl, hbA, hL, hR, hbud⟩ := id C
  obtain ⟨ob, hob, hok⟩ := jc_ok jx
  have hob9 : ob < 2 ^ 30 := by have := hok.2.1; omega
  obtain ⟨he, hj⟩ := jc_lookItem jx (xs (i + 1)) (xs (i + 2))
  obtain ⟨-, hI, hF⟩ := jc_safe jx (nI (h * k / (k + 1))) (xs (i + 1)) (xs (i + 2))
  refine lv_aload_n S.1 S.2.1 d_L_law_483 rfl (lv_at hl 1 rfl) ?_
  refine lw_ld (pc := 484) (j := 1) C hw hl (by omega) (by decide) d_L_law_484 d_L_law_485 d_L_law_486 rfl d_L_law_487 d_L_law_488 ?_
  refine lw_ld (pc := 489) (j := 2) C hw hl (by omega) (by decide) d_L_law_489 d_L_law_490 d_L_law_491 rfl d_L_law_492 d_L_law_493 ?_
  refine lw_callX S hw hbud (As := [.int (xs (i + 1)), .int (xs (i + 2))]) (rest := []) (c_X_lookItem l D cI cP a κ np σ (xs (i + 1)) (xs (i + 2))) tb_308 tb_305 tb_306 tb_307 tb_1 hd_X_lookItem rfl ⟨by omega, by omega⟩ hl.1 rfl (Nat.le_of_ble_eq_true rfl) d_L_law_494 (fun H locs hw => ?_)
  refine W.eq (g2 := F0 m 497 ls [.long ((sh_lookItem κ σ (xs (i + 1)) (xs (i + 2))).1)]) rfl ?_
  refine lv_aload_n S.1 S.2.1 d_L_law_497 rfl (lv_at hl 2 rfl) ?_
  refine lw_ld (pc := 498) (j := 1) C hw hl (by omega) (by decide) d_L_law_498 d_L_law_499 d_L_law_500 rfl d_L_law_501 d_L_law_502 ?_
  refine lw_ld (pc := 503) (j := 2) C hw hl (by omega) (by decide) d_L_law_503 d_L_law_504 d_L_law_505 rfl d_L_law_506 d_L_law_507 ?_
  refine lw_callR S hw hbud (As := [.int (xs (i + 1)), .int (xs (i + 2))]) (rest := [.long ((sh_lookItem κ σ (xs (i + 1)) (xs (i + 2))).1)]) (c_R_lookItem l D cs b (nI k) (nI (h * k / (k + 1))) ρ (xs (i + 1)) (xs (i + 2)) hok hI) tb_499 tb_496 tb_497 tb_498 tb_5 hd_R_lookItem rfl ⟨by omega, by omega⟩ hl.1 rfl (Nat.le_of_ble_eq_true rfl) d_L_law_508 (fun H locs hw => ?_)
  refine W.eq (g2 := F0 m 511 ls [.long ((rm_lookItem ρ (xs (i + 1)) (xs (i + 2))).1), .long ((sh_lookItem κ σ (xs (i + 1)) (xs (i + 2))).1)]) rfl ?_
  refine W.lcmp S.1 S.2.1 d_L_law_511 ?_
  refine lv_if_eq (tgt := 718) S.1 S.2.1 d_L_law_512 (by decide) (fun _ => ?_) (fun z => absurd ((lg_cmp_eq _ _).mpr he) z)
  exact kk _ _ _ _ hw hj
set_option maxHeartbeats 400000 in
set_option maxRecDepth 100000 in
theorem lw_k9 (C : lw_C p s m c sb L xs A R n0 m0 np) (hw : lw_Wd D cI cP a κ np cs b (nI k) (nI (h * k / (k + 1))) s A σ ρ H locs) (jx : jj κ σ ρ h k N) (hN : N + 1 < 100000) (hl : lv_has ls 4 [(0, .ref sb), (1, .ref (aXX a)), (2, .ref (bO b)), (3, .int (nI i))]) (hi : i + 4 ≤ L)
    (kk : ∀ (σ' : sh_S) (ρ' : rm_S) (H1 : Heap) (locs1 : List Loc), lw_Wd D cI cP a κ np cs b (nI k) (nI (h * k / (k + 1))) s A σ' ρ' H1 locs1 → jj κ σ' ρ' h k (N + 1) → W p l e R s m #[Value.ref sb] below meth c H1 locs1 (n0 + 2 * nal σ') (m0 + 1025 * nal σ') Q (F0 m 718 ls [])) :
    W p l e R s m #[Value.ref sb] below meth c H locs (n0 + 2 * nal σ) (m0 + 1025 * nal σ) Q (F0 m 517 ls []) := by
  obtain ⟨S, hX, hbl, hbA, hL, hR, hbud⟩ := id C
  obtain ⟨ob, hob, hok⟩ := jc_ok jx
  have hob9 : ob < 2 ^ 30 := by have := hok.2.1; omega
  obtain ⟨he, hj⟩ := jc_setItem jx hN (xs (i + 1)) (xs (i + 2)) (xs (i + 3))
  obtain ⟨-, hI, hF⟩ := jc_safe jx (nI (h * k / (k + 1))) (xs (i + 1)) (xs (i + 2))
  refine lv_aload_n S.1 S.2.1 d_L_law_517 rfl (lv_at hl 1 rfl) ?_
  refine lw_ld (pc := 518) (j := 1) C hw hl (by omega) (by decide) d_L_law_518 d_L_law_519 d_L_law_520 rfl d_L_law_521 d_L_law_522 ?_
  refine lw_ld (pc := 523) (j := 2) C hw hl (by omega) (by decide) d_L_law_523 d_L_law_524 d_L_law_525 rfl d_L_law_526 d_L_law_527 ?_
  refine lw_ld (pc := 528) (j := 3) C hw hl (by omega) (by decide) d_L_law_528 d_L_law_529 d_L_law_530 rfl d_L_law_531 d_L_law_532 ?_
  refine lw_callX S hw hbud (As := [.int (xs (i + 1)), .int (xs (i + 2)), .int (xs (i + 3))]) (rest := []) (c_X_setItem l D cI cP a κ np σ (xs (i + 1)) (xs (i + 2)) (xs (i + 3))) tb_312 tb_309 tb_310 tb_311 tb_1 hd_X_setItem rfl ⟨by omega, by omega⟩ hl.1 rfl (Nat.le_of_ble_eq_true rfl) d_L_law_533 (fun H locs hw => ?_)
  refine W.eq (g2 := F0 m 536 ls [.int ((sh_setItem κ σ (xs (i + 1)) (xs (i + 2)) (xs (i + 3))).1)]) rfl ?_
  refine lv_aload_n S.1 S.2.1 d_L_law_536 rfl (lv_at hl 2 rfl) ?_
  refine lw_ld (pc := 537) (j := 1) C hw hl (by omega) (by decide) d_L_law_537 d_L_law_538 d_L_law_539 rfl d_L_law_540 d_L_law_541 ?_
  refine lw_ld (pc := 542) (j := 2) C hw hl (by omega) (by decide) d_L_law_542 d_L_law_543 d_L_law_544 rfl d_L_law_545 d_L_law_546 ?_
  refine lw_ld (pc := 547) (j := 3) C hw hl (by omega) (by decide) d_L_law_547 d_L_law_548 d_L_law_549 rfl d_L_law_550 d_L_law_551 ?_
  refine lw_callR S hw hbud (As := [.int (xs (i + 1)), .int (xs (i + 2)), .int (xs (i + 3))]) (rest := [.int ((sh_setItem κ σ (xs (i + 1)) (xs (i + 2)) (xs (i + 3))).1)]) (c_R_setItem2 l D cs b (nI k) (nI (h * k / (k + 1))) ρ (xs (i + 1)) (xs (i + 2)) (xs (i + 3)) hok hI hF hok.1 hob9) tb_503 tb_500 tb_501 tb_502 tb_5 hd_R_setItem rfl ⟨by omega, by omega⟩ hl.1 rfl (Nat.le_of_ble_eq_true rfl) d_L_law_552 (fun H locs hw => ?_)
  refine W.eq (g2 := F0 m 555 ls [.int ((rm_setItem (nI k) (nI (h * k / (k + 1))) ρ (xs (i + 1)) (xs (i + 2)) (xs (i + 3))).1), .int ((sh_setItem κ σ (xs (i + 1)) (xs (i + 2)) (xs (i + 3))).1)]) rfl ?_
  refine lv_icmp_eq (tgt := 718) S.1 S.2.1 d_L_law_555 (by decide) (fun _ => ?_) (fun z => absurd he z)
  exact kk _ _ _ _ hw hj
set_option maxHeartbeats 400000 in
set_option maxRecDepth 100000 in
theorem lw_k10 (C : lw_C p s m c sb L xs A R n0 m0 np) (hw : lw_Wd D cI cP a κ np cs b (nI k) (nI (h * k / (k + 1))) s A σ ρ H locs) (jx : jj κ σ ρ h k N) (hN : N + 1 < 100000) (hl : lv_has ls 4 [(0, .ref sb), (1, .ref (aXX a)), (2, .ref (bO b)), (3, .int (nI i))]) (hi : i + 4 ≤ L)
    (kk : ∀ (σ' : sh_S) (ρ' : rm_S) (H1 : Heap) (locs1 : List Loc), lw_Wd D cI cP a κ np cs b (nI k) (nI (h * k / (k + 1))) s A σ' ρ' H1 locs1 → jj κ σ' ρ' h k (N + 1) → W p l e R s m #[Value.ref sb] below meth c H1 locs1 (n0 + 2 * nal σ') (m0 + 1025 * nal σ') Q (F0 m 718 ls [])) :
    W p l e R s m #[Value.ref sb] below meth c H locs (n0 + 2 * nal σ) (m0 + 1025 * nal σ) Q (F0 m 560 ls []) := by
  obtain ⟨S, hX, hbl, hbA, hL, hR, hbud⟩ := id C
  obtain ⟨ob, hob, hok⟩ := jc_ok jx
  have hob9 : ob < 2 ^ 30 := by have := hok.2.1; omega
  obtain ⟨he, hj⟩ := jc_copy jx (xs (i + 1)) (xs (i + 2))
  refine lv_aload_n S.1 S.2.1 d_L_law_560 rfl (lv_at hl 1 rfl) ?_
  refine lw_ld (pc := 561) (j := 1) C hw hl (by omega) (by decide) d_L_law_561 d_L_law_562 d_L_law_563 rfl d_L_law_564 d_L_law_565 ?_
  refine lw_ld (pc := 566) (j := 2) C hw hl (by omega) (by decide) d_L_law_566 d_L_law_567 d_L_law_568 rfl d_L_law_569 d_L_law_570 ?_
  refine lw_callX S hw hbud (As := [.int (xs (i + 1)), .int (xs (i + 2))]) (rest := []) (c_X_copy l D cI cP a κ np σ (xs (i + 1)) (xs (i + 2))) tb_316 tb_313 tb_314 tb_315 tb_1 hd_X_copy rfl ⟨by omega, by omega⟩ hl.1 rfl (Nat.le_of_ble_eq_true rfl) d_L_law_571 (fun H locs hw => ?_)
  refine W.eq (g2 := F0 m 574 ls [.int ((sh_copy σ (xs (i + 1)) (xs (i + 2))).1)]) rfl ?_
  refine lv_aload_n S.1 S.2.1 d_L_law_574 rfl (lv_at hl 2 rfl) ?_
  refine lw_ld (pc := 575) (j := 1) C hw hl (by omega) (by decide) d_L_law_575 d_L_law_576 d_L_law_577 rfl d_L_law_578 d_L_law_579 ?_
  refine lw_ld (pc := 580) (j := 2) C hw hl (by omega) (by decide) d_L_law_580 d_L_law_581 d_L_law_582 rfl d_L_law_583 d_L_law_584 ?_
  refine lw_callR S hw hbud (As := [.int (xs (i + 1)), .int (xs (i + 2))]) (rest := [.int ((sh_copy σ (xs (i + 1)) (xs (i + 2))).1)]) (c_R_copy l D cs b (nI k) (nI (h * k / (k + 1))) ρ (xs (i + 1)) (xs (i + 2))) tb_507 tb_504 tb_505 tb_506 tb_5 hd_R_copy rfl ⟨by omega, by omega⟩ hl.1 rfl (Nat.le_of_ble_eq_true rfl) d_L_law_585 (fun H locs hw => ?_)
  refine W.eq (g2 := F0 m 588 ls [.int ((rm_copy ρ (xs (i + 1)) (xs (i + 2))).1), .int ((sh_copy σ (xs (i + 1)) (xs (i + 2))).1)]) rfl ?_
  refine lv_icmp_eq (tgt := 718) S.1 S.2.1 d_L_law_588 (by decide) (fun _ => ?_) (fun z => absurd he z)
  exact kk _ _ _ _ hw hj
set_option maxHeartbeats 400000 in
set_option maxRecDepth 100000 in
theorem lw_k11 (C : lw_C p s m c sb L xs A R n0 m0 np) (hw : lw_Wd D cI cP a κ np cs b (nI k) (nI (h * k / (k + 1))) s A σ ρ H locs) (jx : jj κ σ ρ h k N) (hN : N + 1 < 100000) (hl : lv_has ls 4 [(0, .ref sb), (1, .ref (aXX a)), (2, .ref (bO b)), (3, .int (nI i))]) (hi : i + 4 ≤ L)
    (kk : ∀ (σ' : sh_S) (ρ' : rm_S) (H1 : Heap) (locs1 : List Loc), lw_Wd D cI cP a κ np cs b (nI k) (nI (h * k / (k + 1))) s A σ' ρ' H1 locs1 → jj κ σ' ρ' h k (N + 1) → W p l e R s m #[Value.ref sb] below meth c H1 locs1 (n0 + 2 * nal σ') (m0 + 1025 * nal σ') Q (F0 m 718 ls [])) :
    W p l e R s m #[Value.ref sb] below meth c H locs (n0 + 2 * nal σ) (m0 + 1025 * nal σ) Q (F0 m 593 ls []) := by
  obtain ⟨S, hX, hbl, hbA, hL, hR, hbud⟩ := id C
  obtain ⟨ob, hob, hok⟩ := jc_ok jx
  have hob9 : ob < 2 ^ 30 := by have := hok.2.1; omega
  obtain ⟨he, hj⟩ := jc_drop jx (xs (i + 1))
  refine lv_aload_n S.1 S.2.1 d_L_law_593 rfl (lv_at hl 1 rfl) ?_
  refine lw_ld (pc := 594) (j := 1) C hw hl (by omega) (by decide) d_L_law_594 d_L_law_595 d_L_law_596 rfl d_L_law_597 d_L_law_598 ?_
  refine lw_callX S hw hbud (As := [.int (xs (i + 1))]) (rest := []) (c_X_drop l D cI cP a κ np σ (xs (i + 1))) tb_320 tb_317 tb_318 tb_319 tb_1 hd_X_drop rfl ⟨by omega, by omega⟩ hl.1 rfl (Nat.le_of_ble_eq_true rfl) d_L_law_599 (fun H locs hw => ?_)
  refine W.eq (g2 := F0 m 602 ls [.int ((sh_drop σ (xs (i + 1))).1)]) rfl ?_
  refine lv_aload_n S.1 S.2.1 d_L_law_602 rfl (lv_at hl 2 rfl) ?_
  refine lw_ld (pc := 603) (j := 1) C hw hl (by omega) (by decide) d_L_law_603 d_L_law_604 d_L_law_605 rfl d_L_law_606 d_L_law_607 ?_
  refine lw_callR S hw hbud (As := [.int (xs (i + 1))]) (rest := [.int ((sh_drop σ (xs (i + 1))).1)]) (c_R_drop l D cs b (nI k) (nI (h * k / (k + 1))) ρ (xs (i + 1))) tb_511 tb_508 tb_509 tb_510 tb_5 hd_R_drop rfl ⟨by omega, by omega⟩ hl.1 rfl (Nat.le_of_ble_eq_true rfl) d_L_law_608 (fun H locs hw => ?_)
  refine W.eq (g2 := F0 m 611 ls [.int ((rm_drop ρ (xs (i + 1))).1), .int ((sh_drop σ (xs (i + 1))).1)]) rfl ?_
  refine lv_icmp_eq (tgt := 718) S.1 S.2.1 d_L_law_611 (by decide) (fun _ => ?_) (fun z => absurd he z)
  exact kk _ _ _ _ hw hj
set_option maxHeartbeats 400000 in
set_option maxRecDepth 100000 in
theorem lw_k12 (C : lw_C p s m c sb L xs A R n0 m0 np) (hw : lw_Wd D cI cP a κ np cs b (nI k) (nI (h * k / (k + 1))) s A σ ρ H locs) (jx : jj κ σ ρ h k N) (hN : N + 1 < 100000) (hl : lv_has ls 4 [(0, .ref sb), (1, .ref (aXX a)), (2, .ref (bO b)), (3, .int (nI i))]) (hi : i + 4 ≤ L)
    (kk : ∀ (σ' : sh_S) (ρ' : rm_S) (H1 : Heap) (locs1 : List Loc), lw_Wd D cI cP a κ np cs b (nI k) (nI (h * k / (k + 1))) s A σ' ρ' H1 locs1 → jj κ σ' ρ' h k (N + 1) → W p l e R s m #[Value.ref sb] below meth c H1 locs1 (n0 + 2 * nal σ') (m0 + 1025 * nal σ') Q (F0 m 718 ls [])) :
    W p l e R s m #[Value.ref sb] below meth c H locs (n0 + 2 * nal σ) (m0 + 1025 * nal σ) Q (F0 m 616 ls []) := by
  obtain ⟨S, hX, hbl, hbA, hL, hR, hbud⟩ := id C
  obtain ⟨ob, hob, hok⟩ := jc_ok jx
  have hob9 : ob < 2 ^ 30 := by have := hok.2.1; omega
  have he := jc_same jx (xs (i + 1)) (xs (i + 2))
  have hj := jc_mono jx
  refine lv_aload_n S.1 S.2.1 d_L_law_616 rfl (lv_at hl 1 rfl) ?_
  refine lw_ld (pc := 617) (j := 1) C hw hl (by omega) (by decide) d_L_law_617 d_L_law_618 d_L_law_619 rfl d_L_law_620 d_L_law_621 ?_
  refine lw_ld (pc := 622) (j := 2) C hw hl (by omega) (by decide) d_L_law_622 d_L_law_623 d_L_law_624 rfl d_L_law_625 d_L_law_626 ?_
  refine lw_rdX S hw hbud (As := [.int (xs (i + 1)), .int (xs (i + 2))]) (rest := []) (c_X_same l D cI cP a κ np σ (xs (i + 1)) (xs (i + 2))) tb_324 tb_321 tb_322 tb_323 tb_1 hd_X_same rfl ⟨by omega, by omega⟩ hl.1 rfl (Nat.le_of_ble_eq_true rfl) d_L_law_627 ?_
  refine lv_aload_n S.1 S.2.1 d_L_law_630 rfl (lv_at hl 2 rfl) ?_
  refine lw_ld (pc := 631) (j := 1) C hw hl (by omega) (by decide) d_L_law_631 d_L_law_632 d_L_law_633 rfl d_L_law_634 d_L_law_635 ?_
  refine lw_ld (pc := 636) (j := 2) C hw hl (by omega) (by decide) d_L_law_636 d_L_law_637 d_L_law_638 rfl d_L_law_639 d_L_law_640 ?_
  refine lw_rdR S hw hbud (As := [.int (xs (i + 1)), .int (xs (i + 2))]) (rest := [.int (sh_same σ (xs (i + 1)) (xs (i + 2)))]) (c_R_same l D cs b (nI k) (nI (h * k / (k + 1))) ρ (xs (i + 1)) (xs (i + 2))) tb_515 tb_512 tb_513 tb_514 tb_5 hd_R_same rfl ⟨by omega, by omega⟩ hl.1 rfl (Nat.le_of_ble_eq_true rfl) d_L_law_641 ?_
  refine lv_icmp_eq (tgt := 718) S.1 S.2.1 d_L_law_644 (by decide) (fun _ => ?_) (fun z => absurd he z)
  exact kk _ _ _ _ hw hj
set_option maxHeartbeats 400000 in
set_option maxRecDepth 100000 in
theorem lw_k13 (C : lw_C p s m c sb L xs A R n0 m0 np) (hw : lw_Wd D cI cP a κ np cs b (nI k) (nI (h * k / (k + 1))) s A σ ρ H locs) (jx : jj κ σ ρ h k N) (hN : N + 1 < 100000) (hl : lv_has ls 4 [(0, .ref sb), (1, .ref (aXX a)), (2, .ref (bO b)), (3, .int (nI i))]) (hi : i + 4 ≤ L)
    (kk : ∀ (σ' : sh_S) (ρ' : rm_S) (H1 : Heap) (locs1 : List Loc), lw_Wd D cI cP a κ np cs b (nI k) (nI (h * k / (k + 1))) s A σ' ρ' H1 locs1 → jj κ σ' ρ' h k (N + 1) → W p l e R s m #[Value.ref sb] below meth c H1 locs1 (n0 + 2 * nal σ') (m0 + 1025 * nal σ') Q (F0 m 718 ls [])) :
    W p l e R s m #[Value.ref sb] below meth c H locs (n0 + 2 * nal σ) (m0 + 1025 * nal σ) Q (F0 m 649 ls []) := by
  obtain ⟨S, hX, hbl, hbA, hL, hR, hbud⟩ := id C
  obtain ⟨ob, hob, hok⟩ := jc_ok jx
  have hob9 : ob < 2 ^ 30 := by have := hok.2.1; omega
  obtain ⟨he, hj⟩ := jc_size jx (xs (i + 1)) (xs (i + 2))
  refine lv_aload_n S.1 S.2.1 d_L_law_649 rfl (lv_at hl 1 rfl) ?_
  refine lw_ld (pc := 650) (j := 1) C hw hl (by omega) (by decide) d_L_law_650 d_L_law_651 d_L_law_652 rfl d_L_law_653 d_L_law_654 ?_
  refine lw_ld (pc := 655) (j := 2) C hw hl (by omega) (by decide) d_L_law_655 d_L_law_656 d_L_law_657 rfl d_L_law_658 d_L_law_659 ?_
  refine lw_callX S hw hbud (As := [.int (xs (i + 1)), .int (xs (i + 2))]) (rest := []) (c_X_size l D cI cP a κ np σ (xs (i + 1)) (xs (i + 2))) tb_328 tb_325 tb_326 tb_327 tb_1 hd_X_size rfl ⟨by omega, by omega⟩ hl.1 rfl (Nat.le_of_ble_eq_true rfl) d_L_law_660 (fun H locs hw => ?_)
  refine W.eq (g2 := F0 m 663 ls [.int ((sh_size κ σ (xs (i + 1)) (xs (i + 2))).1)]) rfl ?_
  refine lv_aload_n S.1 S.2.1 d_L_law_663 rfl (lv_at hl 2 rfl) ?_
  refine lw_ld (pc := 664) (j := 1) C hw hl (by omega) (by decide) d_L_law_664 d_L_law_665 d_L_law_666 rfl d_L_law_667 d_L_law_668 ?_
  refine lw_ld (pc := 669) (j := 2) C hw hl (by omega) (by decide) d_L_law_669 d_L_law_670 d_L_law_671 rfl d_L_law_672 d_L_law_673 ?_
  refine lw_rdR S hw hbud (As := [.int (xs (i + 1)), .int (xs (i + 2))]) (rest := [.int ((sh_size κ σ (xs (i + 1)) (xs (i + 2))).1)]) (c_R_size l D cs b (nI k) (nI (h * k / (k + 1))) ρ (xs (i + 1)) (xs (i + 2)) hok) tb_519 tb_516 tb_517 tb_518 tb_5 hd_R_size rfl ⟨by omega, by omega⟩ hl.1 rfl (Nat.le_of_ble_eq_true rfl) d_L_law_674 ?_
  refine lv_icmp_eq (tgt := 718) S.1 S.2.1 d_L_law_677 (by decide) (fun _ => ?_) (fun z => absurd he z)
  exact kk _ _ _ _ hw hj
set_option maxHeartbeats 400000 in
set_option maxRecDepth 100000 in
theorem lw_k14 (C : lw_C p s m c sb L xs A R n0 m0 np) (hw : lw_Wd D cI cP a κ np cs b (nI k) (nI (h * k / (k + 1))) s A σ ρ H locs) (jx : jj κ σ ρ h k N) (hN : N + 1 < 100000) (hl : lv_has ls 4 [(0, .ref sb), (1, .ref (aXX a)), (2, .ref (bO b)), (3, .int (nI i))]) (hi : i + 4 ≤ L)
    (kk : ∀ (σ' : sh_S) (ρ' : rm_S) (H1 : Heap) (locs1 : List Loc), lw_Wd D cI cP a κ np cs b (nI k) (nI (h * k / (k + 1))) s A σ' ρ' H1 locs1 → jj κ σ' ρ' h k (N + 1) → W p l e R s m #[Value.ref sb] below meth c H1 locs1 (n0 + 2 * nal σ') (m0 + 1025 * nal σ') Q (F0 m 718 ls [])) :
    W p l e R s m #[Value.ref sb] below meth c H locs (n0 + 2 * nal σ) (m0 + 1025 * nal σ) Q (F0 m 682 ls []) := by
  obtain ⟨S, hX, hbl, hbA, hL, hR, hbud⟩ := id C
  obtain ⟨ob, hob, hok⟩ := jc_ok jx
  have hob9 : ob < 2 ^ 30 := by have := hok.2.1; omega
  have he := jc_told jx (xs (i + 1))
  have hj := jc_mono jx
  refine lv_aload_n S.1 S.2.1 d_L_law_682 rfl (lv_at hl 1 rfl) ?_
  refine lw_ld (pc := 683) (j := 1) C hw hl (by omega) (by decide) d_L_law_683 d_L_law_684 d_L_law_685 rfl d_L_law_686 d_L_law_687 ?_
  refine lw_rdX S hw hbud (As := [.int (xs (i + 1))]) (rest := []) (c_X_told l D cI cP a κ np σ (xs (i + 1))) tb_334 tb_331 tb_332 tb_333 tb_1 hd_X_told rfl ⟨by omega, by omega⟩ hl.1 rfl (Nat.le_of_ble_eq_true rfl) d_L_law_688 ?_
  refine lv_aload_n S.1 S.2.1 d_L_law_691 rfl (lv_at hl 2 rfl) ?_
  refine lw_ld (pc := 692) (j := 1) C hw hl (by omega) (by decide) d_L_law_692 d_L_law_693 d_L_law_694 rfl d_L_law_695 d_L_law_696 ?_
  refine lw_rdR S hw hbud (As := [.int (xs (i + 1))]) (rest := [.int (sh_told κ σ (xs (i + 1)))]) (c_R_told l D cs b (nI k) (nI (h * k / (k + 1))) ρ (xs (i + 1))) tb_523 tb_520 tb_521 tb_522 tb_5 hd_R_told rfl ⟨by omega, by omega⟩ hl.1 rfl (Nat.le_of_ble_eq_true rfl) d_L_law_697 ?_
  refine lv_icmp_eq (tgt := 718) S.1 S.2.1 d_L_law_700 (by decide) (fun _ => ?_) (fun z => absurd he z)
  exact kk _ _ _ _ hw hj
set_option maxHeartbeats 400000 in
set_option maxRecDepth 100000 in
theorem lw_k15 (C : lw_C p s m c sb L xs A R n0 m0 np) (hw : lw_Wd D cI cP a κ np cs b (nI k) (nI (h * k / (k + 1))) s A σ ρ H locs) (jx : jj κ σ ρ h k N) (hN : N + 1 < 100000) (hl : lv_has ls 4 [(0, .ref sb), (1, .ref (aXX a)), (2, .ref (bO b)), (3, .int (nI i))]) (hi : i + 4 ≤ L)
    (kk : ∀ (σ' : sh_S) (ρ' : rm_S) (H1 : Heap) (locs1 : List Loc), lw_Wd D cI cP a κ np cs b (nI k) (nI (h * k / (k + 1))) s A σ' ρ' H1 locs1 → jj κ σ' ρ' h k (N + 1) → W p l e R s m #[Value.ref sb] below meth c H1 locs1 (n0 + 2 * nal σ') (m0 + 1025 * nal σ') Q (F0 m 718 ls [])) :
    W p l e R s m #[Value.ref sb] below meth c H locs (n0 + 2 * nal σ) (m0 + 1025 * nal σ) Q (F0 m 705 ls []) := by
  obtain ⟨S, hX, hbl, hbA, hL, hR, hbud⟩ := id C
  obtain ⟨ob, hob, hok⟩ := jc_ok jx
  have hob9 : ob < 2 ^ 30 := by have := hok.2.1; omega
  have he := jc_steady jx
  have hj := jc_mono jx
  refine lv_aload_n S.1 S.2.1 d_L_law_705 rfl (lv_at hl 1 rfl) ?_
  refine lw_rdX S hw hbud (As := []) (rest := []) (c_X_steady l D cI cP a κ np σ (Or.inr he)) tb_340 tb_337 tb_338 tb_339 tb_1 hd_X_steady rfl ⟨by omega, by omega⟩ hl.1 rfl (Nat.le_of_ble_eq_true rfl) d_L_law_706 ?_
  refine lv_aload_n S.1 S.2.1 d_L_law_709 rfl (lv_at hl 2 rfl) ?_
  refine lw_rdR S hw hbud (As := []) (rest := [.int (sSte σ)]) (c_R_steady l D cs b (nI k) (nI (h * k / (k + 1))) ρ) tb_528 tb_525 tb_526 tb_527 tb_5 hd_R_steady rfl ⟨by omega, by omega⟩ hl.1 rfl (Nat.le_of_ble_eq_true rfl) d_L_law_710 ?_
  refine lv_icmp_eq (tgt := 718) S.1 S.2.1 d_L_law_713 (by decide) (fun _ => ?_) (fun z => absurd he z)
  exact kk _ _ _ _ hw hj
end LCASES
