theorem cInv_hi {σ σ' : zM} {S : zSt} (h : cInv σ S) (hf : zfr 57 79 σ σ') : cInv σ' S := by
  obtain ⟨la, mu, h1, h2, h3, h4, ⟨l, h5⟩, h6, h7, h8, ⟨⟨l1, h9⟩, l2, h10⟩, h11, h12⟩ := h
  have p1 : la ≤ 48 ∧ mu ≤ 48 := by unfold zPl at h1; omega
  have f0 := hf 0 (by omega)
  refine ⟨la, mu, h1, by rw [f0, f0]; exact h2, cText_fr h3 (hf 1 (by omega) 2) (fun i => hf 2 (by omega) i) (fun i a b => by rw [hf 3 (by omega)]; exact h3.2.2.2 i a b), cPlan_fr h4 (fun c a b i => hf c (by omega) i), ⟨l, cCry_fr h5 (fun c a b i => hf c (by omega) i)⟩, by rw [f0]; exact h6, by rw [f0]; exact h7, fun k l hk => ⟨cCry_fr (h8 k l hk).1 (fun c a b i => hf c (by have := (List.getElem?_eq_some_iff.mp hk).1; omega) i), (h8 k l hk).2⟩, ⟨⟨l1, cCry_fr h9 (fun c a b i => hf c (by omega) i)⟩, l2, cCry_fr h10 (fun c a b i => hf c (by omega) i)⟩, cNames_fr h11 (hf 27 (by omega) 2) (hf 27 (by omega) 3) (fun i => hf 28 (by omega) i) (fun i => hf 29 (by omega) i), h12⟩
theorem mInv_lo {σ σ' : zM} {S : zSt} (h : mInv σ S) (hf : zfr 0 56 σ σ') : mInv σ' S := mInv_of h (fun c i hu => hf c (by unfold mUse at hu; omega) i)
section ZLW
variable {Γ : zG} {own : String} {b : ByteArray} {mL d : Nat} {ws : va_W} {k n : Nat} {pc q t : Nat} {ls : List (Option Value)} {st : List Value} {x y : Int}
theorem z_sld (j : Nat) (h : zOk Γ own b mL d) {B L : Nat} {xs : Nat → Int32} (hX : va_X B L xs (zs Γ) (zs Γ).heap) (hbl : B < (zs Γ).heap.size) (hbA : ¬ zA Γ B) (hL : L ≤ 3072) (hd : zD b pc .iaload 1 q) (hx : x = j) (hj : j < L) (kk : zVw Γ ws k n q ls (zi (xs j).toInt :: st)) : zVw Γ ws k n pc ls (zi x :: .ref B :: st) := by
  obtain ⟨hd, rfl⟩ := hd
  intro H locs arr hP hD hS hl'
  subst hx
  obtain ⟨h1, h2⟩ := z_in (i := (j : Int)) (N := L) (by omega) (by omega)
  refine va_sld h.1 h.2.1 hX hbl hbA hS h1 hd ?_
  rw [h2]
  have e : zi (xs j).toInt = .int (xs j) := congrArg Value.int (z32_all _)
  rw [e] at kk
  exact kk H locs arr hP hD hS hl'
theorem z_slen (h : zOk Γ own b mL d) {B L : Nat} {xs : Nat → Int32} (hX : va_X B L xs (zs Γ) (zs Γ).heap) (hbl : B < (zs Γ).heap.size) (hbA : ¬ zA Γ B) (hd : zD b pc .arraylength 1 q) (kk : zVw Γ ws k n q ls (zi L :: st)) : zVw Γ ws k n pc ls (.ref B :: st) := by
  obtain ⟨hd, rfl⟩ := hd
  intro H locs arr hP hD hS hl'
  refine va_slen h.1 h.2.1 hX hbl hbA hS hd ?_
  have hv : Int32.ofNat L = Int32.ofInt L := by rw [← Int32.ofInt_eq_ofNat]
  rw [hv]
  exact kk H locs arr hP hD hS hl'
end ZLW
/-- what the law's loop knows -/
def lC (Γ : zG) (B L : Nat) (xs : Nat → Int32) : Prop := zOk Γ RL cL_law 4 9 ∧ va_X B L xs (zs Γ) (zs Γ).heap ∧ B < (zs Γ).heap.size ∧ ¬ zA Γ B ∧ L ≤ 3072 ∧ (80 ≤ (zRm Γ).cells ∧ 2398 ≤ (zRm Γ).slots)
abbrev lL (Γ : zG) (B i : Nat) : List (Option Value) := [some (.ref B), some (zr (zw Γ) 0), some (zr (zw Γ) 57), some (zi i)]
theorem zcmp_eq (x : Int) : zcmp x x = 0 := by unfold zcmp; rw [if_neg (by omega), if_pos rfl]
set_option maxHeartbeats 4000000 in
theorem lw_c0 {Γ : zG} {B L : Nat} {xs : Nat → Int32} (C : lC Γ B L xs) (σ : zM) (S : zSt) (hc : cInv σ S) (hm : mInv σ S) (i : Nat) (hi : i + 6 ≤ L) (kk : ∀ σ' S', cInv σ' S' → mInv σ' S' → zVw Γ (zwl (zw Γ) σ') 80 2398 902 (lL Γ B i) []) : zVw Γ (zwl (zw Γ) σ) 80 2398 152 (lL Γ B i) [] := by
  obtain ⟨h, hX, hbl, hbA, hL, hk⟩ := C
  refine z_aload_n h dL_law_152 rfl ?_
  refine z_aload_n h dL_law_153 rfl ?_
  refine z_iload_n h dL_law_154 rfl ?_
  refine z_iconst h dL_law_155 ?_
  refine z_iadd h dL_law_156 ?_
  refine z_sld (i + 1) h hX hbl hbA hL dL_law_157 (by omega) (by omega) ?_
  refine z_aload_n h dL_law_158 rfl ?_
  refine z_iload_n h dL_law_159 rfl ?_
  refine z_iconst h dL_law_160 ?_
  refine z_iadd h dL_law_161 ?_
  refine z_sld (i + 2) h hX hbl hbA hL dL_law_162 (by omega) (by omega) ?_
  refine z_i2l h dL_law_163 (z32_rg _) ?_
  refine z_bipush h dL_law_164 (by decide) ?_
  refine z_lshl h dL_law_166 ?_
  refine z_aload_n h dL_law_167 rfl ?_
  refine z_iload_n h dL_law_168 rfl ?_
  refine z_iconst h dL_law_169 ?_
  refine z_iadd h dL_law_170 ?_
  refine z_sld (i + 3) h hX hbl hbA hL dL_law_171 (by omega) (by omega) ?_
  refine z_i2l h dL_law_172 (z32_rg _) ?_
  refine z_ldc2 (x := 4294967295) h dL_law_173 kL_13 (by decide) ?_
  refine z_land h dL_law_176 ?_
  refine z_lor h dL_law_177 ?_
  refine z_callV (As := [zi (xs (i + 1)).toInt, zl (zlor (zlshl (xs (i + 2)).toInt 32) (zland (xs (i + 3)).toInt 4294967295))]) (rest := []) h dL_law_178 lL_15 vX7_write rfl L0 (c_X7_write σ S hc (xs (i + 1)).toInt (zlor (zlshl (xs (i + 2)).toInt 32) (zland (xs (i + 3)).toInt 4294967295)) (z32_rg _)) rfl rfl rfl (Nat.le_of_ble_eq_true rfl) (by decide) hk (fun r σ1 g1 => ?_)
  obtain ⟨_, rfl, rfl, k1, c1, f1⟩ := g1
  have m1 := mInv_lo hm f1
  show zVw Γ _ 80 2398 181 (lL Γ B i) [zi _]
  refine z_aload_n h dL_law_181 rfl ?_
  refine z_aload_n h dL_law_182 rfl ?_
  refine z_iload_n h dL_law_183 rfl ?_
  refine z_iconst h dL_law_184 ?_
  refine z_iadd h dL_law_185 ?_
  refine z_sld (i + 1) h hX hbl hbA hL dL_law_186 (by omega) (by omega) ?_
  refine z_aload_n h dL_law_187 rfl ?_
  refine z_iload_n h dL_law_188 rfl ?_
  refine z_iconst h dL_law_189 ?_
  refine z_iadd h dL_law_190 ?_
  refine z_sld (i + 2) h hX hbl hbA hL dL_law_191 (by omega) (by omega) ?_
  refine z_i2l h dL_law_192 (z32_rg _) ?_
  refine z_bipush h dL_law_193 (by decide) ?_
  refine z_lshl h dL_law_195 ?_
  refine z_aload_n h dL_law_196 rfl ?_
  refine z_iload_n h dL_law_197 rfl ?_
  refine z_iconst h dL_law_198 ?_
  refine z_iadd h dL_law_199 ?_
  refine z_sld (i + 3) h hX hbl hbA hL dL_law_200 (by omega) (by omega) ?_
  refine z_i2l h dL_law_201 (z32_rg _) ?_
  refine z_ldc2 (x := 4294967295) h dL_law_202 kL_13 (by decide) ?_
  refine z_land h dL_law_205 ?_
  refine z_lor h dL_law_206 ?_
  refine z_callV (As := [zi (xs (i + 1)).toInt, zl (zlor (zlshl (xs (i + 2)).toInt 32) (zland (xs (i + 3)).toInt 4294967295))]) (rest := [_]) h dL_law_207 lL_19 vX8_write rfl L57 (c_X8_write σ1 S m1 (xs (i + 1)).toInt (zlor (zlshl (xs (i + 2)).toInt 32) (zland (xs (i + 3)).toInt 4294967295)) (z32_rg _)) rfl rfl rfl (Nat.le_of_ble_eq_true rfl) (by decide) hk (fun r σ2 g2 => ?_)
  obtain ⟨_, rfl, rfl, m2, f2⟩ := g2
  have c2 := cInv_hi c1 f2
  show zVw Γ _ 80 2398 210 (lL Γ B i) [zi _, zi _]
  exact z_icmp_eq h dL_law_210 k1 k1 (fun _ => kk σ2 _ c2 m2) (fun z => absurd rfl z)
set_option maxHeartbeats 4000000 in
theorem lw_c1 {Γ : zG} {B L : Nat} {xs : Nat → Int32} (C : lC Γ B L xs) (σ : zM) (S : zSt) (hc : cInv σ S) (hm : mInv σ S) (i : Nat) (hi : i + 6 ≤ L) (kk : ∀ σ' S', cInv σ' S' → mInv σ' S' → zVw Γ (zwl (zw Γ) σ') 80 2398 902 (lL Γ B i) []) : zVw Γ (zwl (zw Γ) σ) 80 2398 215 (lL Γ B i) [] := by
  obtain ⟨h, hX, hbl, hbA, hL, hk⟩ := C
  refine z_aload_n h dL_law_215 rfl ?_
  refine z_callV (As := []) (rest := []) h dL_law_216 lL_20 vX7_wipe rfl L0 (c_X7_wipe σ S hc  ) rfl rfl rfl (Nat.le_of_ble_eq_true rfl) (by decide) hk (fun r σ1 g1 => ?_)
  obtain ⟨_, rfl, rfl, k1, c1, f1⟩ := g1
  have m1 := mInv_lo hm f1
  show zVw Γ _ 80 2398 219 (lL Γ B i) [zi _]
  refine z_aload_n h dL_law_219 rfl ?_
  refine z_callV (As := []) (rest := [_]) h dL_law_220 lL_24 vX8_wipe rfl L57 (c_X8_wipe σ1 S m1  ) rfl rfl rfl (Nat.le_of_ble_eq_true rfl) (by decide) hk (fun r σ2 g2 => ?_)
  obtain ⟨_, rfl, rfl, m2, f2⟩ := g2
  have c2 := cInv_hi c1 f2
  show zVw Γ _ 80 2398 223 (lL Γ B i) [zi _, zi _]
  exact z_icmp_eq h dL_law_223 k1 k1 (fun _ => kk σ2 _ c2 m2) (fun z => absurd rfl z)
set_option maxHeartbeats 4000000 in
theorem lw_c2 {Γ : zG} {B L : Nat} {xs : Nat → Int32} (C : lC Γ B L xs) (σ : zM) (S : zSt) (hc : cInv σ S) (hm : mInv σ S) (i : Nat) (hi : i + 6 ≤ L) (kk : ∀ σ' S', cInv σ' S' → mInv σ' S' → zVw Γ (zwl (zw Γ) σ') 80 2398 902 (lL Γ B i) []) : zVw Γ (zwl (zw Γ) σ) 80 2398 228 (lL Γ B i) [] := by
  obtain ⟨h, hX, hbl, hbA, hL, hk⟩ := C
  refine z_aload_n h dL_law_228 rfl ?_
  refine z_callV (As := []) (rest := []) h dL_law_229 lL_25 vX7_fault rfl L0 (c_X7_fault σ S hc  ) rfl rfl rfl (Nat.le_of_ble_eq_true rfl) (by decide) hk (fun r σ1 g1 => ?_)
  obtain ⟨_, rfl, rfl, k1, c1, f1⟩ := g1
  have m1 := mInv_lo hm f1
  show zVw Γ _ 80 2398 232 (lL Γ B i) [zi _]
  refine z_aload_n h dL_law_232 rfl ?_
  refine z_callV (As := []) (rest := [_]) h dL_law_233 lL_28 vX8_fault rfl L57 (c_X8_fault σ1 S m1  ) rfl rfl rfl (Nat.le_of_ble_eq_true rfl) (by decide) hk (fun r σ2 g2 => ?_)
  obtain ⟨_, rfl, rfl, m2, f2⟩ := g2
  have c2 := cInv_hi c1 f2
  show zVw Γ _ 80 2398 236 (lL Γ B i) [zi _, zi _]
  exact z_icmp_eq h dL_law_236 k1 k1 (fun _ => kk σ2 _ c2 m2) (fun z => absurd rfl z)
set_option maxHeartbeats 4000000 in
theorem lw_c3 {Γ : zG} {B L : Nat} {xs : Nat → Int32} (C : lC Γ B L xs) (σ : zM) (S : zSt) (hc : cInv σ S) (hm : mInv σ S) (i : Nat) (hi : i + 6 ≤ L) (kk : ∀ σ' S', cInv σ' S' → mInv σ' S' → zVw Γ (zwl (zw Γ) σ') 80 2398 902 (lL Γ B i) []) : zVw Γ (zwl (zw Γ) σ) 80 2398 241 (lL Γ B i) [] := by
  obtain ⟨h, hX, hbl, hbA, hL, hk⟩ := C
  refine z_aload_n h dL_law_241 rfl ?_
  refine z_callV (As := []) (rest := []) h dL_law_242 lL_29 vX7_lay rfl L0 (c_X7_lay σ S hc  ) rfl rfl rfl (Nat.le_of_ble_eq_true rfl) (by decide) hk (fun r σ1 g1 => ?_)
  obtain ⟨_, rfl, rfl, k1, c1, f1⟩ := g1
  have m1 := mInv_lo hm f1
  show zVw Γ _ 80 2398 245 (lL Γ B i) [zi _]
  refine z_aload_n h dL_law_245 rfl ?_
  refine z_callV (As := []) (rest := [_]) h dL_law_246 lL_32 vX8_lay rfl L57 (c_X8_lay σ1 S m1  ) rfl rfl rfl (Nat.le_of_ble_eq_true rfl) (by decide) hk (fun r σ2 g2 => ?_)
  obtain ⟨_, rfl, rfl, m2, f2⟩ := g2
  have c2 := cInv_hi c1 f2
  show zVw Γ _ 80 2398 249 (lL Γ B i) [zi _, zi _]
  exact z_icmp_eq h dL_law_249 k1 k1 (fun _ => kk σ2 _ c2 m2) (fun z => absurd rfl z)
set_option maxHeartbeats 4000000 in
theorem lw_c4 {Γ : zG} {B L : Nat} {xs : Nat → Int32} (C : lC Γ B L xs) (σ : zM) (S : zSt) (hc : cInv σ S) (hm : mInv σ S) (i : Nat) (hi : i + 6 ≤ L) (kk : ∀ σ' S', cInv σ' S' → mInv σ' S' → zVw Γ (zwl (zw Γ) σ') 80 2398 902 (lL Γ B i) []) : zVw Γ (zwl (zw Γ) σ) 80 2398 254 (lL Γ B i) [] := by
  obtain ⟨h, hX, hbl, hbA, hL, hk⟩ := C
  refine z_aload_n h dL_law_254 rfl ?_
  refine z_aload_n h dL_law_255 rfl ?_
  refine z_iload_n h dL_law_256 rfl ?_
  refine z_iconst h dL_law_257 ?_
  refine z_iadd h dL_law_258 ?_
  refine z_sld (i + 1) h hX hbl hbA hL dL_law_259 (by omega) (by omega) ?_
  refine z_aload_n h dL_law_260 rfl ?_
  refine z_iload_n h dL_law_261 rfl ?_
  refine z_iconst h dL_law_262 ?_
  refine z_iadd h dL_law_263 ?_
  refine z_sld (i + 2) h hX hbl hbA hL dL_law_264 (by omega) (by omega) ?_
  refine z_callV (As := [zi (xs (i + 1)).toInt, zi (xs (i + 2)).toInt]) (rest := []) h dL_law_265 lL_33 vX7_person rfl L0 (c_X7_person σ S hc (xs (i + 1)).toInt (xs (i + 2)).toInt (z32_rg _) (z32_rg _)) rfl rfl rfl (Nat.le_of_ble_eq_true rfl) (by decide) hk (fun r σ1 g1 => ?_)
  obtain ⟨_, rfl, rfl, k1, c1, f1⟩ := g1
  have m1 := mInv_lo hm f1
  show zVw Γ _ 80 2398 268 (lL Γ B i) [zi _]
  refine z_aload_n h dL_law_268 rfl ?_
  refine z_aload_n h dL_law_269 rfl ?_
  refine z_iload_n h dL_law_270 rfl ?_
  refine z_iconst h dL_law_271 ?_
  refine z_iadd h dL_law_272 ?_
  refine z_sld (i + 1) h hX hbl hbA hL dL_law_273 (by omega) (by omega) ?_
  refine z_aload_n h dL_law_274 rfl ?_
  refine z_iload_n h dL_law_275 rfl ?_
  refine z_iconst h dL_law_276 ?_
  refine z_iadd h dL_law_277 ?_
  refine z_sld (i + 2) h hX hbl hbA hL dL_law_278 (by omega) (by omega) ?_
  refine z_callV (As := [zi (xs (i + 1)).toInt, zi (xs (i + 2)).toInt]) (rest := [_]) h dL_law_279 lL_37 vX8_person rfl L57 (c_X8_person σ1 S m1 (xs (i + 1)).toInt (xs (i + 2)).toInt (z32_rg _) (z32_rg _)) rfl rfl rfl (Nat.le_of_ble_eq_true rfl) (by decide) hk (fun r σ2 g2 => ?_)
  obtain ⟨_, rfl, rfl, m2, f2⟩ := g2
  have c2 := cInv_hi c1 f2
  show zVw Γ _ 80 2398 282 (lL Γ B i) [zi _, zi _]
  exact z_icmp_eq h dL_law_282 k1 k1 (fun _ => kk σ2 _ c2 m2) (fun z => absurd rfl z)
set_option maxHeartbeats 4000000 in
theorem lw_c5 {Γ : zG} {B L : Nat} {xs : Nat → Int32} (C : lC Γ B L xs) (σ : zM) (S : zSt) (hc : cInv σ S) (hm : mInv σ S) (i : Nat) (hi : i + 6 ≤ L) (kk : ∀ σ' S', cInv σ' S' → mInv σ' S' → zVw Γ (zwl (zw Γ) σ') 80 2398 902 (lL Γ B i) []) : zVw Γ (zwl (zw Γ) σ) 80 2398 287 (lL Γ B i) [] := by
  obtain ⟨h, hX, hbl, hbA, hL, hk⟩ := C
  refine z_aload_n h dL_law_287 rfl ?_
  refine z_aload_n h dL_law_288 rfl ?_
  refine z_iload_n h dL_law_289 rfl ?_
  refine z_iconst h dL_law_290 ?_
  refine z_iadd h dL_law_291 ?_
  refine z_sld (i + 1) h hX hbl hbA hL dL_law_292 (by omega) (by omega) ?_
  refine z_aload_n h dL_law_293 rfl ?_
  refine z_iload_n h dL_law_294 rfl ?_
  refine z_iconst h dL_law_295 ?_
  refine z_iadd h dL_law_296 ?_
  refine z_sld (i + 2) h hX hbl hbA hL dL_law_297 (by omega) (by omega) ?_
  refine z_callV (As := [zi (xs (i + 1)).toInt, zi (xs (i + 2)).toInt]) (rest := []) h dL_law_298 lL_38 vX7_place rfl L0 (c_X7_place σ S hc (xs (i + 1)).toInt (xs (i + 2)).toInt (z32_rg _) (z32_rg _)) rfl rfl rfl (Nat.le_of_ble_eq_true rfl) (by decide) hk (fun r σ1 g1 => ?_)
  obtain ⟨_, rfl, rfl, k1, c1, f1⟩ := g1
  have m1 := mInv_lo hm f1
  show zVw Γ _ 80 2398 301 (lL Γ B i) [zi _]
  refine z_aload_n h dL_law_301 rfl ?_
  refine z_aload_n h dL_law_302 rfl ?_
  refine z_iload_n h dL_law_303 rfl ?_
  refine z_iconst h dL_law_304 ?_
  refine z_iadd h dL_law_305 ?_
  refine z_sld (i + 1) h hX hbl hbA hL dL_law_306 (by omega) (by omega) ?_
  refine z_aload_n h dL_law_307 rfl ?_
  refine z_iload_n h dL_law_308 rfl ?_
  refine z_iconst h dL_law_309 ?_
  refine z_iadd h dL_law_310 ?_
  refine z_sld (i + 2) h hX hbl hbA hL dL_law_311 (by omega) (by omega) ?_
  refine z_callV (As := [zi (xs (i + 1)).toInt, zi (xs (i + 2)).toInt]) (rest := [_]) h dL_law_312 lL_41 vX8_place rfl L57 (c_X8_place σ1 S m1 (xs (i + 1)).toInt (xs (i + 2)).toInt (z32_rg _) (z32_rg _)) rfl rfl rfl (Nat.le_of_ble_eq_true rfl) (by decide) hk (fun r σ2 g2 => ?_)
  obtain ⟨_, rfl, rfl, m2, f2⟩ := g2
  have c2 := cInv_hi c1 f2
  show zVw Γ _ 80 2398 315 (lL Γ B i) [zi _, zi _]
  exact z_icmp_eq h dL_law_315 k1 k1 (fun _ => kk σ2 _ c2 m2) (fun z => absurd rfl z)
set_option maxHeartbeats 4000000 in
theorem lw_c6 {Γ : zG} {B L : Nat} {xs : Nat → Int32} (C : lC Γ B L xs) (σ : zM) (S : zSt) (hc : cInv σ S) (hm : mInv σ S) (i : Nat) (hi : i + 6 ≤ L) (kk : ∀ σ' S', cInv σ' S' → mInv σ' S' → zVw Γ (zwl (zw Γ) σ') 80 2398 902 (lL Γ B i) []) : zVw Γ (zwl (zw Γ) σ) 80 2398 320 (lL Γ B i) [] := by
  obtain ⟨h, hX, hbl, hbA, hL, hk⟩ := C
  refine z_aload_n h dL_law_320 rfl ?_
  refine z_aload_n h dL_law_321 rfl ?_
  refine z_iload_n h dL_law_322 rfl ?_
  refine z_iconst h dL_law_323 ?_
  refine z_iadd h dL_law_324 ?_
  refine z_sld (i + 1) h hX hbl hbA hL dL_law_325 (by omega) (by omega) ?_
  refine z_callV (As := [zi (xs (i + 1)).toInt]) (rest := []) h dL_law_326 lL_42 vX7_row rfl L0 (c_X7_row σ S hc (xs (i + 1)).toInt (z32_rg _)) rfl rfl rfl (Nat.le_of_ble_eq_true rfl) (by decide) hk (fun r σ1 g1 => ?_)
  obtain ⟨_, rfl, rfl, k1, c1, f1⟩ := g1
  have m1 := mInv_lo hm f1
  show zVw Γ _ 80 2398 329 (lL Γ B i) [zi _]
  refine z_aload_n h dL_law_329 rfl ?_
  refine z_aload_n h dL_law_330 rfl ?_
  refine z_iload_n h dL_law_331 rfl ?_
  refine z_iconst h dL_law_332 ?_
  refine z_iadd h dL_law_333 ?_
  refine z_sld (i + 1) h hX hbl hbA hL dL_law_334 (by omega) (by omega) ?_
  refine z_callV (As := [zi (xs (i + 1)).toInt]) (rest := [_]) h dL_law_335 lL_46 vX8_row rfl L57 (c_X8_row σ1 S m1 (xs (i + 1)).toInt (z32_rg _)) rfl rfl rfl (Nat.le_of_ble_eq_true rfl) (by decide) hk (fun r σ2 g2 => ?_)
  obtain ⟨_, rfl, rfl, m2, f2⟩ := g2
  have c2 := cInv_hi c1 f2
  show zVw Γ _ 80 2398 338 (lL Γ B i) [zi _, zi _]
  exact z_icmp_eq h dL_law_338 k1 k1 (fun _ => kk σ2 _ c2 m2) (fun z => absurd rfl z)
set_option maxHeartbeats 4000000 in
theorem lw_c7 {Γ : zG} {B L : Nat} {xs : Nat → Int32} (C : lC Γ B L xs) (σ : zM) (S : zSt) (hc : cInv σ S) (hm : mInv σ S) (i : Nat) (hi : i + 6 ≤ L) (kk : ∀ σ' S', cInv σ' S' → mInv σ' S' → zVw Γ (zwl (zw Γ) σ') 80 2398 902 (lL Γ B i) []) : zVw Γ (zwl (zw Γ) σ) 80 2398 343 (lL Γ B i) [] := by
  obtain ⟨h, hX, hbl, hbA, hL, hk⟩ := C
  refine z_aload_n h dL_law_343 rfl ?_
  refine z_aload_n h dL_law_344 rfl ?_
  refine z_iload_n h dL_law_345 rfl ?_
  refine z_iconst h dL_law_346 ?_
  refine z_iadd h dL_law_347 ?_
  refine z_sld (i + 1) h hX hbl hbA hL dL_law_348 (by omega) (by omega) ?_
  refine z_callV (As := [zi (xs (i + 1)).toInt]) (rest := []) h dL_law_349 lL_47 vX7_all rfl L0 (c_X7_all σ S hc (xs (i + 1)).toInt (z32_rg _)) rfl rfl rfl (Nat.le_of_ble_eq_true rfl) (by decide) hk (fun r σ1 g1 => ?_)
  obtain ⟨_, rfl, rfl, k1, c1, f1⟩ := g1
  have m1 := mInv_lo hm f1
  show zVw Γ _ 80 2398 352 (lL Γ B i) [zi _]
  refine z_aload_n h dL_law_352 rfl ?_
  refine z_aload_n h dL_law_353 rfl ?_
  refine z_iload_n h dL_law_354 rfl ?_
  refine z_iconst h dL_law_355 ?_
  refine z_iadd h dL_law_356 ?_
  refine z_sld (i + 1) h hX hbl hbA hL dL_law_357 (by omega) (by omega) ?_
  refine z_callV (As := [zi (xs (i + 1)).toInt]) (rest := [_]) h dL_law_358 lL_50 vX8_all rfl L57 (c_X8_all σ1 S m1 (xs (i + 1)).toInt (z32_rg _)) rfl rfl rfl (Nat.le_of_ble_eq_true rfl) (by decide) hk (fun r σ2 g2 => ?_)
  obtain ⟨_, rfl, rfl, m2, f2⟩ := g2
  have c2 := cInv_hi c1 f2
  show zVw Γ _ 80 2398 361 (lL Γ B i) [zi _, zi _]
  exact z_icmp_eq h dL_law_361 k1 k1 (fun _ => kk σ2 _ c2 m2) (fun z => absurd rfl z)
set_option maxHeartbeats 4000000 in
theorem lw_c8 {Γ : zG} {B L : Nat} {xs : Nat → Int32} (C : lC Γ B L xs) (σ : zM) (S : zSt) (hc : cInv σ S) (hm : mInv σ S) (i : Nat) (hi : i + 6 ≤ L) (kk : ∀ σ' S', cInv σ' S' → mInv σ' S' → zVw Γ (zwl (zw Γ) σ') 80 2398 902 (lL Γ B i) []) : zVw Γ (zwl (zw Γ) σ) 80 2398 366 (lL Γ B i) [] := by
  obtain ⟨h, hX, hbl, hbA, hL, hk⟩ := C
  refine z_aload_n h dL_law_366 rfl ?_
  refine z_aload_n h dL_law_367 rfl ?_
  refine z_iload_n h dL_law_368 rfl ?_
  refine z_iconst h dL_law_369 ?_
  refine z_iadd h dL_law_370 ?_
  refine z_sld (i + 1) h hX hbl hbA hL dL_law_371 (by omega) (by omega) ?_
  refine z_aload_n h dL_law_372 rfl ?_
  refine z_iload_n h dL_law_373 rfl ?_
  refine z_iconst h dL_law_374 ?_
  refine z_iadd h dL_law_375 ?_
  refine z_sld (i + 2) h hX hbl hbA hL dL_law_376 (by omega) (by omega) ?_
  refine z_callV (As := [zi (xs (i + 1)).toInt, zi (xs (i + 2)).toInt]) (rest := []) h dL_law_377 lL_51 vX7_cry rfl L0 (c_X7_cry σ S hc (xs (i + 1)).toInt (xs (i + 2)).toInt (z32_rg _) (z32_rg _)) rfl rfl rfl (Nat.le_of_ble_eq_true rfl) (by decide) hk (fun r σ1 g1 => ?_)
  obtain ⟨_, rfl, rfl, k1, c1, f1⟩ := g1
  have m1 := mInv_lo hm f1
  show zVw Γ _ 80 2398 380 (lL Γ B i) [zi _]
  refine z_aload_n h dL_law_380 rfl ?_
  refine z_aload_n h dL_law_381 rfl ?_
  refine z_iload_n h dL_law_382 rfl ?_
  refine z_iconst h dL_law_383 ?_
  refine z_iadd h dL_law_384 ?_
  refine z_sld (i + 1) h hX hbl hbA hL dL_law_385 (by omega) (by omega) ?_
  refine z_aload_n h dL_law_386 rfl ?_
  refine z_iload_n h dL_law_387 rfl ?_
  refine z_iconst h dL_law_388 ?_
  refine z_iadd h dL_law_389 ?_
  refine z_sld (i + 2) h hX hbl hbA hL dL_law_390 (by omega) (by omega) ?_
  refine z_callV (As := [zi (xs (i + 1)).toInt, zi (xs (i + 2)).toInt]) (rest := [_]) h dL_law_391 lL_54 vX8_cry rfl L57 (c_X8_cry σ1 S m1 (xs (i + 1)).toInt (xs (i + 2)).toInt (z32_rg _) (z32_rg _)) rfl rfl rfl (Nat.le_of_ble_eq_true rfl) (by decide) hk (fun r σ2 g2 => ?_)
  obtain ⟨_, rfl, rfl, m2, f2⟩ := g2
  have c2 := cInv_hi c1 f2
  show zVw Γ _ 80 2398 394 (lL Γ B i) [zi _, zi _]
  exact z_icmp_eq h dL_law_394 k1 k1 (fun _ => kk σ2 _ c2 m2) (fun z => absurd rfl z)
set_option maxHeartbeats 4000000 in
theorem lw_c9 {Γ : zG} {B L : Nat} {xs : Nat → Int32} (C : lC Γ B L xs) (σ : zM) (S : zSt) (hc : cInv σ S) (hm : mInv σ S) (i : Nat) (hi : i + 6 ≤ L) (kk : ∀ σ' S', cInv σ' S' → mInv σ' S' → zVw Γ (zwl (zw Γ) σ') 80 2398 902 (lL Γ B i) []) : zVw Γ (zwl (zw Γ) σ) 80 2398 399 (lL Γ B i) [] := by
  obtain ⟨h, hX, hbl, hbA, hL, hk⟩ := C
  refine z_aload_n h dL_law_399 rfl ?_
  refine z_callV (As := []) (rest := []) h dL_law_400 lL_55 vX7_suspect rfl L0 (c_X7_suspect σ S hc  ) rfl rfl rfl (Nat.le_of_ble_eq_true rfl) (by decide) hk (fun r σ1 g1 => ?_)
  obtain ⟨_, rfl, rfl, k1, c1, f1⟩ := g1
  have m1 := mInv_lo hm f1
  show zVw Γ _ 80 2398 403 (lL Γ B i) [zi _]
  refine z_aload_n h dL_law_403 rfl ?_
  refine z_callV (As := []) (rest := [_]) h dL_law_404 lL_58 vX8_suspect rfl L57 (c_X8_suspect σ1 S m1  ) rfl rfl rfl (Nat.le_of_ble_eq_true rfl) (by decide) hk (fun r σ2 g2 => ?_)
  obtain ⟨_, rfl, rfl, m2, f2⟩ := g2
  have c2 := cInv_hi c1 f2
  show zVw Γ _ 80 2398 407 (lL Γ B i) [zi _, zi _]
  exact z_icmp_eq h dL_law_407 k1 k1 (fun _ => kk σ2 _ c2 m2) (fun z => absurd rfl z)
set_option maxHeartbeats 4000000 in
theorem lw_c10 {Γ : zG} {B L : Nat} {xs : Nat → Int32} (C : lC Γ B L xs) (σ : zM) (S : zSt) (hc : cInv σ S) (hm : mInv σ S) (i : Nat) (hi : i + 6 ≤ L) (kk : ∀ σ' S', cInv σ' S' → mInv σ' S' → zVw Γ (zwl (zw Γ) σ') 80 2398 902 (lL Γ B i) []) : zVw Γ (zwl (zw Γ) σ) 80 2398 412 (lL Γ B i) [] := by
  obtain ⟨h, hX, hbl, hbA, hL, hk⟩ := C
  refine z_aload_n h dL_law_412 rfl ?_
  refine z_aload_n h dL_law_413 rfl ?_
  refine z_iload_n h dL_law_414 rfl ?_
  refine z_iconst h dL_law_415 ?_
  refine z_iadd h dL_law_416 ?_
  refine z_sld (i + 1) h hX hbl hbA hL dL_law_417 (by omega) (by omega) ?_
  refine z_aload_n h dL_law_418 rfl ?_
  refine z_iload_n h dL_law_419 rfl ?_
  refine z_iconst h dL_law_420 ?_
  refine z_iadd h dL_law_421 ?_
  refine z_sld (i + 2) h hX hbl hbA hL dL_law_422 (by omega) (by omega) ?_
  refine z_callV (As := [zi (xs (i + 1)).toInt, zi (xs (i + 2)).toInt]) (rest := []) h dL_law_423 lL_59 vX7_tell rfl L0 (c_X7_tell σ S hc (xs (i + 1)).toInt (xs (i + 2)).toInt (z32_rg _) (z32_rg _)) rfl rfl rfl (Nat.le_of_ble_eq_true rfl) (by decide) hk (fun r σ1 g1 => ?_)
  obtain ⟨_, rfl, rfl, k1, c1, f1⟩ := g1
  have m1 := mInv_lo hm f1
  show zVw Γ _ 80 2398 426 (lL Γ B i) [zi _]
  refine z_aload_n h dL_law_426 rfl ?_
  refine z_aload_n h dL_law_427 rfl ?_
  refine z_iload_n h dL_law_428 rfl ?_
  refine z_iconst h dL_law_429 ?_
  refine z_iadd h dL_law_430 ?_
  refine z_sld (i + 1) h hX hbl hbA hL dL_law_431 (by omega) (by omega) ?_
  refine z_aload_n h dL_law_432 rfl ?_
  refine z_iload_n h dL_law_433 rfl ?_
  refine z_iconst h dL_law_434 ?_
  refine z_iadd h dL_law_435 ?_
  refine z_sld (i + 2) h hX hbl hbA hL dL_law_436 (by omega) (by omega) ?_
  refine z_callV (As := [zi (xs (i + 1)).toInt, zi (xs (i + 2)).toInt]) (rest := [_]) h dL_law_437 lL_62 vX8_tell rfl L57 (c_X8_tell σ1 S m1 (xs (i + 1)).toInt (xs (i + 2)).toInt (z32_rg _) (z32_rg _)) rfl rfl rfl (Nat.le_of_ble_eq_true rfl) (by decide) hk (fun r σ2 g2 => ?_)
  obtain ⟨_, rfl, rfl, m2, f2⟩ := g2
  have c2 := cInv_hi c1 f2
  show zVw Γ _ 80 2398 440 (lL Γ B i) [zi _, zi _]
  exact z_icmp_eq h dL_law_440 k1 k1 (fun _ => kk σ2 _ c2 m2) (fun z => absurd rfl z)
set_option maxHeartbeats 4000000 in
theorem lw_c11 {Γ : zG} {B L : Nat} {xs : Nat → Int32} (C : lC Γ B L xs) (σ : zM) (S : zSt) (hc : cInv σ S) (hm : mInv σ S) (i : Nat) (hi : i + 6 ≤ L) (kk : ∀ σ' S', cInv σ' S' → mInv σ' S' → zVw Γ (zwl (zw Γ) σ') 80 2398 902 (lL Γ B i) []) : zVw Γ (zwl (zw Γ) σ) 80 2398 445 (lL Γ B i) [] := by
  obtain ⟨h, hX, hbl, hbA, hL, hk⟩ := C
  refine z_aload_n h dL_law_445 rfl ?_
  refine z_callV (As := []) (rest := []) h dL_law_446 lL_63 vX7_takeBack rfl L0 (c_X7_takeBack σ S hc  ) rfl rfl rfl (Nat.le_of_ble_eq_true rfl) (by decide) hk (fun r σ1 g1 => ?_)
  obtain ⟨_, rfl, rfl, k1, c1, f1⟩ := g1
  have m1 := mInv_lo hm f1
  show zVw Γ _ 80 2398 449 (lL Γ B i) [zi _]
  refine z_aload_n h dL_law_449 rfl ?_
  refine z_callV (As := []) (rest := [_]) h dL_law_450 lL_66 vX8_takeBack rfl L57 (c_X8_takeBack σ1 S m1  ) rfl rfl rfl (Nat.le_of_ble_eq_true rfl) (by decide) hk (fun r σ2 g2 => ?_)
  obtain ⟨_, rfl, rfl, m2, f2⟩ := g2
  have c2 := cInv_hi c1 f2
  show zVw Γ _ 80 2398 453 (lL Γ B i) [zi _, zi _]
  exact z_icmp_eq h dL_law_453 k1 k1 (fun _ => kk σ2 _ c2 m2) (fun z => absurd rfl z)
set_option maxHeartbeats 4000000 in
theorem lw_c12 {Γ : zG} {B L : Nat} {xs : Nat → Int32} (C : lC Γ B L xs) (σ : zM) (S : zSt) (hc : cInv σ S) (hm : mInv σ S) (i : Nat) (hi : i + 6 ≤ L) (kk : ∀ σ' S', cInv σ' S' → mInv σ' S' → zVw Γ (zwl (zw Γ) σ') 80 2398 902 (lL Γ B i) []) : zVw Γ (zwl (zw Γ) σ) 80 2398 458 (lL Γ B i) [] := by
  obtain ⟨h, hX, hbl, hbA, hL, hk⟩ := C
  refine z_aload_n h dL_law_458 rfl ?_
  refine z_aload_n h dL_law_459 rfl ?_
  refine z_iload_n h dL_law_460 rfl ?_
  refine z_iconst h dL_law_461 ?_
  refine z_iadd h dL_law_462 ?_
  refine z_sld (i + 1) h hX hbl hbA hL dL_law_463 (by omega) (by omega) ?_
  refine z_aload_n h dL_law_464 rfl ?_
  refine z_iload_n h dL_law_465 rfl ?_
  refine z_iconst h dL_law_466 ?_
  refine z_iadd h dL_law_467 ?_
  refine z_sld (i + 2) h hX hbl hbA hL dL_law_468 (by omega) (by omega) ?_
  refine z_callV (As := [zi (xs (i + 1)).toInt, zi (xs (i + 2)).toInt]) (rest := []) h dL_law_469 lL_67 vX7_hush rfl L0 (c_X7_hush σ S hc (xs (i + 1)).toInt (xs (i + 2)).toInt (z32_rg _) (z32_rg _)) rfl rfl rfl (Nat.le_of_ble_eq_true rfl) (by decide) hk (fun r σ1 g1 => ?_)
  obtain ⟨v1, rfl, e1, k1, c1, f1⟩ := g1
  have m1 := mInv_lo hm f1
  show zVw Γ _ 80 2398 472 (lL Γ B i) [zi _]
  refine z_aload_n h dL_law_472 rfl ?_
  refine z_aload_n h dL_law_473 rfl ?_
  refine z_iload_n h dL_law_474 rfl ?_
  refine z_iconst h dL_law_475 ?_
  refine z_iadd h dL_law_476 ?_
  refine z_sld (i + 1) h hX hbl hbA hL dL_law_477 (by omega) (by omega) ?_
  refine z_aload_n h dL_law_478 rfl ?_
  refine z_iload_n h dL_law_479 rfl ?_
  refine z_iconst h dL_law_480 ?_
  refine z_iadd h dL_law_481 ?_
  refine z_sld (i + 2) h hX hbl hbA hL dL_law_482 (by omega) (by omega) ?_
  refine z_callV (As := [zi (xs (i + 1)).toInt, zi (xs (i + 2)).toInt]) (rest := [_]) h dL_law_483 lL_70 vX8_hush rfl L57 (c_X8_hush σ1 S m1 (xs (i + 1)).toInt (xs (i + 2)).toInt (z32_rg _) (z32_rg _)) rfl rfl rfl (Nat.le_of_ble_eq_true rfl) (by decide) hk (fun r σ2 g2 => ?_)
  obtain ⟨v2, rfl, e2, m2, f2⟩ := g2
  have e3 := aHush_one e1 e2
  subst e3
  have c2 := cInv_hi c1 f2
  show zVw Γ _ 80 2398 486 (lL Γ B i) [zi _, zi _]
  exact z_icmp_eq h dL_law_486 k1 k1 (fun _ => kk σ2 _ c2 m2) (fun z => absurd rfl z)
set_option maxHeartbeats 4000000 in
theorem lw_c13 {Γ : zG} {B L : Nat} {xs : Nat → Int32} (C : lC Γ B L xs) (σ : zM) (S : zSt) (hc : cInv σ S) (hm : mInv σ S) (i : Nat) (hi : i + 6 ≤ L) (kk : ∀ σ' S', cInv σ' S' → mInv σ' S' → zVw Γ (zwl (zw Γ) σ') 80 2398 902 (lL Γ B i) []) : zVw Γ (zwl (zw Γ) σ) 80 2398 491 (lL Γ B i) [] := by
  obtain ⟨h, hX, hbl, hbA, hL, hk⟩ := C
  refine z_aload_n h dL_law_491 rfl ?_
  refine z_aload_n h dL_law_492 rfl ?_
  refine z_iload_n h dL_law_493 rfl ?_
  refine z_iconst h dL_law_494 ?_
  refine z_iadd h dL_law_495 ?_
  refine z_sld (i + 1) h hX hbl hbA hL dL_law_496 (by omega) (by omega) ?_
  refine z_aload_n h dL_law_497 rfl ?_
  refine z_iload_n h dL_law_498 rfl ?_
  refine z_iconst h dL_law_499 ?_
  refine z_iadd h dL_law_500 ?_
  refine z_sld (i + 2) h hX hbl hbA hL dL_law_501 (by omega) (by omega) ?_
  refine z_callV (As := [zi (xs (i + 1)).toInt, zi (xs (i + 2)).toInt]) (rest := []) h dL_law_502 lL_71 vX7_again rfl L0 (c_X7_again σ S hc (xs (i + 1)).toInt (xs (i + 2)).toInt (z32_rg _) (z32_rg _)) rfl rfl rfl (Nat.le_of_ble_eq_true rfl) (by decide) hk (fun r σ1 g1 => ?_)
  obtain ⟨_, rfl, rfl, k1, c1, f1⟩ := g1
  have m1 := mInv_lo hm f1
  show zVw Γ _ 80 2398 505 (lL Γ B i) [zi _]
  refine z_aload_n h dL_law_505 rfl ?_
  refine z_aload_n h dL_law_506 rfl ?_
  refine z_iload_n h dL_law_507 rfl ?_
  refine z_iconst h dL_law_508 ?_
  refine z_iadd h dL_law_509 ?_
  refine z_sld (i + 1) h hX hbl hbA hL dL_law_510 (by omega) (by omega) ?_
  refine z_aload_n h dL_law_511 rfl ?_
  refine z_iload_n h dL_law_512 rfl ?_
  refine z_iconst h dL_law_513 ?_
  refine z_iadd h dL_law_514 ?_
  refine z_sld (i + 2) h hX hbl hbA hL dL_law_515 (by omega) (by omega) ?_
  refine z_callV (As := [zi (xs (i + 1)).toInt, zi (xs (i + 2)).toInt]) (rest := [_]) h dL_law_516 lL_74 vX8_again rfl L57 (c_X8_again σ1 S m1 (xs (i + 1)).toInt (xs (i + 2)).toInt (z32_rg _) (z32_rg _)) rfl rfl rfl (Nat.le_of_ble_eq_true rfl) (by decide) hk (fun r σ2 g2 => ?_)
  obtain ⟨_, rfl, rfl, m2, f2⟩ := g2
  have c2 := cInv_hi c1 f2
  show zVw Γ _ 80 2398 519 (lL Γ B i) [zi _, zi _]
  exact z_icmp_eq h dL_law_519 k1 k1 (fun _ => kk σ2 _ c2 m2) (fun z => absurd rfl z)
set_option maxHeartbeats 4000000 in
theorem lw_c14 {Γ : zG} {B L : Nat} {xs : Nat → Int32} (C : lC Γ B L xs) (σ : zM) (S : zSt) (hc : cInv σ S) (hm : mInv σ S) (i : Nat) (hi : i + 6 ≤ L) (kk : ∀ σ' S', cInv σ' S' → mInv σ' S' → zVw Γ (zwl (zw Γ) σ') 80 2398 902 (lL Γ B i) []) : zVw Γ (zwl (zw Γ) σ) 80 2398 524 (lL Γ B i) [] := by
  obtain ⟨h, hX, hbl, hbA, hL, hk⟩ := C
  refine z_aload_n h dL_law_524 rfl ?_
  refine z_aload_n h dL_law_525 rfl ?_
  refine z_iload_n h dL_law_526 rfl ?_
  refine z_iconst h dL_law_527 ?_
  refine z_iadd h dL_law_528 ?_
  refine z_sld (i + 1) h hX hbl hbA hL dL_law_529 (by omega) (by omega) ?_
  refine z_aload_n h dL_law_530 rfl ?_
  refine z_iload_n h dL_law_531 rfl ?_
  refine z_iconst h dL_law_532 ?_
  refine z_iadd h dL_law_533 ?_
  refine z_sld (i + 2) h hX hbl hbA hL dL_law_534 (by omega) (by omega) ?_
  refine z_aload_n h dL_law_535 rfl ?_
  refine z_iload_n h dL_law_536 rfl ?_
  refine z_iconst h dL_law_537 ?_
  refine z_iadd h dL_law_538 ?_
  refine z_sld (i + 3) h hX hbl hbA hL dL_law_539 (by omega) (by omega) ?_
  refine z_callV (As := [zi (xs (i + 1)).toInt, zi (xs (i + 2)).toInt, zi (xs (i + 3)).toInt]) (rest := []) h dL_law_540 lL_75 vX7_game rfl L0 (c_X7_game σ S hc (xs (i + 1)).toInt (xs (i + 2)).toInt (xs (i + 3)).toInt (z32_rg _) (z32_rg _) (z32_rg _)) rfl rfl rfl (Nat.le_of_ble_eq_true rfl) (by decide) hk (fun r σ1 g1 => ?_)
  obtain ⟨_, rfl, rfl, k1, c1, f1⟩ := g1
  have m1 := mInv_lo hm f1
  show zVw Γ _ 80 2398 543 (lL Γ B i) [zi _]
  refine z_aload_n h dL_law_543 rfl ?_
  refine z_aload_n h dL_law_544 rfl ?_
  refine z_iload_n h dL_law_545 rfl ?_
  refine z_iconst h dL_law_546 ?_
  refine z_iadd h dL_law_547 ?_
  refine z_sld (i + 1) h hX hbl hbA hL dL_law_548 (by omega) (by omega) ?_
  refine z_aload_n h dL_law_549 rfl ?_
  refine z_iload_n h dL_law_550 rfl ?_
  refine z_iconst h dL_law_551 ?_
  refine z_iadd h dL_law_552 ?_
  refine z_sld (i + 2) h hX hbl hbA hL dL_law_553 (by omega) (by omega) ?_
  refine z_aload_n h dL_law_554 rfl ?_
  refine z_iload_n h dL_law_555 rfl ?_
  refine z_iconst h dL_law_556 ?_
  refine z_iadd h dL_law_557 ?_
  refine z_sld (i + 3) h hX hbl hbA hL dL_law_558 (by omega) (by omega) ?_
  refine z_callV (As := [zi (xs (i + 1)).toInt, zi (xs (i + 2)).toInt, zi (xs (i + 3)).toInt]) (rest := [_]) h dL_law_559 lL_79 vX8_game rfl L57 (c_X8_game σ1 S m1 (xs (i + 1)).toInt (xs (i + 2)).toInt (xs (i + 3)).toInt (z32_rg _) (z32_rg _) (z32_rg _)) rfl rfl rfl (Nat.le_of_ble_eq_true rfl) (by decide) hk (fun r σ2 g2 => ?_)
  obtain ⟨_, rfl, rfl, m2, f2⟩ := g2
  have c2 := cInv_hi c1 f2
  show zVw Γ _ 80 2398 562 (lL Γ B i) [zi _, zi _]
  exact z_icmp_eq h dL_law_562 k1 k1 (fun _ => kk σ2 _ c2 m2) (fun z => absurd rfl z)
set_option maxHeartbeats 4000000 in
theorem lw_c15 {Γ : zG} {B L : Nat} {xs : Nat → Int32} (C : lC Γ B L xs) (σ : zM) (S : zSt) (hc : cInv σ S) (hm : mInv σ S) (i : Nat) (hi : i + 6 ≤ L) (kk : ∀ σ' S', cInv σ' S' → mInv σ' S' → zVw Γ (zwl (zw Γ) σ') 80 2398 902 (lL Γ B i) []) : zVw Γ (zwl (zw Γ) σ) 80 2398 567 (lL Γ B i) [] := by
  obtain ⟨h, hX, hbl, hbA, hL, hk⟩ := C
  refine z_aload_n h dL_law_567 rfl ?_
  refine z_aload_n h dL_law_568 rfl ?_
  refine z_iload_n h dL_law_569 rfl ?_
  refine z_iconst h dL_law_570 ?_
  refine z_iadd h dL_law_571 ?_
  refine z_sld (i + 1) h hX hbl hbA hL dL_law_572 (by omega) (by omega) ?_
  refine z_callV (As := [zi (xs (i + 1)).toInt]) (rest := []) h dL_law_573 lL_80 vX7_laws rfl L0 (c_X7_laws σ S hc (xs (i + 1)).toInt (z32_rg _)) rfl rfl rfl (Nat.le_of_ble_eq_true rfl) (by decide) hk (fun r σ1 g1 => ?_)
  obtain ⟨_, rfl, rfl, k1, c1, f1⟩ := g1
  have m1 := mInv_lo hm f1
  show zVw Γ _ 80 2398 576 (lL Γ B i) [zi _]
  refine z_aload_n h dL_law_576 rfl ?_
  refine z_aload_n h dL_law_577 rfl ?_
  refine z_iload_n h dL_law_578 rfl ?_
  refine z_iconst h dL_law_579 ?_
  refine z_iadd h dL_law_580 ?_
  refine z_sld (i + 1) h hX hbl hbA hL dL_law_581 (by omega) (by omega) ?_
  refine z_callV (As := [zi (xs (i + 1)).toInt]) (rest := [_]) h dL_law_582 lL_83 vX8_laws rfl L57 (c_X8_laws σ1 S m1 (xs (i + 1)).toInt (z32_rg _)) rfl rfl rfl (Nat.le_of_ble_eq_true rfl) (by decide) hk (fun r σ2 g2 => ?_)
  obtain ⟨_, rfl, rfl, m2, f2⟩ := g2
  have c2 := cInv_hi c1 f2
  show zVw Γ _ 80 2398 585 (lL Γ B i) [zi _, zi _]
  exact z_icmp_eq h dL_law_585 k1 k1 (fun _ => kk σ2 _ c2 m2) (fun z => absurd rfl z)
set_option maxHeartbeats 4000000 in
theorem lw_c16 {Γ : zG} {B L : Nat} {xs : Nat → Int32} (C : lC Γ B L xs) (σ : zM) (S : zSt) (hc : cInv σ S) (hm : mInv σ S) (i : Nat) (hi : i + 6 ≤ L) (kk : ∀ σ' S', cInv σ' S' → mInv σ' S' → zVw Γ (zwl (zw Γ) σ') 80 2398 902 (lL Γ B i) []) : zVw Γ (zwl (zw Γ) σ) 80 2398 590 (lL Γ B i) [] := by
  obtain ⟨h, hX, hbl, hbA, hL, hk⟩ := C
  refine z_aload_n h dL_law_590 rfl ?_
  refine z_aload_n h dL_law_591 rfl ?_
  refine z_iload_n h dL_law_592 rfl ?_
  refine z_iconst h dL_law_593 ?_
  refine z_iadd h dL_law_594 ?_
  refine z_sld (i + 1) h hX hbl hbA hL dL_law_595 (by omega) (by omega) ?_
  refine z_aload_n h dL_law_596 rfl ?_
  refine z_iload_n h dL_law_597 rfl ?_
  refine z_iconst h dL_law_598 ?_
  refine z_iadd h dL_law_599 ?_
  refine z_sld (i + 2) h hX hbl hbA hL dL_law_600 (by omega) (by omega) ?_
  refine z_aload_n h dL_law_601 rfl ?_
  refine z_iload_n h dL_law_602 rfl ?_
  refine z_iconst h dL_law_603 ?_
  refine z_iadd h dL_law_604 ?_
  refine z_sld (i + 3) h hX hbl hbA hL dL_law_605 (by omega) (by omega) ?_
  refine z_aload_n h dL_law_606 rfl ?_
  refine z_iload_n h dL_law_607 rfl ?_
  refine z_iconst h dL_law_608 ?_
  refine z_iadd h dL_law_609 ?_
  refine z_sld (i + 4) h hX hbl hbA hL dL_law_610 (by omega) (by omega) ?_
  refine z_callV (As := [zi (xs (i + 1)).toInt, zi (xs (i + 2)).toInt, zi (xs (i + 3)).toInt, zi (xs (i + 4)).toInt]) (rest := []) h dL_law_611 lL_84 vX7_mean rfl L0 (c_X7_mean σ S hc (xs (i + 1)).toInt (xs (i + 2)).toInt (xs (i + 3)).toInt (xs (i + 4)).toInt (z32_rg _) (z32_rg _) (z32_rg _) (z32_rg _)) rfl rfl rfl (Nat.le_of_ble_eq_true rfl) (by decide) hk (fun r σ1 g1 => ?_)
  obtain ⟨_, rfl, rfl, k1, c1, f1⟩ := g1
  have m1 := mInv_lo hm f1
  show zVw Γ _ 80 2398 614 (lL Γ B i) [zl _]
  refine z_aload_n h dL_law_614 rfl ?_
  refine z_aload_n h dL_law_615 rfl ?_
  refine z_iload_n h dL_law_616 rfl ?_
  refine z_iconst h dL_law_617 ?_
  refine z_iadd h dL_law_618 ?_
  refine z_sld (i + 1) h hX hbl hbA hL dL_law_619 (by omega) (by omega) ?_
  refine z_aload_n h dL_law_620 rfl ?_
  refine z_iload_n h dL_law_621 rfl ?_
  refine z_iconst h dL_law_622 ?_
  refine z_iadd h dL_law_623 ?_
  refine z_sld (i + 2) h hX hbl hbA hL dL_law_624 (by omega) (by omega) ?_
  refine z_aload_n h dL_law_625 rfl ?_
  refine z_iload_n h dL_law_626 rfl ?_
  refine z_iconst h dL_law_627 ?_
  refine z_iadd h dL_law_628 ?_
  refine z_sld (i + 3) h hX hbl hbA hL dL_law_629 (by omega) (by omega) ?_
  refine z_aload_n h dL_law_630 rfl ?_
  refine z_iload_n h dL_law_631 rfl ?_
  refine z_iconst h dL_law_632 ?_
  refine z_iadd h dL_law_633 ?_
  refine z_sld (i + 4) h hX hbl hbA hL dL_law_634 (by omega) (by omega) ?_
  refine z_callV (As := [zi (xs (i + 1)).toInt, zi (xs (i + 2)).toInt, zi (xs (i + 3)).toInt, zi (xs (i + 4)).toInt]) (rest := [_]) h dL_law_635 lL_88 vX8_mean rfl L57 (c_X8_mean σ1 S m1 (xs (i + 1)).toInt (xs (i + 2)).toInt (xs (i + 3)).toInt (xs (i + 4)).toInt (z32_rg _) (z32_rg _) (z32_rg _) (z32_rg _)) rfl rfl rfl (Nat.le_of_ble_eq_true rfl) (by decide) hk (fun r σ2 g2 => ?_)
  obtain ⟨_, rfl, rfl, m2, f2⟩ := g2
  have c2 := cInv_hi c1 f2
  show zVw Γ _ 80 2398 638 (lL Γ B i) [zl _, zl _]
  refine z_lcmp h dL_law_638 (by omega) (by omega) ?_
  rw [zcmp_eq]
  exact z_if_eq h dL_law_639 (by omega) (fun _ => kk σ2 _ c2 m2) (fun z => absurd rfl z)
set_option maxHeartbeats 4000000 in
theorem lw_c17 {Γ : zG} {B L : Nat} {xs : Nat → Int32} (C : lC Γ B L xs) (σ : zM) (S : zSt) (hc : cInv σ S) (hm : mInv σ S) (i : Nat) (hi : i + 6 ≤ L) (kk : ∀ σ' S', cInv σ' S' → mInv σ' S' → zVw Γ (zwl (zw Γ) σ') 80 2398 902 (lL Γ B i) []) : zVw Γ (zwl (zw Γ) σ) 80 2398 644 (lL Γ B i) [] := by
  obtain ⟨h, hX, hbl, hbA, hL, hk⟩ := C
  refine z_aload_n h dL_law_644 rfl ?_
  refine z_aload_n h dL_law_645 rfl ?_
  refine z_iload_n h dL_law_646 rfl ?_
  refine z_iconst h dL_law_647 ?_
  refine z_iadd h dL_law_648 ?_
  refine z_sld (i + 1) h hX hbl hbA hL dL_law_649 (by omega) (by omega) ?_
  refine z_aload_n h dL_law_650 rfl ?_
  refine z_iload_n h dL_law_651 rfl ?_
  refine z_iconst h dL_law_652 ?_
  refine z_iadd h dL_law_653 ?_
  refine z_sld (i + 2) h hX hbl hbA hL dL_law_654 (by omega) (by omega) ?_
  refine z_aload_n h dL_law_655 rfl ?_
  refine z_iload_n h dL_law_656 rfl ?_
  refine z_iconst h dL_law_657 ?_
  refine z_iadd h dL_law_658 ?_
  refine z_sld (i + 3) h hX hbl hbA hL dL_law_659 (by omega) (by omega) ?_
  refine z_aload_n h dL_law_660 rfl ?_
  refine z_iload_n h dL_law_661 rfl ?_
  refine z_iconst h dL_law_662 ?_
  refine z_iadd h dL_law_663 ?_
  refine z_sld (i + 4) h hX hbl hbA hL dL_law_664 (by omega) (by omega) ?_
  refine z_aload_n h dL_law_665 rfl ?_
  refine z_iload_n h dL_law_666 rfl ?_
  refine z_iconst h dL_law_667 ?_
  refine z_iadd h dL_law_668 ?_
  refine z_sld (i + 5) h hX hbl hbA hL dL_law_669 (by omega) (by omega) ?_
  refine z_callV (As := [zi (xs (i + 1)).toInt, zi (xs (i + 2)).toInt, zi (xs (i + 3)).toInt, zi (xs (i + 4)).toInt, zi (xs (i + 5)).toInt]) (rest := []) h dL_law_670 lL_89 vX7_by rfl L0 (c_X7_by σ S hc (xs (i + 1)).toInt (xs (i + 2)).toInt (xs (i + 3)).toInt (xs (i + 4)).toInt (xs (i + 5)).toInt (z32_rg _) (z32_rg _) (z32_rg _) (z32_rg _) (z32_rg _)) rfl rfl rfl (Nat.le_of_ble_eq_true rfl) (by decide) hk (fun r σ1 g1 => ?_)
  obtain ⟨_, rfl, rfl, k1, c1, f1⟩ := g1
  have m1 := mInv_lo hm f1
  show zVw Γ _ 80 2398 673 (lL Γ B i) [zl _]
  refine z_aload_n h dL_law_673 rfl ?_
  refine z_aload_n h dL_law_674 rfl ?_
  refine z_iload_n h dL_law_675 rfl ?_
  refine z_iconst h dL_law_676 ?_
  refine z_iadd h dL_law_677 ?_
  refine z_sld (i + 1) h hX hbl hbA hL dL_law_678 (by omega) (by omega) ?_
  refine z_aload_n h dL_law_679 rfl ?_
  refine z_iload_n h dL_law_680 rfl ?_
  refine z_iconst h dL_law_681 ?_
  refine z_iadd h dL_law_682 ?_
  refine z_sld (i + 2) h hX hbl hbA hL dL_law_683 (by omega) (by omega) ?_
  refine z_aload_n h dL_law_684 rfl ?_
  refine z_iload_n h dL_law_685 rfl ?_
  refine z_iconst h dL_law_686 ?_
  refine z_iadd h dL_law_687 ?_
  refine z_sld (i + 3) h hX hbl hbA hL dL_law_688 (by omega) (by omega) ?_
  refine z_aload_n h dL_law_689 rfl ?_
  refine z_iload_n h dL_law_690 rfl ?_
  refine z_iconst h dL_law_691 ?_
  refine z_iadd h dL_law_692 ?_
  refine z_sld (i + 4) h hX hbl hbA hL dL_law_693 (by omega) (by omega) ?_
  refine z_aload_n h dL_law_694 rfl ?_
  refine z_iload_n h dL_law_695 rfl ?_
  refine z_iconst h dL_law_696 ?_
  refine z_iadd h dL_law_697 ?_
  refine z_sld (i + 5) h hX hbl hbA hL dL_law_698 (by omega) (by omega) ?_
  refine z_callV (As := [zi (xs (i + 1)).toInt, zi (xs (i + 2)).toInt, zi (xs (i + 3)).toInt, zi (xs (i + 4)).toInt, zi (xs (i + 5)).toInt]) (rest := [_]) h dL_law_699 lL_93 vX8_by rfl L57 (c_X8_by σ1 S m1 (xs (i + 1)).toInt (xs (i + 2)).toInt (xs (i + 3)).toInt (xs (i + 4)).toInt (xs (i + 5)).toInt (z32_rg _) (z32_rg _) (z32_rg _) (z32_rg _) (z32_rg _)) rfl rfl rfl (Nat.le_of_ble_eq_true rfl) (by decide) hk (fun r σ2 g2 => ?_)
  obtain ⟨_, rfl, rfl, m2, f2⟩ := g2
  have c2 := cInv_hi c1 f2
  show zVw Γ _ 80 2398 702 (lL Γ B i) [zl _, zl _]
  refine z_lcmp h dL_law_702 (by omega) (by omega) ?_
  rw [zcmp_eq]
  exact z_if_eq h dL_law_703 (by omega) (fun _ => kk σ2 _ c2 m2) (fun z => absurd rfl z)
set_option maxHeartbeats 4000000 in
theorem lw_c18 {Γ : zG} {B L : Nat} {xs : Nat → Int32} (C : lC Γ B L xs) (σ : zM) (S : zSt) (hc : cInv σ S) (hm : mInv σ S) (i : Nat) (hi : i + 6 ≤ L) (kk : ∀ σ' S', cInv σ' S' → mInv σ' S' → zVw Γ (zwl (zw Γ) σ') 80 2398 902 (lL Γ B i) []) : zVw Γ (zwl (zw Γ) σ) 80 2398 708 (lL Γ B i) [] := by
  obtain ⟨h, hX, hbl, hbA, hL, hk⟩ := C
  refine z_aload_n h dL_law_708 rfl ?_
  refine z_aload_n h dL_law_709 rfl ?_
  refine z_iload_n h dL_law_710 rfl ?_
  refine z_iconst h dL_law_711 ?_
  refine z_iadd h dL_law_712 ?_
  refine z_sld (i + 1) h hX hbl hbA hL dL_law_713 (by omega) (by omega) ?_
  refine z_aload_n h dL_law_714 rfl ?_
  refine z_iload_n h dL_law_715 rfl ?_
  refine z_iconst h dL_law_716 ?_
  refine z_iadd h dL_law_717 ?_
  refine z_sld (i + 2) h hX hbl hbA hL dL_law_718 (by omega) (by omega) ?_
  refine z_aload_n h dL_law_719 rfl ?_
  refine z_iload_n h dL_law_720 rfl ?_
  refine z_iconst h dL_law_721 ?_
  refine z_iadd h dL_law_722 ?_
  refine z_sld (i + 3) h hX hbl hbA hL dL_law_723 (by omega) (by omega) ?_
  refine z_callV (As := [zi (xs (i + 1)).toInt, zi (xs (i + 2)).toInt, zi (xs (i + 3)).toInt]) (rest := []) h dL_law_724 lL_94 vX7_best rfl L0 (c_X7_best σ S hc (xs (i + 1)).toInt (xs (i + 2)).toInt (xs (i + 3)).toInt (z32_rg _) (z32_rg _) (z32_rg _)) rfl rfl rfl (Nat.le_of_ble_eq_true rfl) (by decide) hk (fun r σ1 g1 => ?_)
  obtain ⟨_, rfl, rfl, k1, c1, f1⟩ := g1
  have m1 := mInv_lo hm f1
  show zVw Γ _ 80 2398 727 (lL Γ B i) [zi _]
  refine z_aload_n h dL_law_727 rfl ?_
  refine z_aload_n h dL_law_728 rfl ?_
  refine z_iload_n h dL_law_729 rfl ?_
  refine z_iconst h dL_law_730 ?_
  refine z_iadd h dL_law_731 ?_
  refine z_sld (i + 1) h hX hbl hbA hL dL_law_732 (by omega) (by omega) ?_
  refine z_aload_n h dL_law_733 rfl ?_
  refine z_iload_n h dL_law_734 rfl ?_
  refine z_iconst h dL_law_735 ?_
  refine z_iadd h dL_law_736 ?_
  refine z_sld (i + 2) h hX hbl hbA hL dL_law_737 (by omega) (by omega) ?_
  refine z_aload_n h dL_law_738 rfl ?_
  refine z_iload_n h dL_law_739 rfl ?_
  refine z_iconst h dL_law_740 ?_
  refine z_iadd h dL_law_741 ?_
  refine z_sld (i + 3) h hX hbl hbA hL dL_law_742 (by omega) (by omega) ?_
  refine z_callV (As := [zi (xs (i + 1)).toInt, zi (xs (i + 2)).toInt, zi (xs (i + 3)).toInt]) (rest := [_]) h dL_law_743 lL_97 vX8_best rfl L57 (c_X8_best σ1 S m1 (xs (i + 1)).toInt (xs (i + 2)).toInt (xs (i + 3)).toInt (z32_rg _) (z32_rg _) (z32_rg _)) rfl rfl rfl (Nat.le_of_ble_eq_true rfl) (by decide) hk (fun r σ2 g2 => ?_)
  obtain ⟨_, rfl, rfl, m2, f2⟩ := g2
  have c2 := cInv_hi c1 f2
  show zVw Γ _ 80 2398 746 (lL Γ B i) [zi _, zi _]
  exact z_icmp_eq h dL_law_746 k1 k1 (fun _ => kk σ2 _ c2 m2) (fun z => absurd rfl z)
set_option maxHeartbeats 4000000 in
theorem lw_c19 {Γ : zG} {B L : Nat} {xs : Nat → Int32} (C : lC Γ B L xs) (σ : zM) (S : zSt) (hc : cInv σ S) (hm : mInv σ S) (i : Nat) (hi : i + 6 ≤ L) (kk : ∀ σ' S', cInv σ' S' → mInv σ' S' → zVw Γ (zwl (zw Γ) σ') 80 2398 902 (lL Γ B i) []) : zVw Γ (zwl (zw Γ) σ) 80 2398 751 (lL Γ B i) [] := by
  obtain ⟨h, hX, hbl, hbA, hL, hk⟩ := C
  refine z_aload_n h dL_law_751 rfl ?_
  refine z_aload_n h dL_law_752 rfl ?_
  refine z_iload_n h dL_law_753 rfl ?_
  refine z_iconst h dL_law_754 ?_
  refine z_iadd h dL_law_755 ?_
  refine z_sld (i + 1) h hX hbl hbA hL dL_law_756 (by omega) (by omega) ?_
  refine z_aload_n h dL_law_757 rfl ?_
  refine z_iload_n h dL_law_758 rfl ?_
  refine z_iconst h dL_law_759 ?_
  refine z_iadd h dL_law_760 ?_
  refine z_sld (i + 2) h hX hbl hbA hL dL_law_761 (by omega) (by omega) ?_
  refine z_callV (As := [zi (xs (i + 1)).toInt, zi (xs (i + 2)).toInt]) (rest := []) h dL_law_762 lL_98 vX7_name rfl L0 (c_X7_name σ S hc (xs (i + 1)).toInt (xs (i + 2)).toInt (z32_rg _) (z32_rg _)) rfl rfl rfl (Nat.le_of_ble_eq_true rfl) (by decide) hk (fun r σ1 g1 => ?_)
  obtain ⟨_, rfl, rfl, k1, c1, f1⟩ := g1
  have m1 := mInv_lo hm f1
  show zVw Γ _ 80 2398 765 (lL Γ B i) [zi _]
  refine z_aload_n h dL_law_765 rfl ?_
  refine z_aload_n h dL_law_766 rfl ?_
  refine z_iload_n h dL_law_767 rfl ?_
  refine z_iconst h dL_law_768 ?_
  refine z_iadd h dL_law_769 ?_
  refine z_sld (i + 1) h hX hbl hbA hL dL_law_770 (by omega) (by omega) ?_
  refine z_aload_n h dL_law_771 rfl ?_
  refine z_iload_n h dL_law_772 rfl ?_
  refine z_iconst h dL_law_773 ?_
  refine z_iadd h dL_law_774 ?_
  refine z_sld (i + 2) h hX hbl hbA hL dL_law_775 (by omega) (by omega) ?_
  refine z_callV (As := [zi (xs (i + 1)).toInt, zi (xs (i + 2)).toInt]) (rest := [_]) h dL_law_776 lL_101 vX8_name rfl L57 (c_X8_name σ1 S m1 (xs (i + 1)).toInt (xs (i + 2)).toInt (z32_rg _) (z32_rg _)) rfl rfl rfl (Nat.le_of_ble_eq_true rfl) (by decide) hk (fun r σ2 g2 => ?_)
  obtain ⟨_, rfl, rfl, m2, f2⟩ := g2
  have c2 := cInv_hi c1 f2
  show zVw Γ _ 80 2398 779 (lL Γ B i) [zi _, zi _]
  exact z_icmp_eq h dL_law_779 k1 k1 (fun _ => kk σ2 _ c2 m2) (fun z => absurd rfl z)
set_option maxHeartbeats 4000000 in
theorem lw_c20 {Γ : zG} {B L : Nat} {xs : Nat → Int32} (C : lC Γ B L xs) (σ : zM) (S : zSt) (hc : cInv σ S) (hm : mInv σ S) (i : Nat) (hi : i + 6 ≤ L) (kk : ∀ σ' S', cInv σ' S' → mInv σ' S' → zVw Γ (zwl (zw Γ) σ') 80 2398 902 (lL Γ B i) []) : zVw Γ (zwl (zw Γ) σ) 80 2398 784 (lL Γ B i) [] := by
  obtain ⟨h, hX, hbl, hbA, hL, hk⟩ := C
  refine z_aload_n h dL_law_784 rfl ?_
  refine z_callV (As := []) (rest := []) h dL_law_785 lL_102 vX7_noNames rfl L0 (c_X7_noNames σ S hc  ) rfl rfl rfl (Nat.le_of_ble_eq_true rfl) (by decide) hk (fun r σ1 g1 => ?_)
  obtain ⟨_, rfl, rfl, k1, c1, f1⟩ := g1
  have m1 := mInv_lo hm f1
  show zVw Γ _ 80 2398 788 (lL Γ B i) [zi _]
  refine z_aload_n h dL_law_788 rfl ?_
  refine z_callV (As := []) (rest := [_]) h dL_law_789 lL_105 vX8_noNames rfl L57 (c_X8_noNames σ1 S m1  ) rfl rfl rfl (Nat.le_of_ble_eq_true rfl) (by decide) hk (fun r σ2 g2 => ?_)
  obtain ⟨_, rfl, rfl, m2, f2⟩ := g2
  have c2 := cInv_hi c1 f2
  show zVw Γ _ 80 2398 792 (lL Γ B i) [zi _, zi _]
  exact z_icmp_eq h dL_law_792 k1 k1 (fun _ => kk σ2 _ c2 m2) (fun z => absurd rfl z)
set_option maxHeartbeats 4000000 in
theorem lw_c21 {Γ : zG} {B L : Nat} {xs : Nat → Int32} (C : lC Γ B L xs) (σ : zM) (S : zSt) (hc : cInv σ S) (hm : mInv σ S) (i : Nat) (hi : i + 6 ≤ L) (kk : ∀ σ' S', cInv σ' S' → mInv σ' S' → zVw Γ (zwl (zw Γ) σ') 80 2398 902 (lL Γ B i) []) : zVw Γ (zwl (zw Γ) σ) 80 2398 797 (lL Γ B i) [] := by
  obtain ⟨h, hX, hbl, hbA, hL, hk⟩ := C
  refine z_aload_n h dL_law_797 rfl ?_
  refine z_aload_n h dL_law_798 rfl ?_
  refine z_iload_n h dL_law_799 rfl ?_
  refine z_iconst h dL_law_800 ?_
  refine z_iadd h dL_law_801 ?_
  refine z_sld (i + 1) h hX hbl hbA hL dL_law_802 (by omega) (by omega) ?_
  refine z_callV (As := [zi (xs (i + 1)).toInt]) (rest := []) h dL_law_803 lL_106 vX7_fits rfl L0 (c_X7_fits σ S hc (xs (i + 1)).toInt (z32_rg _)) rfl rfl rfl (Nat.le_of_ble_eq_true rfl) (by decide) hk (fun r σ1 g1 => ?_)
  obtain ⟨_, rfl, rfl, k1, c1, f1⟩ := g1
  have m1 := mInv_lo hm f1
  show zVw Γ _ 80 2398 806 (lL Γ B i) [zi _]
  refine z_aload_n h dL_law_806 rfl ?_
  refine z_aload_n h dL_law_807 rfl ?_
  refine z_iload_n h dL_law_808 rfl ?_
  refine z_iconst h dL_law_809 ?_
  refine z_iadd h dL_law_810 ?_
  refine z_sld (i + 1) h hX hbl hbA hL dL_law_811 (by omega) (by omega) ?_
  refine z_callV (As := [zi (xs (i + 1)).toInt]) (rest := [_]) h dL_law_812 lL_109 vX8_fits rfl L57 (c_X8_fits σ1 S m1 (xs (i + 1)).toInt (z32_rg _)) rfl rfl rfl (Nat.le_of_ble_eq_true rfl) (by decide) hk (fun r σ2 g2 => ?_)
  obtain ⟨_, rfl, rfl, m2, f2⟩ := g2
  have c2 := cInv_hi c1 f2
  show zVw Γ _ 80 2398 815 (lL Γ B i) [zi _, zi _]
  exact z_icmp_eq h dL_law_815 k1 k1 (fun _ => kk σ2 _ c2 m2) (fun z => absurd rfl z)
set_option maxHeartbeats 4000000 in
theorem lw_c22 {Γ : zG} {B L : Nat} {xs : Nat → Int32} (C : lC Γ B L xs) (σ : zM) (S : zSt) (hc : cInv σ S) (hm : mInv σ S) (i : Nat) (hi : i + 6 ≤ L) (kk : ∀ σ' S', cInv σ' S' → mInv σ' S' → zVw Γ (zwl (zw Γ) σ') 80 2398 902 (lL Γ B i) []) : zVw Γ (zwl (zw Γ) σ) 80 2398 820 (lL Γ B i) [] := by
  obtain ⟨h, hX, hbl, hbA, hL, hk⟩ := C
  refine z_aload_n h dL_law_820 rfl ?_
  refine z_aload_n h dL_law_821 rfl ?_
  refine z_iload_n h dL_law_822 rfl ?_
  refine z_iconst h dL_law_823 ?_
  refine z_iadd h dL_law_824 ?_
  refine z_sld (i + 1) h hX hbl hbA hL dL_law_825 (by omega) (by omega) ?_
  refine z_aload_n h dL_law_826 rfl ?_
  refine z_iload_n h dL_law_827 rfl ?_
  refine z_iconst h dL_law_828 ?_
  refine z_iadd h dL_law_829 ?_
  refine z_sld (i + 2) h hX hbl hbA hL dL_law_830 (by omega) (by omega) ?_
  refine z_callV (As := [zi (xs (i + 1)).toInt, zi (xs (i + 2)).toInt]) (rest := []) h dL_law_831 lL_110 vX7_drawn rfl L0 (c_X7_drawn σ S hc (xs (i + 1)).toInt (xs (i + 2)).toInt (z32_rg _) (z32_rg _)) rfl rfl rfl (Nat.le_of_ble_eq_true rfl) (by decide) hk (fun r σ1 g1 => ?_)
  obtain ⟨_, rfl, rfl, k1, c1, f1⟩ := g1
  have m1 := mInv_lo hm f1
  show zVw Γ _ 80 2398 834 (lL Γ B i) [zi _]
  refine z_aload_n h dL_law_834 rfl ?_
  refine z_aload_n h dL_law_835 rfl ?_
  refine z_iload_n h dL_law_836 rfl ?_
  refine z_iconst h dL_law_837 ?_
  refine z_iadd h dL_law_838 ?_
  refine z_sld (i + 1) h hX hbl hbA hL dL_law_839 (by omega) (by omega) ?_
  refine z_aload_n h dL_law_840 rfl ?_
  refine z_iload_n h dL_law_841 rfl ?_
  refine z_iconst h dL_law_842 ?_
  refine z_iadd h dL_law_843 ?_
  refine z_sld (i + 2) h hX hbl hbA hL dL_law_844 (by omega) (by omega) ?_
  refine z_callV (As := [zi (xs (i + 1)).toInt, zi (xs (i + 2)).toInt]) (rest := [_]) h dL_law_845 lL_113 vX8_drawn rfl L57 (c_X8_drawn σ1 S m1 (xs (i + 1)).toInt (xs (i + 2)).toInt (z32_rg _) (z32_rg _)) rfl rfl rfl (Nat.le_of_ble_eq_true rfl) (by decide) hk (fun r σ2 g2 => ?_)
  obtain ⟨_, rfl, rfl, m2, f2⟩ := g2
  have c2 := cInv_hi c1 f2
  show zVw Γ _ 80 2398 848 (lL Γ B i) [zi _, zi _]
  exact z_icmp_eq h dL_law_848 k1 k1 (fun _ => kk σ2 _ c2 m2) (fun z => absurd rfl z)
set_option maxHeartbeats 4000000 in
theorem lw_c23 {Γ : zG} {B L : Nat} {xs : Nat → Int32} (C : lC Γ B L xs) (σ : zM) (S : zSt) (hc : cInv σ S) (hm : mInv σ S) (i : Nat) (hi : i + 6 ≤ L) (kk : ∀ σ' S', cInv σ' S' → mInv σ' S' → zVw Γ (zwl (zw Γ) σ') 80 2398 902 (lL Γ B i) []) : zVw Γ (zwl (zw Γ) σ) 80 2398 853 (lL Γ B i) [] := by
  obtain ⟨h, hX, hbl, hbA, hL, hk⟩ := C
  refine z_aload_n h dL_law_853 rfl ?_
  refine z_callV (As := []) (rest := []) h dL_law_854 lL_114 vX7_keep rfl L0 (c_X7_keep σ S hc  ) rfl rfl rfl (Nat.le_of_ble_eq_true rfl) (by decide) hk (fun r σ1 g1 => ?_)
  obtain ⟨_, rfl, rfl, k1, c1, f1⟩ := g1
  have m1 := mInv_lo hm f1
  show zVw Γ _ 80 2398 857 (lL Γ B i) [zi _]
  refine z_aload_n h dL_law_857 rfl ?_
  refine z_callV (As := []) (rest := [_]) h dL_law_858 lL_117 vX8_keep rfl L57 (c_X8_keep σ1 S m1  ) rfl rfl rfl (Nat.le_of_ble_eq_true rfl) (by decide) hk (fun r σ2 g2 => ?_)
  obtain ⟨_, rfl, rfl, m2, f2⟩ := g2
  have c2 := cInv_hi c1 f2
  show zVw Γ _ 80 2398 861 (lL Γ B i) [zi _, zi _]
  exact z_icmp_eq h dL_law_861 k1 k1 (fun _ => kk σ2 _ c2 m2) (fun z => absurd rfl z)
set_option maxHeartbeats 4000000 in
theorem lw_c24 {Γ : zG} {B L : Nat} {xs : Nat → Int32} (C : lC Γ B L xs) (σ : zM) (S : zSt) (hc : cInv σ S) (hm : mInv σ S) (i : Nat) (hi : i + 6 ≤ L) (kk : ∀ σ' S', cInv σ' S' → mInv σ' S' → zVw Γ (zwl (zw Γ) σ') 80 2398 902 (lL Γ B i) []) : zVw Γ (zwl (zw Γ) σ) 80 2398 866 (lL Γ B i) [] := by
  obtain ⟨h, hX, hbl, hbA, hL, hk⟩ := C
  refine z_aload_n h dL_law_866 rfl ?_
  refine z_callV (As := []) (rest := []) h dL_law_867 lL_118 vX7_back rfl L0 (c_X7_back σ S hc  ) rfl rfl rfl (Nat.le_of_ble_eq_true rfl) (by decide) hk (fun r σ1 g1 => ?_)
  obtain ⟨_, rfl, rfl, k1, c1, f1⟩ := g1
  have m1 := mInv_lo hm f1
  show zVw Γ _ 80 2398 870 (lL Γ B i) [zi _]
  refine z_aload_n h dL_law_870 rfl ?_
  refine z_callV (As := []) (rest := [_]) h dL_law_871 lL_121 vX8_back rfl L57 (c_X8_back σ1 S m1  ) rfl rfl rfl (Nat.le_of_ble_eq_true rfl) (by decide) hk (fun r σ2 g2 => ?_)
  obtain ⟨_, rfl, rfl, m2, f2⟩ := g2
  have c2 := cInv_hi c1 f2
  show zVw Γ _ 80 2398 874 (lL Γ B i) [zi _, zi _]
  exact z_icmp_eq h dL_law_874 k1 k1 (fun _ => kk σ2 _ c2 m2) (fun z => absurd rfl z)
set_option maxHeartbeats 4000000 in
theorem lw_c25 {Γ : zG} {B L : Nat} {xs : Nat → Int32} (C : lC Γ B L xs) (σ : zM) (S : zSt) (hc : cInv σ S) (hm : mInv σ S) (i : Nat) (hi : i + 6 ≤ L) (kk : ∀ σ' S', cInv σ' S' → mInv σ' S' → zVw Γ (zwl (zw Γ) σ') 80 2398 902 (lL Γ B i) []) : zVw Γ (zwl (zw Γ) σ) 80 2398 879 (lL Γ B i) [] := by
  obtain ⟨h, hX, hbl, hbA, hL, hk⟩ := C
  refine z_aload_n h dL_law_879 rfl ?_
  refine z_aload_n h dL_law_880 rfl ?_
  refine z_iload_n h dL_law_881 rfl ?_
  refine z_iconst h dL_law_882 ?_
  refine z_iadd h dL_law_883 ?_
  refine z_sld (i + 1) h hX hbl hbA hL dL_law_884 (by omega) (by omega) ?_
  refine z_callV (As := [zi (xs (i + 1)).toInt]) (rest := []) h dL_law_885 lL_122 vX7_count rfl L0 (c_X7_count σ S hc (xs (i + 1)).toInt (z32_rg _)) rfl rfl rfl (Nat.le_of_ble_eq_true rfl) (by decide) hk (fun r σ1 g1 => ?_)
  obtain ⟨_, rfl, rfl, k1, c1, f1⟩ := g1
  have m1 := mInv_lo hm f1
  show zVw Γ _ 80 2398 888 (lL Γ B i) [zi _]
  refine z_aload_n h dL_law_888 rfl ?_
  refine z_aload_n h dL_law_889 rfl ?_
  refine z_iload_n h dL_law_890 rfl ?_
  refine z_iconst h dL_law_891 ?_
  refine z_iadd h dL_law_892 ?_
  refine z_sld (i + 1) h hX hbl hbA hL dL_law_893 (by omega) (by omega) ?_
  refine z_callV (As := [zi (xs (i + 1)).toInt]) (rest := [_]) h dL_law_894 lL_125 vX8_count rfl L57 (c_X8_count σ1 S m1 (xs (i + 1)).toInt (z32_rg _)) rfl rfl rfl (Nat.le_of_ble_eq_true rfl) (by decide) hk (fun r σ2 g2 => ?_)
  obtain ⟨_, rfl, rfl, m2, f2⟩ := g2
  have c2 := cInv_hi c1 f2
  show zVw Γ _ 80 2398 897 (lL Γ B i) [zi _, zi _]
  exact z_icmp_eq h dL_law_897 k1 k1 (fun _ => kk σ2 _ c2 m2) (fun z => absurd rfl z)
set_option maxHeartbeats 4000000 in
theorem lw_loop {Γ : zG} {B L : Nat} {xs : Nat → Int32} (C : lC Γ B L xs) (kx : ∀ σ i, zVw Γ (zwl (zw Γ) σ) 80 2398 908 (lL Γ B i) []) : ∀ (r i : Nat) (σ : zM) (S : zSt), cInv σ S → mInv σ S → L ≤ i + r → i ≤ L → zVw Γ (zwl (zw Γ) σ) 80 2398 18 (lL Γ B i) [] := by
  have C0 := C
  obtain ⟨h, hX, hbl, hbA, hL, hk⟩ := C
  intro r
  induction r with
  | zero =>
    intro i σ S hc hm h1 h2
    refine z_iload_n h dL_law_18 rfl ?_
    refine z_aload_n h dL_law_19 rfl ?_
    refine z_slen h hX hbl hbA dL_law_20 ?_
    refine z_bipush h dL_law_21 (by decide) ?_
    refine z_isub h dL_law_23 ?_
    refine z_icmp_gt h dL_law_24 (by omega) (by omega) (fun _ => kx σ i) (fun z => by exfalso; omega)
  | succ r ih =>
    intro i σ S hc hm h1 h2
    refine z_iload_n h dL_law_18 rfl ?_
    refine z_aload_n h dL_law_19 rfl ?_
    refine z_slen h hX hbl hbA dL_law_20 ?_
    refine z_bipush h dL_law_21 (by decide) ?_
    refine z_isub h dL_law_23 ?_
    refine z_icmp_gt h dL_law_24 (by omega) (by omega) (fun _ => kx σ i) (fun z => ?_)
    have hi : i + 6 ≤ L := by omega
    have kk : ∀ σ' S', cInv σ' S' → mInv σ' S' → zVw Γ (zwl (zw Γ) σ') 80 2398 902 (lL Γ B i) [] := by
      intro σ' S' hc' hm'
      refine z_iinc h dL_law_902 (by decide) rfl (zst1_3 rfl) ?_
      refine z_goto h dL_law_905 ?_
      rw [show (i : Int) + 6 = ((i + 6 : Nat) : Int) by omega]
      exact ih (i + 6) σ' S' hc' hm' (by omega) (by omega)
    refine z_aload_n h dL_law_27 rfl ?_
    refine z_iload_n h dL_law_28 rfl ?_
    refine z_sld i h hX hbl hbA hL dL_law_29 rfl (by omega) ?_
    refine z_bipush h dL_law_30 (by decide) ?_
    refine z_iand h dL_law_32 ?_
    have hv : -2147483648 ≤ zand (xs i).toInt 31 ∧ zand (xs i).toInt 31 ≤ 2147483647 := z32_rg _
    generalize zand (xs i).toInt 31 = v at hv ⊢
    by_cases b0 : v = 0
    · exact z_tabIn (t := 152) h 0 dL_law_33 b0 (by decide) (by rfl) (by decide) (lw_c0 C0 σ S hc hm i hi kk)
    by_cases b1 : v = 1
    · exact z_tabIn (t := 215) h 1 dL_law_33 b1 (by decide) (by rfl) (by decide) (lw_c1 C0 σ S hc hm i hi kk)
    by_cases b2 : v = 2
    · exact z_tabIn (t := 228) h 2 dL_law_33 b2 (by decide) (by rfl) (by decide) (lw_c2 C0 σ S hc hm i hi kk)
    by_cases b3 : v = 3
    · exact z_tabIn (t := 241) h 3 dL_law_33 b3 (by decide) (by rfl) (by decide) (lw_c3 C0 σ S hc hm i hi kk)
    by_cases b4 : v = 4
    · exact z_tabIn (t := 254) h 4 dL_law_33 b4 (by decide) (by rfl) (by decide) (lw_c4 C0 σ S hc hm i hi kk)
    by_cases b5 : v = 5
    · exact z_tabIn (t := 287) h 5 dL_law_33 b5 (by decide) (by rfl) (by decide) (lw_c5 C0 σ S hc hm i hi kk)
    by_cases b6 : v = 6
    · exact z_tabIn (t := 320) h 6 dL_law_33 b6 (by decide) (by rfl) (by decide) (lw_c6 C0 σ S hc hm i hi kk)
    by_cases b7 : v = 7
    · exact z_tabIn (t := 343) h 7 dL_law_33 b7 (by decide) (by rfl) (by decide) (lw_c7 C0 σ S hc hm i hi kk)
    by_cases b8 : v = 8
    · exact z_tabIn (t := 366) h 8 dL_law_33 b8 (by decide) (by rfl) (by decide) (lw_c8 C0 σ S hc hm i hi kk)
    by_cases b9 : v = 9
    · exact z_tabIn (t := 399) h 9 dL_law_33 b9 (by decide) (by rfl) (by decide) (lw_c9 C0 σ S hc hm i hi kk)
    by_cases b10 : v = 10
    · exact z_tabIn (t := 412) h 10 dL_law_33 b10 (by decide) (by rfl) (by decide) (lw_c10 C0 σ S hc hm i hi kk)
    by_cases b11 : v = 11
    · exact z_tabIn (t := 445) h 11 dL_law_33 b11 (by decide) (by rfl) (by decide) (lw_c11 C0 σ S hc hm i hi kk)
    by_cases b12 : v = 12
    · exact z_tabIn (t := 458) h 12 dL_law_33 b12 (by decide) (by rfl) (by decide) (lw_c12 C0 σ S hc hm i hi kk)
    by_cases b13 : v = 13
    · exact z_tabIn (t := 491) h 13 dL_law_33 b13 (by decide) (by rfl) (by decide) (lw_c13 C0 σ S hc hm i hi kk)
    by_cases b14 : v = 14
    · exact z_tabIn (t := 524) h 14 dL_law_33 b14 (by decide) (by rfl) (by decide) (lw_c14 C0 σ S hc hm i hi kk)
    by_cases b15 : v = 15
    · exact z_tabIn (t := 567) h 15 dL_law_33 b15 (by decide) (by rfl) (by decide) (lw_c15 C0 σ S hc hm i hi kk)
    by_cases b16 : v = 16
    · exact z_tabIn (t := 590) h 16 dL_law_33 b16 (by decide) (by rfl) (by decide) (lw_c16 C0 σ S hc hm i hi kk)
    by_cases b17 : v = 17
    · exact z_tabIn (t := 644) h 17 dL_law_33 b17 (by decide) (by rfl) (by decide) (lw_c17 C0 σ S hc hm i hi kk)
    by_cases b18 : v = 18
    · exact z_tabIn (t := 708) h 18 dL_law_33 b18 (by decide) (by rfl) (by decide) (lw_c18 C0 σ S hc hm i hi kk)
    by_cases b19 : v = 19
    · exact z_tabIn (t := 751) h 19 dL_law_33 b19 (by decide) (by rfl) (by decide) (lw_c19 C0 σ S hc hm i hi kk)
    by_cases b20 : v = 20
    · exact z_tabIn (t := 784) h 20 dL_law_33 b20 (by decide) (by rfl) (by decide) (lw_c20 C0 σ S hc hm i hi kk)
    by_cases b21 : v = 21
    · exact z_tabIn (t := 797) h 21 dL_law_33 b21 (by decide) (by rfl) (by decide) (lw_c21 C0 σ S hc hm i hi kk)
    by_cases b22 : v = 22
    · exact z_tabIn (t := 820) h 22 dL_law_33 b22 (by decide) (by rfl) (by decide) (lw_c22 C0 σ S hc hm i hi kk)
    by_cases b23 : v = 23
    · exact z_tabIn (t := 853) h 23 dL_law_33 b23 (by decide) (by rfl) (by decide) (lw_c23 C0 σ S hc hm i hi kk)
    by_cases b24 : v = 24
    · exact z_tabIn (t := 866) h 24 dL_law_33 b24 (by decide) (by rfl) (by decide) (lw_c24 C0 σ S hc hm i hi kk)
    by_cases b25 : v = 25
    · exact z_tabIn (t := 879) h 25 dL_law_33 b25 (by decide) (by rfl) (by decide) (lw_c25 C0 σ S hc hm i hi kk)
    exact z_tabOut (t := 902) h dL_law_33 hv (by omega) (by decide) (kk σ S hc hm)
