def sSv (m : Nat) (t : Int) (s : zS) : zS := (s.1.drop m, zEd (s.1.take m) 0 s.2.1, zEd (s.1.take m) t s.2.2.1, s.2.2.2.1, s.2.2.2.2.1, s.2.2.2.2.2 - m)
theorem sSv_0 (t : Int) (s : zS) : sSv 0 t s = s := by
  unfold sSv
  simp [zEd_nil]
theorem sHome_out (t x : Int) (tl : List Int) (how whn : Int → Int) (tu la : Int) : sHome t (x :: tl, how, whn, tu, la, 0) = sHome t (tl, (fun i => if i = x then 2 else how i), (fun i => if i = x then t else whn i), tu, la, 0) := by
  unfold sHome
  rw [if_pos rfl, if_pos rfl]
  show ([], zEd (x :: tl) 2 how, zEd (x :: tl) t whn, tu, la, 0) = _
  rw [zEd_cons, zEd_cons]
theorem sSv_out (m : Nat) (t x : Int) (tl : List Int) (how whn : Int → Int) (tu la le : Int) : sSv (m + 1) t (x :: tl, how, whn, tu, la, le) = sSv m t (tl, (fun i => if i = x then 0 else how i), (fun i => if i = x then t else whn i), tu, la, le - 1) := by
  unfold sSv
  simp only [List.drop_succ_cons, List.take_succ_cons, zEd_cons]
  rw [show le - ((m + 1 : Nat) : Int) = le - 1 - m by omega]
theorem away_out {P : zP} {t : Int} {l0 : List Int} {k : Nat} {x : Int} (hk : k < l0.length) (hx : x = l0[k]) : (l0.take (k + 1) ++ (l0.drop (k + 1)).filter (fun i => !gG P t i)).eraseIdx k = l0.take k ++ (l0.drop (k + 1)).filter (fun i => !gG P t i) := by
  rw [List.take_succ_eq_append_getElem hk, List.append_assoc, List.eraseIdx_append_of_length_le (by rw [List.length_take]; omega), List.length_take, show k - min k l0.length = 0 by omega]
  rfl
theorem c_X8_go (σ : zM) (P : zP) (hP : mPlan σ 0 P) (md : zMd) (hmd : mMd σ P.1.length md) (la : Nat) (hla : la ≤ 199) : zCv mX8_go (fun u => [zr u 57, zi la]) σ (fun σ' => mKp σ σ' ∧ mRow σ' (sRun P md (la + 1)).1 P.1.length ∧ mEnd σ' (sRun P md (la + 1)).2.1 (sRun P md (la + 1)).2.2.1 P.1.length ∧ σ' 57 31 = (sRun P md (la + 1)).2.2.2.1) := by
  refine zCv_mk (own := RX8) rfl (by decide +kernel) (fun w => [some (zr w 57), some (zi la), none, none, none, none]) (fun _ => rfl) (fun _ => Nat.le_of_ble_eq_true rfl) ?_
  intro Γ h hr
  have np10 := hP.2.2.2.2.1
  have qok := hP.2.2.2.2
  have L : ∀ (n t : Nat) (σ1 : zM) (l5 : Option Value), t + n = la + 1 → mKp σ σ1 → mMs σ1 P (sRun P md t) t → zV Γ σ1 54 [some (zr (zw Γ) 57), some (zi la), some (zi (sRun P md t).2.2.2.2.1), some (zi (sRun P md t).2.2.2.2.2), some (zi t), l5] [] := by
    intro n
    induction n with
    | zero =>
      intro t σ1 l5 h1 h2 h3
      refine z_iload h dX8_go_54 rfl ?_
      refine z_iload_n h dX8_go_56 rfl ?_
      refine z_icmp_gt h dX8_go_57 (by omega) (by omega) (fun b57 => ?_) (fun b57 => by exfalso; omega)
      refine z_irV h hr dX8_go_337 ?_
      rw [show la + 1 = t by omega]
      exact ⟨h2, h3.1, h3.2.1, h3.2.2.1⟩
    | succ n ih =>
      intro t σ1 l5 h1 h2 h3
      have ht : 0 ≤ (t : Int) ∧ (t : Int) < 200 := by omega
      have hS : sRun P md (t + 1) = sStep P md t (sRun P md t) := rfl
      have K299 : ∀ (m : Nat) (s : zS) (σ2 : zM) (l5 : Option Value), s.1.length = m → mKp σ σ2 → mMs σ2 P s (t + 1) → sHome t s = sRun P md (t + 1) → zV Γ σ2 299 [some (zr (zw Γ) 57), some (zi la), some (zi s.2.2.2.2.1), some (zi s.2.2.2.2.2), some (zi t), l5] [] := by
        intro m
        induction m with
        | zero =>
          intro s σ2 l5 g1 g2 g3 g4
          have g5 := g3.1.1
          have g6 := g3.2.2.2.2.1
          have e : sHome t s = s := by
            obtain ⟨line, how, whn, tu, la', le⟩ := s
            have e1 : line = [] := List.length_eq_zero_iff.mp g1
            subst e1
            unfold sHome
            split
            · simp [zEd_nil]
            · rfl
          rw [e] at g4
          refine z_iload_n h dX8_go_299 rfl ?_
          refine z_if_ne h dX8_go_300 (by omega) (fun b300 => ?_) (fun b300 => ?_)
          · refine z_iinc h dX8_go_331 (by decide) rfl (zst1_4 rfl) ?_
            refine z_goto h dX8_go_334 ?_
            rw [show (t : Int) + 1 = ((t + 1 : Nat) : Int) by omega, g4]
            exact ih (t + 1) σ2 l5 (by omega) g2 (by rw [← g4]; exact g3)
          · refine z_raload_n h dX8_go_303 rfl ?_
            refine y_get 28 h dX8_go_304 fX8_145 L57 rfl rfl ?_
            refine z_if_le h dX8_go_307 (by omega) (fun b307 => ?_) (fun b307 => by exfalso; omega)
            refine z_iinc h dX8_go_331 (by decide) rfl (zst1_4 rfl) ?_
            refine z_goto h dX8_go_334 ?_
            rw [show (t : Int) + 1 = ((t + 1 : Nat) : Int) by omega, g4]
            exact ih (t + 1) σ2 l5 (by omega) g2 (by rw [← g4]; exact g3)
        | succ m ihm =>
          intro s σ2 l5 g1 g2 g3 g4
          have g5 := g3.1.1
          have g6 := g3.2.2.2.2.1
          by_cases e0 : s.2.2.2.2.2 = 0
          · obtain ⟨line, how, whn, tu, la', le⟩ := s
            have e0 : le = 0 := e0
            subst e0
            cases line with
            | nil => simp at g1
            | cons x tl =>
              have g7 := g3.1.2.2.1 0 x rfl
              have g7 : σ2 74 0 = x := g7
              have g8 := g3.1.2.2.2.1 x (by simp)
              have g5 : σ2 57 28 = ((x :: tl).length : Nat) := g5
              have g11 : (x :: tl).length ≤ 10 := g3.1.2.1
              rw [List.length_cons] at g5 g11
              rw [sHome_out] at g4
              refine z_iload_n h dX8_go_299 rfl ?_
              refine z_if_ne h dX8_go_300 (by omega) (fun b300 => by exfalso; omega) (fun b300 => ?_)
              refine z_raload_n h dX8_go_303 rfl ?_
              refine y_get 28 h dX8_go_304 fX8_145 L57 rfl rfl ?_
              refine z_if_le h dX8_go_307 (by omega) (fun b307 => by exfalso; omega) (fun b307 => ?_)
              refine z_raload_n h dX8_go_310 rfl ?_
              refine z_raload_n h dX8_go_311 rfl ?_
              refine z_getr h dX8_go_312 fX8_58 L57 rfl ?_
              refine z_iconst h dX8_go_315 ?_
              refine z_iald h dX8_go_316 L74 (by decide) (by omega) ?_
              rw [g7]
              refine z_iconst h dX8_go_317 ?_
              refine z_iload h dX8_go_318 rfl ?_
              refine z_cVv3 h dX8_go_320 lX8_174 vX8_end rfl L57 (c_X8_end σ2 x 2 t (by omega)) rfl (Nat.le_of_ble_eq_true rfl) (by decide) (fun σ3 k1 => ?_)
              refine z_raload_n h dX8_go_323 rfl ?_
              refine z_iconst h dX8_go_324 ?_
              refine z_cVv1 h dX8_go_325 lX8_178 vX8_takeOut rfl L57 (c_X8_takeOut σ3 (x :: tl) P.1.length (by (subst k1; exact ⟨by rw [zup_ne (by omega), zup_ne (by omega)]; exact g3.1.1, g3.1.2.1, fun j y hj => by rw [zup_ne (by omega), zup_ne (by omega)]; exact g3.1.2.2.1 j y hj, g3.1.2.2.2⟩)) 0 (by simp)) rfl (Nat.le_of_ble_eq_true rfl) (by decide) (fun σ4 k2 => ?_)
              have k3 := mMs_out g3 2 t 0 (by omega) ht (by omega) k1 k2
              refine z_goto h dX8_go_328 ?_
              exact ihm (tl, (fun i => if i = x then 2 else how i), (fun i => if i = x then (t : Int) else whn i), tu, la', 0) σ4 l5 (by simpa using g1) (mKp_tr g2 k3.1) k3.2 g4
          · have e : sHome t s = s := by unfold sHome; rw [if_neg e0]
            rw [e] at g4
            refine z_iload_n h dX8_go_299 rfl ?_
            refine z_if_ne h dX8_go_300 (by omega) (fun b300 => ?_) (fun b300 => by exfalso; omega)
            refine z_iinc h dX8_go_331 (by decide) rfl (zst1_4 rfl) ?_
            refine z_goto h dX8_go_334 ?_
            rw [show (t : Int) + 1 = ((t + 1 : Nat) : Int) by omega, g4]
            exact ih (t + 1) σ2 l5 (by omega) g2 (by rw [← g4]; exact g3)
      have hPk : ∀ σ2, mKp σ σ2 → mPlan σ2 0 P := fun σ2 g => mPlan_kp hP g
      have K250 : ∀ (m : Nat) (k : Int) (s : zS) (σ2 : zM), 0 ≤ k → k ≤ P.2.2.2.1 → m = min s.1.length (min (P.2.2.2.1 - k).toNat s.2.2.2.2.2.toNat) → mKp σ σ2 → mMs σ2 P s (t + 1) → sHome t (sSv m t s) = sRun P md (t + 1) → zV Γ σ2 250 [some (zr (zw Γ) 57), some (zi la), some (zi s.2.2.2.2.1), some (zi s.2.2.2.2.2), some (zi t), some (zi k)] [] := by
        intro m
        induction m with
        | zero =>
          intro k s σ2 k0 k1 g1 g2 g3 g4
          rw [sSv_0] at g4
          have g5 := g3.1.1
          have g6 := g3.2.2.2.2.1
          have g7 := g3.1.2.1
          have q := (hPk σ2 g2).2.2.2.1.2.1
          have q' := qok.2.2.2.2.1
          refine z_iload h dX8_go_250 rfl ?_
          refine z_raload_n h dX8_go_252 rfl ?_
          refine z_getr h dX8_go_253 fX8_28 L57 rfl ?_
          refine z_iconst h dX8_go_256 ?_
          refine z_iald h dX8_go_257 L64 (by decide) (by omega) ?_
          refine z_icmp_ge h dX8_go_258 (by omega) (by omega) (fun b258 => ?_) (fun b258 => ?_)
          · exact K299 _ s σ2 (some (zi k)) rfl g2 g3 g4
          · refine z_raload_n h dX8_go_261 rfl ?_
            refine y_get 28 h dX8_go_262 fX8_145 L57 rfl rfl ?_
            refine z_if_le h dX8_go_265 (by omega) (fun b265 => ?_) (fun b265 => ?_)
            · exact K299 _ s σ2 (some (zi k)) rfl g2 g3 g4
            · refine z_iload_n h dX8_go_268 rfl ?_
              refine z_if_le h dX8_go_269 (by omega) (fun b269 => ?_) (fun b269 => by exfalso; omega)
              exact K299 _ s σ2 (some (zi k)) rfl g2 g3 g4
        | succ m ihm =>
          intro k s σ2 k0 k1 g1 g2 g3 g4
          have g5 := g3.1.1
          have g6 := g3.2.2.2.2.1
          have q := (hPk σ2 g2).2.2.2.1.2.1
          have q' := qok.2.2.2.2.1
          obtain ⟨line, how, whn, tu, la', le⟩ := s
          cases line with
          | nil => simp at g1
          | cons x tl =>
            have g7 : σ2 74 0 = x := g3.1.2.2.1 0 x rfl
            have g8 := g3.1.2.2.2.1 x (by simp)
            have g5 : σ2 57 28 = ((x :: tl).length : Nat) := g5
            have g6 : 0 ≤ le ∧ le ≤ 99 := g6
            have g1 : m + 1 = min (x :: tl).length (min (P.2.2.2.1 - k).toNat le.toNat) := g1
            have g11 := g3.1.2.1
            have g11 : (x :: tl).length ≤ 10 := g11
            rw [List.length_cons] at g5 g1 g11
            rw [sSv_out] at g4
            refine z_iload h dX8_go_250 rfl ?_
            refine z_raload_n h dX8_go_252 rfl ?_
            refine z_getr h dX8_go_253 fX8_28 L57 rfl ?_
            refine z_iconst h dX8_go_256 ?_
            refine z_iald h dX8_go_257 L64 (by decide) (by omega) ?_
            refine z_icmp_ge h dX8_go_258 (by omega) (by omega) (fun b258 => by exfalso; omega) (fun b258 => ?_)
            refine z_raload_n h dX8_go_261 rfl ?_
            refine y_get 28 h dX8_go_262 fX8_145 L57 rfl rfl ?_
            refine z_if_le h dX8_go_265 (by omega) (fun b265 => by exfalso; omega) (fun b265 => ?_)
            refine z_iload_n h dX8_go_268 rfl ?_
            refine z_if_le h dX8_go_269 (by omega) (fun b269 => by exfalso; omega) (fun b269 => ?_)
            refine z_raload_n h dX8_go_272 rfl ?_
            refine z_raload_n h dX8_go_273 rfl ?_
            refine z_getr h dX8_go_274 fX8_58 L57 rfl ?_
            refine z_iconst h dX8_go_277 ?_
            refine z_iald h dX8_go_278 L74 (by decide) (by omega) ?_
            rw [g7]
            refine z_iconst h dX8_go_279 ?_
            refine z_iload h dX8_go_280 rfl ?_
            refine z_cVv3 h dX8_go_282 lX8_174 vX8_end rfl L57 (c_X8_end σ2 x 0 t (by omega)) rfl (Nat.le_of_ble_eq_true rfl) (by decide) (fun σ3 j1 => ?_)
            refine z_raload_n h dX8_go_285 rfl ?_
            refine z_iconst h dX8_go_286 ?_
            refine z_cVv1 h dX8_go_287 lX8_178 vX8_takeOut rfl L57 (c_X8_takeOut σ3 (x :: tl) P.1.length (by (subst j1; exact ⟨by rw [zup_ne (by omega), zup_ne (by omega)]; exact g3.1.1, g3.1.2.1, fun j y hj => by rw [zup_ne (by omega), zup_ne (by omega)]; exact g3.1.2.2.1 j y hj, g3.1.2.2.2⟩)) 0 (by simp)) rfl (Nat.le_of_ble_eq_true rfl) (by decide) (fun σ4 j2 => ?_)
            have j3 := mMs_out g3 0 t (le - 1) (by omega) ht (by omega) j1 j2
            refine z_iinc h dX8_go_290 (by decide) rfl (zst1_3 rfl) ?_
            refine z_iinc h dX8_go_293 (by decide) rfl (zst1_5 rfl) ?_
            refine z_goto h dX8_go_296 ?_
            rw [show le + -1 = le - 1 by omega]
            exact ihm (k + 1) (tl, (fun i => if i = x then 0 else how i), (fun i => if i = x then (t : Int) else whn i), tu, la', le - 1) σ4 (by omega) (by omega) (by show m = min tl.length (min (P.2.2.2.1 - (k + 1)).toNat (le - 1).toNat); omega) (mKp_tr g2 j3.1) j3.2 g4
      have K235 : ∀ (s : zS) (σ2 : zM) (l5 : Option Value), mKp σ σ2 → mMs σ2 P s (t + 1) → sHome t (sServe P t s) = sRun P md (t + 1) → zV Γ σ2 235 [some (zr (zw Γ) 57), some (zi la), some (zi s.2.2.2.2.1), some (zi s.2.2.2.2.2), some (zi t), l5] [] := by
        intro s σ2 l5 g1 g2 g3
        have q := (hPk σ2 g1).2.2.2.1.2.2.1
        have q' := qok.2.2.2.2.2.1
        have q2 := qok.2.2.2.2.1
        have hm := Int.emod_nonneg (t : Int) (show σ2 65 0 ≠ 0 by omega)
        have hm2 := Int.emod_lt_of_pos (t : Int) (show 0 < σ2 65 0 by omega)
        refine z_iload h dX8_go_235 rfl ?_
        refine z_raload_n h dX8_go_237 rfl ?_
        refine z_getr h dX8_go_238 fX8_31 L57 rfl ?_
        refine z_iconst h dX8_go_241 ?_
        refine z_iald h dX8_go_242 L65 (by decide) (by omega) ?_
        refine z_irem h dX8_go_243 (by omega) (by omega) ?_
        refine z_if_ne h dX8_go_244 (by omega) (fun b244 => ?_) (fun b244 => ?_)
        · have e : sServe P t s = s := by unfold sServe; rw [← q, if_neg (by omega)]
          rw [e] at g3
          exact K299 _ s σ2 l5 rfl g1 g2 g3
        · refine z_iconst h dX8_go_247 ?_
          refine z_ist1 h dX8_go_248 (by decide) (zst1_5 rfl) ?_
          have e : sServe P t s = sSv (sMany P s) t s := by unfold sServe; rw [← q, if_pos (by omega)]; rfl
          rw [e] at g3
          exact K250 (sMany P s) 0 s σ2 (by omega) (by omega) (by unfold sMany; rw [show P.2.2.2.1 - 0 = P.2.2.2.1 by omega]) g1 g2 g3
      have K179 : ∀ (m i : Nat) (line : List Int) (r : (Int → Int) × (Int → Int) × Int × Int × Int) (σ2 : zM), i + m = P.1.length → mKp σ σ2 → mMs σ2 P (line, r) (t + 1) → (∀ x ∈ line, pA P x < t ∨ x < i) → sHome t (sServe P t (zIx md.1 t (P.1.drop i) i line, r)) = sRun P md (t + 1) → zV Γ σ2 179 [some (zr (zw Γ) 57), some (zi la), some (zi r.2.2.2.1), some (zi r.2.2.2.2), some (zi t), some (zi i)] [] := by
        intro m
        induction m with
        | zero =>
          intro i line r σ2 g1 g2 g3 g4 g5
          rw [List.drop_eq_nil_of_le (by omega)] at g5
          have q := (hPk σ2 g2).1
          refine z_iload h dX8_go_179 rfl ?_
          refine z_raload_n h dX8_go_181 rfl ?_
          refine z_getr h dX8_go_182 fX8_13 L57 rfl ?_
          refine z_iconst h dX8_go_185 ?_
          refine z_iald h dX8_go_186 L59 (by decide) (by omega) ?_
          refine z_icmp_ge h dX8_go_187 (by omega) (by omega) (fun b187 => ?_) (fun b187 => by exfalso; omega)
          exact K235 (line, r) σ2 (some (zi i)) g2 g3 g5
        | succ m ihm =>
          intro i line r σ2 g1 g2 g3 g4 g5
          have q := (hPk σ2 g2).1
          have hlt : i < P.1.length := by omega
          have hx := List.getElem?_eq_getElem hlt
          obtain ⟨p, hpe⟩ : ∃ p, p = P.1[i] := ⟨_, rfl⟩
          rw [← hpe] at hx
          rw [List.drop_eq_getElem_cons hlt, ← hpe, zIx, show (i : Int) + 1 = ((i + 1 : Nat) : Int) by omega] at g5
          have pa := mPlan_at (hPk σ2 g2) (i := i) (by omega)
          have pe : pA P i = p.1 := by unfold pA; rw [Int.toNat_natCast, List.getD_eq_getElem?_getD, hx]; rfl
          have hl := (mMd_kp hmd g2).1
          have g6 := g3.1.1
          have g6 : σ2 57 28 = line.length := g6
          by_cases e : p.1 = t
          · rw [if_pos e] at g5
            have hni : (i : Int) ∉ line := fun z => by
              have := g4 _ z
              omega
            have hpg := pigeon P.1.length (↑i :: line) (List.nodup_cons.mpr ⟨hni, g3.1.2.2.2.2⟩) (fun x hx => by
              rcases List.mem_cons.mp hx with rfl | hx
              · omega
              · exact g3.1.2.2.2.1 x hx)
            rw [List.length_cons] at hpg
            have fin : ∀ σ3, ((∀ c, c ≠ 57 → c ≠ 74 → ∀ j, σ3 c j = σ2 c j) ∧ (∀ j : Int, j ≠ 28 → σ3 57 j = σ2 57 j) ∧ mRow σ3 (zJoin md.1 line i) P.1.length) → zV Γ σ3 179 [some (zr (zw Γ) 57), some (zi la), some (zi r.2.2.2.1), some (zi r.2.2.2.2), some (zi t), some (zi (i + 1 : Nat))] [] := by
              intro σ3 k1
              have k2 : mKp σ2 σ3 := ⟨fun c a b _ _ j => k1.1 c a b j, fun j a _ => k1.2.1 j a⟩
              refine ihm (i + 1) (zJoin md.1 line i) r σ3 (by omega) (mKp_tr g2 k2) ⟨k1.2.2, fun j a b => ?_, ?_, g3.2.2.2.1, g3.2.2.2.2.1, fun x hx => ?_⟩ (fun x hx => ?_) g5
              · rw [k1.1 75 (by omega) (by omega), k1.1 76 (by omega) (by omega)]; exact g3.2.1 j a b
              · rw [k1.2.1 31 (by omega)]; exact g3.2.2.1
              · rcases List.mem_cons.mp ((zJoin_perm md.1 line i).mem_iff.mp hx) with rfl | hx
                · omega
                · exact g3.2.2.2.2.2 x hx
              · rcases List.mem_cons.mp ((zJoin_perm md.1 line i).mem_iff.mp hx) with rfl | hx
                · omega
                · have := g4 x hx
                  omega
            refine z_iload h dX8_go_179 rfl ?_
            refine z_raload_n h dX8_go_181 rfl ?_
            refine z_getr h dX8_go_182 fX8_13 L57 rfl ?_
            refine z_iconst h dX8_go_185 ?_
            refine z_iald h dX8_go_186 L59 (by decide) (by omega) ?_
            refine z_icmp_ge h dX8_go_187 (by omega) (by omega) (fun b187 => by exfalso; omega) (fun b187 => ?_)
            refine z_raload_n h dX8_go_190 rfl ?_
            refine z_getr h dX8_go_191 fX8_16 L57 rfl ?_
            refine z_iload h dX8_go_194 rfl ?_
            refine z_iald h dX8_go_196 L60 (by decide) (by omega) ?_
            refine z_iload h dX8_go_197 rfl ?_
            refine z_icmp_ne h dX8_go_199 (by omega) (by omega) (fun b199 => by exfalso; omega) (fun b199 => ?_)
            refine z_raload_n h dX8_go_202 rfl ?_
            refine z_iload h dX8_go_203 rfl ?_
            refine z_raload_n h dX8_go_205 rfl ?_
            refine y_get 25 h dX8_go_206 fX8_139 L57 rfl rfl ?_
            refine z_iconst h dX8_go_209 ?_
            refine z_icmp_ne h dX8_go_210 (by omega) (by omega) (fun b210 => ?_) (fun b210 => ?_)
            · refine z_raload_n h dX8_go_222 rfl ?_
              refine y_get 28 h dX8_go_223 fX8_145 L57 rfl rfl ?_
              try rw [g6]
              refine z_cVv2 h dX8_go_226 lX8_187 vX8_putIn rfl L57 (c_X8_putIn σ2 line P.1.length i md.1 _ (by first | rw [if_pos (by omega)] | rw [if_neg (by omega)]) g3.1 (by omega) hni (by omega)) rfl (Nat.le_of_ble_eq_true rfl) (by decide) (fun σ3 k1 => ?_)
              refine z_iinc h dX8_go_229 (by decide) rfl (zst1_5 rfl) ?_
              refine z_goto h dX8_go_232 ?_
              exact fin σ3 k1
            · refine z_raload_n h dX8_go_213 rfl ?_
              refine y_get 28 h dX8_go_214 fX8_145 L57 rfl rfl ?_
              refine z_iconst h dX8_go_217 ?_
              refine z_idiv h dX8_go_218 (by omega) (by omega) ?_
              rw [g6, show (line.length : Int) / 2 = ((line.length / 2 : Nat) : Int) by omega]
              refine z_goto h dX8_go_219 ?_
              try rw [g6]
              refine z_cVv2 h dX8_go_226 lX8_187 vX8_putIn rfl L57 (c_X8_putIn σ2 line P.1.length i md.1 _ (by first | rw [if_pos (by omega)] | rw [if_neg (by omega)]) g3.1 (by omega) hni (by omega)) rfl (Nat.le_of_ble_eq_true rfl) (by decide) (fun σ3 k1 => ?_)
              refine z_iinc h dX8_go_229 (by decide) rfl (zst1_5 rfl) ?_
              refine z_goto h dX8_go_232 ?_
              exact fin σ3 k1
          · rw [if_neg e] at g5
            refine z_iload h dX8_go_179 rfl ?_
            refine z_raload_n h dX8_go_181 rfl ?_
            refine z_getr h dX8_go_182 fX8_13 L57 rfl ?_
            refine z_iconst h dX8_go_185 ?_
            refine z_iald h dX8_go_186 L59 (by decide) (by omega) ?_
            refine z_icmp_ge h dX8_go_187 (by omega) (by omega) (fun b187 => by exfalso; omega) (fun b187 => ?_)
            refine z_raload_n h dX8_go_190 rfl ?_
            refine z_getr h dX8_go_191 fX8_16 L57 rfl ?_
            refine z_iload h dX8_go_194 rfl ?_
            refine z_iald h dX8_go_196 L60 (by decide) (by omega) ?_
            refine z_iload h dX8_go_197 rfl ?_
            refine z_icmp_ne h dX8_go_199 (by omega) (by omega) (fun b199 => ?_) (fun b199 => by exfalso; omega)
            refine z_iinc h dX8_go_229 (by decide) rfl (zst1_5 rfl) ?_
            refine z_goto h dX8_go_232 ?_
            rw [show (i : Int) + 1 = ((i + 1 : Nat) : Int) by omega]
            exact ihm (i + 1) line r σ2 (by omega) g2 g3 (fun x hx => by have := g4 x hx; omega) g5
      have K176 : ∀ (s : zS) (σ2 : zM) (l5 : Option Value), mKp σ σ2 → mMs σ2 P s t → sHome t (sServe P t (sCome P md t s)) = sRun P md (t + 1) → zV Γ σ2 176 [some (zr (zw Γ) 57), some (zi la), some (zi s.2.2.2.2.1), some (zi s.2.2.2.2.2), some (zi t), l5] [] := by
        intro s σ2 l5 g1 g2 g3
        rw [sCome_ix] at g3
        refine z_iconst h dX8_go_176 ?_
        refine z_ist1 h dX8_go_177 (by decide) (zst1_5 rfl) ?_
        exact K179 P.1.length 0 s.1 s.2 σ2 (by omega) g1 ⟨g2.1, g2.2.1, g2.2.2.1, g2.2.2.2.1, g2.2.2.2.2.1, fun x hx => by have := g2.2.2.2.2.2 x hx; omega⟩ (fun x hx => Or.inl (g2.2.2.2.2.2 x hx)) g3
      have K129 : ∀ (s : zS) (σ2 : zM) (l5 : Option Value), mKp σ σ2 → mMs σ2 P s t → sHome t (sServe P t (sCome P md t (sTurn P md t s))) = sRun P md (t + 1) → zV Γ σ2 129 [some (zr (zw Γ) 57), some (zi la), some (zi s.2.2.2.2.1), some (zi s.2.2.2.2.2), some (zi t), l5] [] := by
        intro s σ2 l5 g1 g2 g3
        have hl := (mMd_kp hmd g1).1
        have q := (hPk σ2 g1).2.2.2.1.1
        have q' := qok.2.2.2.1
        have g4 := g2.2.2.2.1
        have no : ¬ (md.1 ≠ 3 ∧ P.2.2.1 < t - s.2.2.2.2.1 ∧ yCry P md t s.1 = true) → zV Γ σ2 176 [some (zr (zw Γ) 57), some (zi la), some (zi s.2.2.2.2.1), some (zi s.2.2.2.2.2), some (zi t), l5] [] := fun z => K176 s σ2 l5 g1 g2 ((show sTurn P md t s = s from by unfold sTurn; rw [if_neg z]) ▸ g3)
        refine z_raload_n h dX8_go_129 rfl ?_
        refine y_get 25 h dX8_go_130 fX8_139 L57 rfl rfl ?_
        refine z_iconst h dX8_go_133 ?_
        refine z_icmp_eq h dX8_go_134 (by omega) (by omega) (fun b134 => ?_) (fun b134 => ?_)
        · exact no (fun z => z.1 (by omega))
        · refine z_iload h dX8_go_137 rfl ?_
          refine z_iload_n h dX8_go_139 rfl ?_
          refine z_isub h dX8_go_140 ?_
          refine z_raload_n h dX8_go_141 rfl ?_
          refine z_getr h dX8_go_142 fX8_25 L57 rfl ?_
          refine z_iconst h dX8_go_145 ?_
          refine z_iald h dX8_go_146 L63 (by decide) (by omega) ?_
          refine z_icmp_le h dX8_go_147 (by omega) (by omega) (fun b147 => ?_) (fun b147 => ?_)
          · exact no (fun z => by omega)
          · refine z_raload_n h dX8_go_150 rfl ?_
            refine z_iload h dX8_go_151 rfl ?_
            refine z_cVi1 h dX8_go_153 lX8_181 vX8_doesCry rfl L57 (c_X8_doesCry σ2 P (hPk σ2 g1) md (mMd_kp hmd g1) s.1 g2.1 t ht) rfl (Nat.le_of_ble_eq_true rfl) (by decide) (fun v σ3 k1 => ?_)
            obtain ⟨k1, k1'⟩ := k1
            rw [k1']
            have k2 : (v = 1 ∧ yCry P md t s.1 = true) ∨ (v = 0 ∧ yCry P md t s.1 = false) := by (cases hb : yCry P md t s.1 <;> rw [hb] at k1 <;> simp [k1, zb])
            refine z_if_eq h dX8_go_156 (by omega) (fun b156 => ?_) (fun b156 => ?_)
            · exact no (fun z => by rcases k2 with ⟨k2, k4⟩ | ⟨k2, k4⟩; omega; (rw [k4] at z; exact Bool.noConfusion z.2.2))
            · refine z_raload_n h dX8_go_159 rfl ?_
              refine z_cVv0 h dX8_go_160 lX8_184 vX8_turnLine rfl L57 (c_X8_turnLine σ2 s.1 P.1.length md.1 hl g2.1) rfl (Nat.le_of_ble_eq_true rfl) (by decide) (fun σ4 k3 => ?_)
              refine z_raload_n h dX8_go_163 rfl ?_
              refine z_dup h dX8_go_164 rfl ?_
              refine y_get 31 h dX8_go_165 fX8_171 L57 rfl rfl ?_
              refine z_iconst h dX8_go_168 ?_
              refine z_iadd h dX8_go_169 ?_
              refine y_put 31 h dX8_go_170 fX8_171 pX8_31 L57 rfl rfl ?_
              refine z_iload h dX8_go_173 rfl ?_
              refine z_ist1_n h dX8_go_175 (by decide) (zst1_2 rfl) ?_
              have hy : yCry P md t s.1 = true := by rcases k2 with ⟨k2, k4⟩ | ⟨k2, k4⟩; exact k4; (exfalso; omega)
              have e : sTurn P md t s = (zTurn md.1 s.1, s.2.1, s.2.2.1, s.2.2.2.1 + 1, (t : Int), s.2.2.2.2.2) := by unfold sTurn; rw [if_pos ⟨by omega, by omega, hy⟩]
              rw [e] at g3
              refine K176 (zTurn md.1 s.1, s.2.1, s.2.2.1, s.2.2.2.1 + 1, (t : Int), s.2.2.2.2.2) _ l5 (mKp_tr g1 ⟨fun c c1 c2 _ _ i => by rw [zup_ne c1]; exact k3.1 c c2 i, fun i i1 i2 => by rw [zup_nei i2]; exact k3.1 57 (by omega) i⟩) ⟨?_, fun i a b => ?_, ?_, by show -1000 ≤ (t : Int) ∧ (t : Int) ≤ 200; omega, g2.2.2.2.2.1, fun x hx => g2.2.2.2.2.2 x (zTurn_mem.mp hx)⟩ g3
              · exact ⟨by rw [zup_nei (by omega)]; exact k3.2.1, k3.2.2.1, fun j y hj => by rw [zup_ne (by omega)]; exact k3.2.2.2.1 j y hj, k3.2.2.2.2⟩
              · rw [zup_ne (by omega), zup_ne (by omega), k3.1 75 (by omega), k3.1 76 (by omega)]; exact g2.2.1 i a b
              · rw [zup_eq, k3.1 57 (by omega), g2.2.2.1]
      have g0 := hS
      unfold sStep at g0
      generalize hs0 : sRun P md t = s0 at h3 g0
      have K68 : ∀ (k : Nat) (how whn : Int → Int) (σ2 : zM), k ≤ s0.1.length → mKp σ σ2 → mMs σ2 P (s0.1.take k ++ (s0.1.drop k).filter (fun i => !gG P t i), how, whn, s0.2.2.2) t → how = (fun i => if i ∈ s0.1.drop k ∧ gG P t i = true then 1 else s0.2.1 i) → whn = (fun i => if i ∈ s0.1.drop k ∧ gG P t i = true then (t : Int) else s0.2.2.1 i) → zV Γ σ2 68 [some (zr (zw Γ) 57), some (zi la), some (zi s0.2.2.2.2.1), some (zi s0.2.2.2.2.2), some (zi t), some (zi ((k : Int) - 1))] [] := by
        intro k
        induction k with
        | zero =>
          intro how whn σ2 _ g1 g2 g3 g4
          refine z_iload h dX8_go_68 rfl ?_
          refine z_if_lt h dX8_go_70 (by omega) (fun b70 => ?_) (fun b70 => by exfalso; omega)
          refine K129 (sAway P t s0) σ2 (some (zi (0 - 1))) g1 ?_ g0.symm
          rw [g3, g4] at g2
          simpa [sAway] using g2
        | succ k ihk =>
          intro how whn σ2 hk g1 g2 g3 g4
          have hlt : k < s0.1.length := by omega
          obtain ⟨x, hxe⟩ : ∃ x, x = s0.1[k] := ⟨_, rfl⟩
          have hd : s0.1.drop k = x :: s0.1.drop (k + 1) := by rw [hxe]; exact List.drop_eq_getElem_cons hlt
          have hlk : (s0.1.take (k + 1)).length = k + 1 := by rw [List.length_take]; omega
          have hxk : (s0.1.take (k + 1) ++ (s0.1.drop (k + 1)).filter (fun i => !gG P t i))[k]? = some x := by
            rw [List.getElem?_append_left (by omega), List.getElem?_take, if_pos (by omega), hxe]
            exact List.getElem?_eq_getElem hlt
          have hg := g2.1.2.2.1 k x hxk
          have hxr := g2.1.2.2.2.1 x (List.mem_of_getElem? hxk)
          have hll := g2.1.2.1
          have hlc : k < (s0.1.take (k + 1) ++ (s0.1.drop (k + 1)).filter (fun i => !gG P t i)).length := (List.getElem?_eq_some_iff.mp hxk).1
          have hll : (s0.1.take (k + 1) ++ (s0.1.drop (k + 1)).filter (fun i => !gG P t i)).length ≤ 10 := hll
          have pa := mPlan_at (hPk σ2 g1) hxr
          have ek : ((k + 1 : Nat) : Int) - 1 = k := by omega
          have hxn : x ∉ s0.1.drop (k + 1) ∨ True := Or.inr trivial
          by_cases e : gG P t x = true
          · have e' : pA P x + pW P x ≤ t := by simpa [gG] using e
            rw [ek]
            refine z_iload h dX8_go_68 rfl ?_
            refine z_if_lt h dX8_go_70 (by omega) (fun b70 => by exfalso; omega) (fun b70 => ?_)
            refine z_raload_n h dX8_go_73 rfl ?_
            refine z_getr h dX8_go_74 fX8_16 L57 rfl ?_
            refine z_raload_n h dX8_go_77 rfl ?_
            refine z_getr h dX8_go_78 fX8_58 L57 rfl ?_
            refine z_iload h dX8_go_81 rfl ?_
            refine z_iald h dX8_go_83 L74 (by decide) (by omega) ?_
            rw [hg]
            refine z_iald h dX8_go_84 L60 (by decide) (by omega) ?_
            rw [pa.1.1]
            refine z_raload_n h dX8_go_85 rfl ?_
            refine z_getr h dX8_go_86 fX8_22 L57 rfl ?_
            refine z_raload_n h dX8_go_89 rfl ?_
            refine z_getr h dX8_go_90 fX8_58 L57 rfl ?_
            refine z_iload h dX8_go_93 rfl ?_
            refine z_iald h dX8_go_95 L74 (by decide) (by omega) ?_
            rw [hg]
            refine z_iald h dX8_go_96 L62 (by decide) (by omega) ?_
            rw [pa.1.2.2]
            refine z_iadd h dX8_go_97 ?_
            refine z_iload h dX8_go_98 rfl ?_
            refine z_icmp_gt h dX8_go_100 (by omega) (by omega) (fun b100 => by exfalso; omega) (fun b100 => ?_)
            refine z_raload_n h dX8_go_103 rfl ?_
            refine z_raload_n h dX8_go_104 rfl ?_
            refine z_getr h dX8_go_105 fX8_58 L57 rfl ?_
            refine z_iload h dX8_go_108 rfl ?_
            refine z_iald h dX8_go_110 L74 (by decide) (by omega) ?_
            rw [hg]
            refine z_iconst h dX8_go_111 ?_
            refine z_iload h dX8_go_112 rfl ?_
            refine z_cVv3 h dX8_go_114 lX8_174 vX8_end rfl L57 (c_X8_end σ2 x 1 t (by omega)) rfl (Nat.le_of_ble_eq_true rfl) (by decide) (fun σ3 k1 => ?_)
            refine z_raload_n h dX8_go_117 rfl ?_
            refine z_iload h dX8_go_118 rfl ?_
            refine z_cVv1 h dX8_go_120 lX8_178 vX8_takeOut rfl L57 (c_X8_takeOut σ3 _ P.1.length (by (subst k1; exact ⟨by rw [zup_ne (by omega), zup_ne (by omega)]; exact g2.1.1, g2.1.2.1, fun j y hj => by rw [zup_ne (by omega), zup_ne (by omega)]; exact g2.1.2.2.1 j y hj, g2.1.2.2.2⟩)) k hlc) rfl (Nat.le_of_ble_eq_true rfl) (by decide) (fun σ4 k2 => ?_)
            refine z_iinc h dX8_go_123 (by decide) rfl (zst1_5 rfl) ?_
            refine z_goto h dX8_go_126 ?_
            subst k1
            rw [away_out hlt hxe] at k2
            have e3 : (s0.1.drop k).filter (fun i => !gG P t i) = (s0.1.drop (k + 1)).filter (fun i => !gG P t i) := by rw [hd, List.filter_cons, if_neg (by simp [e])]
            refine ihk (fun i => if i = x then 1 else how i) (fun i => if i = x then t else whn i) σ4 (by omega) (mKp_tr g1 ⟨fun c c1 c2 c3 c4 i => by rw [k2.1 c c1 c2, zup_ne c4, zup_ne c3], fun i i1 i2 => by rw [k2.2.1 i i1, zup_ne (by omega), zup_ne (by omega)]⟩) ⟨by rw [e3]; exact k2.2.2, mEnd_up g2.2.1 x 1 t (by omega) ht (fun i => ⟨k2.1 75 (by omega) (by omega) i, k2.1 76 (by omega) (by omega) i⟩), by rw [k2.2.1 31 (by omega), zup_ne (by omega), zup_ne (by omega)]; exact g2.2.2.1, g2.2.2.2.1, g2.2.2.2.2.1, fun y hy => g2.2.2.2.2.2 y ?_⟩ ?_ ?_
            · rw [e3] at hy
              rcases List.mem_append.mp hy with hy | hy
              · exact List.mem_append.mpr (Or.inl (by rw [List.take_succ_eq_append_getElem hlt]; exact List.mem_append.mpr (Or.inl hy)))
              · exact List.mem_append.mpr (Or.inr hy)
            · funext i
              rw [g3, hd]
              by_cases z : i = x
              · subst z; simp [e]
              · simp [z]
            · funext i
              rw [g4, hd]
              by_cases z : i = x
              · subst z; simp [e]
              · simp [z]
          · have e' : ¬ pA P x + pW P x ≤ t := by simpa [gG] using e
            rw [ek]
            refine z_iload h dX8_go_68 rfl ?_
            refine z_if_lt h dX8_go_70 (by omega) (fun b70 => by exfalso; omega) (fun b70 => ?_)
            refine z_raload_n h dX8_go_73 rfl ?_
            refine z_getr h dX8_go_74 fX8_16 L57 rfl ?_
            refine z_raload_n h dX8_go_77 rfl ?_
            refine z_getr h dX8_go_78 fX8_58 L57 rfl ?_
            refine z_iload h dX8_go_81 rfl ?_
            refine z_iald h dX8_go_83 L74 (by decide) (by omega) ?_
            rw [hg]
            refine z_iald h dX8_go_84 L60 (by decide) (by omega) ?_
            rw [pa.1.1]
            refine z_raload_n h dX8_go_85 rfl ?_
            refine z_getr h dX8_go_86 fX8_22 L57 rfl ?_
            refine z_raload_n h dX8_go_89 rfl ?_
            refine z_getr h dX8_go_90 fX8_58 L57 rfl ?_
            refine z_iload h dX8_go_93 rfl ?_
            refine z_iald h dX8_go_95 L74 (by decide) (by omega) ?_
            rw [hg]
            refine z_iald h dX8_go_96 L62 (by decide) (by omega) ?_
            rw [pa.1.2.2]
            refine z_iadd h dX8_go_97 ?_
            refine z_iload h dX8_go_98 rfl ?_
            refine z_icmp_gt h dX8_go_100 (by omega) (by omega) (fun b100 => ?_) (fun b100 => by exfalso; omega)
            refine z_iinc h dX8_go_123 (by decide) rfl (zst1_5 rfl) ?_
            refine z_goto h dX8_go_126 ?_
            have e3 : s0.1.take (k + 1) ++ (s0.1.drop (k + 1)).filter (fun i => !gG P t i) = s0.1.take k ++ (s0.1.drop k).filter (fun i => !gG P t i) := by rw [hd, List.filter_cons, if_pos (by simpa using e), List.take_succ_eq_append_getElem hlt, hxe, List.append_assoc]; rfl
            rw [e3] at g2
            refine ihk how whn σ2 (by omega) g1 g2 ?_ ?_
            · rw [g3, hd]
              funext i
              by_cases z : i = x
              · subst z; simp [e]
              · simp [z]
            · rw [g4, hd]
              funext i
              by_cases z : i = x
              · subst z; simp [e]
              · simp [z]
      have hr1 := h3.1.1
      refine z_iload h dX8_go_54 rfl ?_
      refine z_iload_n h dX8_go_56 rfl ?_
      refine z_icmp_gt h dX8_go_57 (by omega) (by omega) (fun b57 => by exfalso; omega) (fun b57 => ?_)
      refine z_raload_n h dX8_go_60 rfl ?_
      refine y_get 28 h dX8_go_61 fX8_145 L57 rfl rfl ?_
      refine z_iconst h dX8_go_64 ?_
      refine z_isub h dX8_go_65 ?_
      rw [hr1]
      refine z_ist1 h dX8_go_66 (by decide) (zst1_5 rfl) ?_
      refine K68 s0.1.length s0.2.1 s0.2.2.1 σ1 (Nat.le_refl _) h2 ?_ ?_ ?_
      · rw [List.take_of_length_le (Nat.le_refl _), List.drop_eq_nil_of_le (Nat.le_refl _)]
        simpa using h3
      · funext i; simp
      · funext i; simp
  have q1 := hP.1
  have q6 := hP.2.2.2.1.2.2.2.1
  have q6' := qok.2.2.2.2.2.2.1
  have L24 : ∀ (n i : Nat) (σ1 : zM), i + n = P.1.length → mKp σ σ1 → σ1 57 28 = 0 → σ1 57 31 = 0 → (∀ j : Int, 0 ≤ j → j < i → σ1 75 j = 3 ∧ σ1 76 j = 200) → zV Γ σ1 24 [some (zr (zw Γ) 57), some (zi la), some (zi (-1000)), some (zi P.2.2.2.2.2.1), some (zi i), none] [] := by
    intro n
    induction n with
    | zero =>
      intro i σ1 h1 h2 h3 h4 h5
      have q := (mPlan_kp hP h2).1
      refine z_iload h dX8_go_24 rfl ?_
      refine z_raload_n h dX8_go_26 rfl ?_
      refine z_getr h dX8_go_27 fX8_13 L57 rfl ?_
      refine z_iconst h dX8_go_30 ?_
      refine z_iald h dX8_go_31 L59 (by decide) (by omega) ?_
      refine z_icmp_ge h dX8_go_32 (by omega) (by omega) (fun b32 => ?_) (fun b32 => by exfalso; omega)
      refine z_iconst h dX8_go_51 ?_
      refine z_ist1 h dX8_go_52 (by decide) (zst1_4 rfl) ?_
      exact L (la + 1) 0 σ1 none (by omega) h2 ⟨⟨h3, by simp [sRun, sInit], by simp [sRun, sInit], by simp [sRun, sInit], by simp [sRun, sInit]⟩, fun j a b => ⟨h5 j a (by omega), by simp [sRun, sInit]⟩, h4, by simp [sRun, sInit], q6', by simp [sRun, sInit]⟩
    | succ n ih =>
      intro i σ1 h1 h2 h3 h4 h5
      have q := (mPlan_kp hP h2).1
      refine z_iload h dX8_go_24 rfl ?_
      refine z_raload_n h dX8_go_26 rfl ?_
      refine z_getr h dX8_go_27 fX8_13 L57 rfl ?_
      refine z_iconst h dX8_go_30 ?_
      refine z_iald h dX8_go_31 L59 (by decide) (by omega) ?_
      refine z_icmp_ge h dX8_go_32 (by omega) (by omega) (fun b32 => by exfalso; omega) (fun b32 => ?_)
      refine z_raload_n h dX8_go_35 rfl ?_
      refine z_iload h dX8_go_36 rfl ?_
      refine z_iconst h dX8_go_38 ?_
      refine z_sipush h dX8_go_39 (by decide) ?_
      refine z_cVv3 h dX8_go_42 lX8_174 vX8_end rfl L57 (c_X8_end σ1 i 3 200 (by omega)) rfl (Nat.le_of_ble_eq_true rfl) (by decide) (fun σ2 k1 => ?_)
      subst k1
      refine z_iinc h dX8_go_45 (by decide) rfl (zst1_4 rfl) ?_
      refine z_goto h dX8_go_48 ?_
      rw [show (i : Int) + 1 = ((i + 1 : Nat) : Int) by omega]
      refine ih (i + 1) _ (by omega) (mKp_tr h2 ⟨fun c c1 c2 c3 c4 j => by rw [zup_ne c4, zup_ne c3], fun j _ _ => by rw [zup_ne (by omega), zup_ne (by omega)]⟩) (by rw [zup_ne (by omega), zup_ne (by omega)]; exact h3) (by rw [zup_ne (by omega), zup_ne (by omega)]; exact h4) (fun j a b => ?_)
      by_cases e : j = i
      · subst e
        rw [zup_eq, zup_ne (by omega), zup_eq]
        exact ⟨rfl, rfl⟩
      · rw [zup_nei e, zup_nei e, zup_nei e, zup_nei e]
        exact h5 j a (by omega)
  refine z_raload_n h dX8_go_0 rfl ?_
  refine z_iconst h dX8_go_1 ?_
  refine y_put 28 h dX8_go_2 fX8_145 pX8_28 L57 rfl rfl ?_
  refine z_raload_n h dX8_go_5 rfl ?_
  refine z_iconst h dX8_go_6 ?_
  refine y_put 31 h dX8_go_7 fX8_171 pX8_31 L57 rfl rfl ?_
  refine z_sipush h dX8_go_10 (by decide) ?_
  refine z_ist1_n h dX8_go_13 (by decide) (zst1_2 rfl) ?_
  refine z_raload_n h dX8_go_14 rfl ?_
  refine z_getr h dX8_go_15 fX8_34 L57 rfl ?_
  refine z_iconst h dX8_go_18 ?_
  refine z_iald h dX8_go_19 L66 (by decide) (by omega) ?_
  try simp (disch := omega) only [zup_eq, zup_ne, zup_nei]
  rw [q6]
  refine z_ist1_n h dX8_go_20 (by decide) (zst1_3 rfl) ?_
  refine z_iconst h dX8_go_21 ?_
  refine z_ist1 h dX8_go_22 (by decide) (zst1_4 rfl) ?_
  exact L24 P.1.length 0 _ (by omega) ⟨fun c c1 _ _ _ i => by rw [zup_ne c1, zup_ne c1], fun i i1 i2 => by rw [zup_nei i2, zup_nei i1]⟩ (by rw [zup_nei (by omega), zup_eq]) (zup_eq _ _ _ _) (fun j a b => by omega)
