theorem nCnt_ge (f : Nat → Bool) : ∀ n, 0 ≤ (nCnt f n).1
  | 0 => by simp [nCnt]
  | n + 1 => by
    have := nCnt_ge f n
    unfold nCnt
    split
    · show 0 ≤ (nCnt f n).1 + 1
      omega
    · exact this
theorem nCnt_dn {f : Nat → Bool} {N k : Nat} {n first : Int} (h : nCnt f N = ((nCnt f (k + 1)).1 + n, if (nCnt f (k + 1)).1 = 0 then first else (nCnt f (k + 1)).2)) : nCnt f N = ((nCnt f k).1 + (if f k = true then n + 1 else n), if (nCnt f k).1 = 0 then (if f k = true then (k : Int) else first) else (nCnt f k).2) := by
  have h0 := nCnt_ge f k
  rw [h]
  have e : nCnt f (k + 1) = if f k then ((nCnt f k).1 + 1, if (nCnt f k).1 = 0 then (k : Int) else (nCnt f k).2) else nCnt f k := rfl
  cases hf : f k
  · rw [hf] at e
    have e : nCnt f (k + 1) = nCnt f k := e
    rw [e]
    simp
  · rw [hf] at e
    have e : nCnt f (k + 1) = ((nCnt f k).1 + 1, if (nCnt f k).1 = 0 then (k : Int) else (nCnt f k).2) := e
    rw [e]
    simp only [if_true]
    rw [if_neg (by omega)]
    congr 1
    omega
def mTp (σ : zM) (P : zP) (i j : Int) (K : Nat) : Prop := ∀ k : Nat, k < K → (σ 77 k = zTI P i j k ∧ σ 78 k = zTJ P i j k) ∧ 0 ≤ zTI P i j k ∧ zTI P i j k ≤ 200 ∧ 0 ≤ zTJ P i j k ∧ zTJ P i j k ≤ 200
theorem c_X8_game (σ : zM) (S : zSt) (hI : mInv σ S) (i j w : Int) (hi : zok i) (hj : zok j) (hw : zok w) : zCi mX8_game (fun u => [zr u 57, zi i, zi j, zi w]) σ (fun r σ' => r = aGame S i j w ∧ mInv σ' S ∧ zfr 57 79 σ σ') := by
  refine zCi_mk (own := RX8) rfl (by decide +kernel) (fun w0 => [some (zr w0 57), some (zi i), some (zi j), some (zi w), none, none, none, none, none]) (fun _ => rfl) (fun _ => Nat.le_of_ble_eq_true rfl) ?_
  intro Γ h hr
  have hI0 := hI
  obtain ⟨hT, hP, h3, h4, h5, h6, h7⟩ := hI
  have np10 := hP.2.2.2.2.1
  have q3 := hP.2.2.1
  have c1 := q3.1
  have c2 := q3.2.1
  have hi' := hi
  have hj' := hj
  unfold zok at hw hi' hj'
  have pl := pL_ok hP.2.2.2.2
  have bad : ¬ ((0 ≤ i ∧ i < S.2.1.1.length) ∧ (0 ≤ j ∧ j < S.2.1.1.length) ∧ i ≠ j ∧ 0 ≤ w ∧ w ≤ 2) → aGame S i j w = -1 := fun y => if_neg y
  have M : ∀ (σ1 : zM), (0 ≤ i ∧ i < S.2.1.1.length) ∧ (0 ≤ j ∧ j < S.2.1.1.length) ∧ i ≠ j ∧ 0 ≤ w ∧ w ≤ 2 → mGo σ σ1 → mTp σ1 S.2.1 i j 144 → ∀ (k : Nat) (n first : Int) (l7 l8 : Option Value), k ≤ 144 → 0 ≤ n ∧ n ≤ 144 - k → (first = -4 ∧ n = 0) ∨ (0 ≤ first ∧ first < 144 ∧ 0 < n) → nCnt (zRs S.2.1 i j) 144 = ((nCnt (zRs S.2.1 i j) k).1 + n, if (nCnt (zRs S.2.1 i j) k).1 = 0 then first else (nCnt (zRs S.2.1 i j) k).2) → zV Γ σ1 127 [some (zr (zw Γ) 57), some (zi i), some (zi j), some (zi w), some (zi n), some (zi first), some (zi ((k : Int) - 1)), l7, l8] [] := by
    intro σ1 hc hg ht k
    have ha : aGame S i j w = (if w = 0 then (nCnt (zRs S.2.1 i j) 144).1 else if (nCnt (zRs S.2.1 i j) 144).1 = 0 then -4 else if w = 1 then (nCnt (zRs S.2.1 i j) 144).2 / 12 else (nCnt (zRs S.2.1 i j) 144).2 % 12) := if_pos hc
    induction k with
    | zero =>
      intro n first l7 l8 h1 h2 h3' h4'
      have h4' : nCnt (zRs S.2.1 i j) 144 = (n, first) := by
        rw [h4']
        show (0 + n, if (0 : Int) = 0 then first else _) = _
        rw [if_pos rfl, Int.zero_add]
      rw [h4'] at ha
      have ha : aGame S i j w = (if w = 0 then n else if n = 0 then -4 else if w = 1 then first / 12 else first % 12) := ha
      refine z_iload h dX8_game_127 rfl ?_
      refine z_if_lt h dX8_game_129 (by omega) (fun b129 => ?_) (fun b129 => by exfalso; omega)
      refine z_iload_n h dX8_game_250 rfl ?_
      refine z_if_ne h dX8_game_251 (by omega) (fun b251 => ?_) (fun b251 => ?_)
      · refine z_iload h dX8_game_259 rfl ?_
        refine z_if_ge h dX8_game_261 (by omega) (fun b261 => ?_) (fun b261 => ?_)
        · refine z_iload_n h dX8_game_269 rfl ?_
          refine z_iconst h dX8_game_270 ?_
          refine z_icmp_ne h dX8_game_271 (by omega) (by omega) (fun b271 => ?_) (fun b271 => ?_)
          · refine z_iload h dX8_game_282 rfl ?_
            refine z_bipush h dX8_game_284 (by decide) ?_
            refine z_irem h dX8_game_286 (by omega) (by omega) ?_
            refine z_irI h hr dX8_game_287 ?_
            refine ⟨?_, mInv_go hI0 hg, mGo_fr hg⟩
            rw [ha]
            first
              | (rw [if_pos (by omega)]; done)
              | (rw [if_neg (by omega), if_pos (by omega)]; done)
              | (rw [if_neg (by omega), if_neg (by omega), if_pos (by omega)]; done)
              | (rw [if_neg (by omega), if_neg (by omega), if_neg (by omega)]; done)
          · refine z_iload h dX8_game_274 rfl ?_
            refine z_bipush h dX8_game_276 (by decide) ?_
            refine z_idiv h dX8_game_278 (by omega) (by omega) ?_
            refine z_goto h dX8_game_279 ?_
            refine z_irI h hr dX8_game_287 ?_
            refine ⟨?_, mInv_go hI0 hg, mGo_fr hg⟩
            rw [ha]
            first
              | (rw [if_pos (by omega)]; done)
              | (rw [if_neg (by omega), if_pos (by omega)]; done)
              | (rw [if_neg (by omega), if_neg (by omega), if_pos (by omega)]; done)
              | (rw [if_neg (by omega), if_neg (by omega), if_neg (by omega)]; done)
        · refine z_bipush h dX8_game_264 (by decide) ?_
          refine z_goto h dX8_game_266 ?_
          refine z_irI h hr dX8_game_287 ?_
          refine ⟨?_, mInv_go hI0 hg, mGo_fr hg⟩
          rw [ha]
          first
            | (rw [if_pos (by omega)]; done)
            | (rw [if_neg (by omega), if_pos (by omega)]; done)
            | (rw [if_neg (by omega), if_neg (by omega), if_pos (by omega)]; done)
            | (rw [if_neg (by omega), if_neg (by omega), if_neg (by omega)]; done)
      · refine z_iload h dX8_game_254 rfl ?_
        refine z_goto h dX8_game_256 ?_
        refine z_irI h hr dX8_game_287 ?_
        refine ⟨?_, mInv_go hI0 hg, mGo_fr hg⟩
        rw [ha]
        first
          | (rw [if_pos (by omega)]; done)
          | (rw [if_neg (by omega), if_pos (by omega)]; done)
          | (rw [if_neg (by omega), if_neg (by omega), if_pos (by omega)]; done)
          | (rw [if_neg (by omega), if_neg (by omega), if_neg (by omega)]; done)
    | succ k ih =>
      intro n first l7 l8 h1 h2 h3' h4'
      have h5' := nCnt_dn h4'
      have tk := ht k (by omega)
      have ek : ((k + 1 : Nat) : Int) - 1 = k := by omega
      have Q : ∀ (m o : Nat) (v : Int), o + m = 12 → (v = 0 ∨ v = 1) → (v = 1 ↔ zRf S.2.1 i j k o = true) → zV Γ σ1 138 [some (zr (zw Γ) 57), some (zi i), some (zi j), some (zi w), some (zi n), some (zi first), some (zi k), some (zi v), some (zi o)] [] := by
        intro m
        induction m with
        | zero =>
          intro o v g1 g2 g3
          have e : o = 12 := by omega
          subst e
          have g3 : v = 1 ↔ zRs S.2.1 i j k = true := g3
          refine z_iload h dX8_game_138 rfl ?_
          refine z_bipush h dX8_game_140 (by decide) ?_
          refine z_icmp_ge h dX8_game_142 (by omega) (by omega) (fun b142 => ?_) (fun b142 => by exfalso; omega)
          refine z_iload h dX8_game_215 rfl ?_
          refine z_iload h dX8_game_217 rfl ?_
          refine z_if_eq h dX8_game_219 (by omega) (fun b219 => ?_) (fun b219 => ?_)
          · refine z_iconst h dX8_game_226 ?_
            refine z_iadd h dX8_game_227 ?_
            refine z_ist1 h dX8_game_228 (by decide) (zst1_4 rfl) ?_
            refine z_iload h dX8_game_230 rfl ?_
            refine z_if_eq h dX8_game_232 (by omega) (fun b232 => ?_) (fun b232 => ?_)
            · refine z_iload h dX8_game_240 rfl ?_
              refine z_ist1 h dX8_game_242 (by decide) (zst1_5 rfl) ?_
              refine z_iinc h dX8_game_244 (by decide) rfl (zst1_6 rfl) ?_
              refine z_goto h dX8_game_247 ?_
              rw [show (k : Int) + -1 = (k : Int) - 1 by omega]
              first
                | (exfalso; omega)
                | (rw [if_pos (g3.mp (by omega)), if_pos (g3.mp (by omega))] at h5'
                   exact ih (n + 1) k _ _ (by omega) (by omega) (Or.inr (by omega)) h5')
                | (have g4 : ¬ zRs S.2.1 i j k = true := fun z => by have := g3.mpr z; omega
                   rw [if_neg g4, if_neg g4] at h5'
                   rw [show n + 0 = n by omega]
                   exact ih n first _ _ (by omega) (by omega) h3' h5')
            · refine z_iload h dX8_game_235 rfl ?_
              refine z_goto h dX8_game_237 ?_
              refine z_ist1 h dX8_game_242 (by decide) (zst1_5 rfl) ?_
              refine z_iinc h dX8_game_244 (by decide) rfl (zst1_6 rfl) ?_
              refine z_goto h dX8_game_247 ?_
              rw [show (k : Int) + -1 = (k : Int) - 1 by omega]
              first
                | (exfalso; omega)
                | (rw [if_pos (g3.mp (by omega)), if_pos (g3.mp (by omega))] at h5'
                   exact ih (n + 1) k _ _ (by omega) (by omega) (Or.inr (by omega)) h5')
                | (have g4 : ¬ zRs S.2.1 i j k = true := fun z => by have := g3.mpr z; omega
                   rw [if_neg g4, if_neg g4] at h5'
                   rw [show n + 0 = n by omega]
                   exact ih n first _ _ (by omega) (by omega) h3' h5')
          · refine z_iconst h dX8_game_222 ?_
            refine z_goto h dX8_game_223 ?_
            refine z_iadd h dX8_game_227 ?_
            refine z_ist1 h dX8_game_228 (by decide) (zst1_4 rfl) ?_
            refine z_iload h dX8_game_230 rfl ?_
            refine z_if_eq h dX8_game_232 (by omega) (fun b232 => ?_) (fun b232 => ?_)
            · refine z_iload h dX8_game_240 rfl ?_
              refine z_ist1 h dX8_game_242 (by decide) (zst1_5 rfl) ?_
              refine z_iinc h dX8_game_244 (by decide) rfl (zst1_6 rfl) ?_
              refine z_goto h dX8_game_247 ?_
              rw [show (k : Int) + -1 = (k : Int) - 1 by omega]
              first
                | (exfalso; omega)
                | (rw [if_pos (g3.mp (by omega)), if_pos (g3.mp (by omega))] at h5'
                   exact ih (n + 1) k _ _ (by omega) (by omega) (Or.inr (by omega)) h5')
                | (have g4 : ¬ zRs S.2.1 i j k = true := fun z => by have := g3.mpr z; omega
                   rw [if_neg g4, if_neg g4] at h5'
                   rw [show n + 0 = n by omega]
                   exact ih n first _ _ (by omega) (by omega) h3' h5')
            · refine z_iload h dX8_game_235 rfl ?_
              refine z_goto h dX8_game_237 ?_
              refine z_ist1 h dX8_game_242 (by decide) (zst1_5 rfl) ?_
              refine z_iinc h dX8_game_244 (by decide) rfl (zst1_6 rfl) ?_
              refine z_goto h dX8_game_247 ?_
              rw [show (k : Int) + -1 = (k : Int) - 1 by omega]
              first
                | (exfalso; omega)
                | (rw [if_pos (g3.mp (by omega)), if_pos (g3.mp (by omega))] at h5'
                   exact ih (n + 1) k _ _ (by omega) (by omega) (Or.inr (by omega)) h5')
                | (have g4 : ¬ zRs S.2.1 i j k = true := fun z => by have := g3.mpr z; omega
                   rw [if_neg g4, if_neg g4] at h5'
                   rw [show n + 0 = n by omega]
                   exact ih n first _ _ (by omega) (by omega) h3' h5')
        | succ m ihm =>
          intro o v g1 g2 g3
          have e1 : (12 : Int) * o + (k : Int) % 12 = ((12 * o + k % 12 : Nat) : Int) := by omega
          have e2 : (k : Int) / 12 * 12 + o = ((k / 12 * 12 + o : Nat) : Int) := by omega
          have t1 := ht (12 * o + k % 12) (by omega)
          have t2 := ht (k / 12 * 12 + o) (by omega)
          have hz : zRf S.2.1 i j k (o + 1) = true ↔ (zRf S.2.1 i j k o = true ∧ zTI S.2.1 i j k ≤ zTI S.2.1 i j (12 * o + k % 12) ∧ zTJ S.2.1 i j k ≤ zTJ S.2.1 i j (k / 12 * 12 + o)) := by
            rw [zRf]
            simp
          refine z_iload h dX8_game_138 rfl ?_
          refine z_bipush h dX8_game_140 (by decide) ?_
          refine z_icmp_ge h dX8_game_142 (by omega) (by omega) (fun b142 => by exfalso; omega) (fun b142 => ?_)
          refine z_iload h dX8_game_145 rfl ?_
          refine z_if_eq h dX8_game_147 (by omega) (fun b147 => ?_) (fun b147 => ?_)
          · refine z_iconst h dX8_game_206 ?_
            refine z_ist1 h dX8_game_207 (by decide) (zst1_7 rfl) ?_
            refine z_iinc h dX8_game_209 (by decide) rfl (zst1_8 rfl) ?_
            refine z_goto h dX8_game_212 ?_
            rw [show (o : Int) + 1 = ((o + 1 : Nat) : Int) by omega]
            first
              | exact ihm (o + 1) 1 (by omega) (Or.inr rfl) ⟨fun _ => hz.mpr ⟨g3.mp (by omega), by omega, by omega⟩, fun _ => rfl⟩
              | exact ihm (o + 1) 0 (by omega) (Or.inl rfl) ⟨fun z => by omega, fun z => by have z := hz.mp z; have := g3.mpr z.1; omega⟩
          · refine z_raload_n h dX8_game_150 rfl ?_
            refine z_getr h dX8_game_151 fX8_67 L57 rfl ?_
            refine z_bipush h dX8_game_154 (by decide) ?_
            refine z_iload h dX8_game_156 rfl ?_
            refine z_imul h dX8_game_158 ?_
            refine z_iload h dX8_game_159 rfl ?_
            refine z_bipush h dX8_game_161 (by decide) ?_
            refine z_irem h dX8_game_163 (by omega) (by omega) ?_
            refine z_iadd h dX8_game_164 ?_
            rw [e1]
            refine z_iald h dX8_game_165 L77 (by decide) (by omega) ?_
            rw [t1.1.1]
            refine z_raload_n h dX8_game_166 rfl ?_
            refine z_getr h dX8_game_167 fX8_67 L57 rfl ?_
            refine z_iload h dX8_game_170 rfl ?_
            refine z_iald h dX8_game_172 L77 (by decide) (by omega) ?_
            rw [tk.1.1]
            refine z_icmp_lt h dX8_game_173 (by omega) (by omega) (fun b173 => ?_) (fun b173 => ?_)
            · refine z_iconst h dX8_game_206 ?_
              refine z_ist1 h dX8_game_207 (by decide) (zst1_7 rfl) ?_
              refine z_iinc h dX8_game_209 (by decide) rfl (zst1_8 rfl) ?_
              refine z_goto h dX8_game_212 ?_
              rw [show (o : Int) + 1 = ((o + 1 : Nat) : Int) by omega]
              first
                | exact ihm (o + 1) 1 (by omega) (Or.inr rfl) ⟨fun _ => hz.mpr ⟨g3.mp (by omega), by omega, by omega⟩, fun _ => rfl⟩
                | exact ihm (o + 1) 0 (by omega) (Or.inl rfl) ⟨fun z => by omega, fun z => by have z := hz.mp z; have := g3.mpr z.1; omega⟩
            · refine z_raload_n h dX8_game_176 rfl ?_
              refine z_getr h dX8_game_177 fX8_70 L57 rfl ?_
              refine z_iload h dX8_game_180 rfl ?_
              refine z_bipush h dX8_game_182 (by decide) ?_
              refine z_idiv h dX8_game_184 (by omega) (by omega) ?_
              refine z_bipush h dX8_game_185 (by decide) ?_
              refine z_imul h dX8_game_187 ?_
              refine z_iload h dX8_game_188 rfl ?_
              refine z_iadd h dX8_game_190 ?_
              rw [e2]
              refine z_iald h dX8_game_191 L78 (by decide) (by omega) ?_
              rw [t2.1.2]
              refine z_raload_n h dX8_game_192 rfl ?_
              refine z_getr h dX8_game_193 fX8_70 L57 rfl ?_
              refine z_iload h dX8_game_196 rfl ?_
              refine z_iald h dX8_game_198 L78 (by decide) (by omega) ?_
              rw [tk.1.2]
              refine z_icmp_lt h dX8_game_199 (by omega) (by omega) (fun b199 => ?_) (fun b199 => ?_)
              · refine z_iconst h dX8_game_206 ?_
                refine z_ist1 h dX8_game_207 (by decide) (zst1_7 rfl) ?_
                refine z_iinc h dX8_game_209 (by decide) rfl (zst1_8 rfl) ?_
                refine z_goto h dX8_game_212 ?_
                rw [show (o : Int) + 1 = ((o + 1 : Nat) : Int) by omega]
                first
                  | exact ihm (o + 1) 1 (by omega) (Or.inr rfl) ⟨fun _ => hz.mpr ⟨g3.mp (by omega), by omega, by omega⟩, fun _ => rfl⟩
                  | exact ihm (o + 1) 0 (by omega) (Or.inl rfl) ⟨fun z => by omega, fun z => by have z := hz.mp z; have := g3.mpr z.1; omega⟩
              · refine z_iconst h dX8_game_202 ?_
                refine z_goto h dX8_game_203 ?_
                refine z_ist1 h dX8_game_207 (by decide) (zst1_7 rfl) ?_
                refine z_iinc h dX8_game_209 (by decide) rfl (zst1_8 rfl) ?_
                refine z_goto h dX8_game_212 ?_
                rw [show (o : Int) + 1 = ((o + 1 : Nat) : Int) by omega]
                first
                  | exact ihm (o + 1) 1 (by omega) (Or.inr rfl) ⟨fun _ => hz.mpr ⟨g3.mp (by omega), by omega, by omega⟩, fun _ => rfl⟩
                  | exact ihm (o + 1) 0 (by omega) (Or.inl rfl) ⟨fun z => by omega, fun z => by have z := hz.mp z; have := g3.mpr z.1; omega⟩
      rw [ek]
      refine z_iload h dX8_game_127 rfl ?_
      refine z_if_lt h dX8_game_129 (by omega) (fun b129 => by exfalso; omega) (fun b129 => ?_)
      refine z_iconst h dX8_game_132 ?_
      refine z_ist1 h dX8_game_133 (by decide) (zst1_7 rfl) ?_
      refine z_iconst h dX8_game_135 ?_
      refine z_ist1 h dX8_game_136 (by decide) (zst1_8 rfl) ?_
      exact Q 12 0 1 (by omega) (Or.inr rfl) ⟨fun _ => rfl, fun _ => rfl⟩
  have L : ∀ (n k : Nat) (σ1 : zM), k + n = 144 → (0 ≤ i ∧ i < S.2.1.1.length) ∧ (0 ≤ j ∧ j < S.2.1.1.length) ∧ i ≠ j ∧ 0 ≤ w ∧ w ≤ 2 → mGo σ σ1 → (σ1 57 20 = 255 ∧ σ1 57 21 = i ∧ σ1 57 23 = j ∧ σ1 57 25 = pL S.2.1 ∧ σ1 57 26 = -4) → mTp σ1 S.2.1 i j k → zV Γ σ1 52 [some (zr (zw Γ) 57), some (zi i), some (zi j), some (zi w), some (zi k), none, none, none, none] [] := by
    intro n
    induction n with
    | zero =>
      intro k σ1 j1 j2 j3 j4 j5
      have e : k = 144 := by omega
      subst e
      refine z_iload h dX8_game_52 rfl ?_
      refine z_sipush h dX8_game_54 (by decide) ?_
      refine z_icmp_ge h dX8_game_57 (by omega) (by omega) (fun b57 => ?_) (fun b57 => by exfalso; omega)
      refine z_iconst h dX8_game_115 ?_
      refine z_ist1 h dX8_game_116 (by decide) (zst1_4 rfl) ?_
      refine z_bipush h dX8_game_118 (by decide) ?_
      refine z_ist1 h dX8_game_120 (by decide) (zst1_5 rfl) ?_
      refine z_sipush h dX8_game_122 (by decide) ?_
      refine z_ist1 h dX8_game_125 (by decide) (zst1_6 rfl) ?_
      exact M σ1 j2 j3 j5 144 0 (-4) none none (by omega) (by omega) (Or.inl ⟨rfl, rfl⟩) (by
      have h0 := nCnt_ge (zRs S.2.1 i j) 144
      have hz : ∀ m, (nCnt (zRs S.2.1 i j) m).1 = 0 → (nCnt (zRs S.2.1 i j) m).2 = -4 := by
        intro m
        induction m with
        | zero => intro _; rfl
        | succ m ihm =>
          have hg := nCnt_ge (zRs S.2.1 i j) m
          unfold nCnt
          split
          · intro z
            have z : (nCnt (zRs S.2.1 i j) m).1 + 1 = 0 := z
            omega
          · exact ihm
      by_cases e : (nCnt (zRs S.2.1 i j) 144).1 = 0
      · rw [if_pos e, Int.add_zero]
        conv => lhs; rw [← Prod.eta (nCnt (zRs S.2.1 i j) 144)]
        rw [hz 144 e]
      · rw [if_neg e, Int.add_zero])
    | succ n ih =>
      intro k σ1 j1 j2 j3 j4 j5
      have e1 : (k : Int) / 12 = ((k / 12 : Nat) : Int) := by omega
      have e2 : (k : Int) % 12 = ((k % 12 : Nat) : Int) := by omega
      refine z_iload h dX8_game_52 rfl ?_
      refine z_sipush h dX8_game_54 (by decide) ?_
      refine z_icmp_ge h dX8_game_57 (by omega) (by omega) (fun b57 => by exfalso; omega) (fun b57 => ?_)
      refine z_raload_n h dX8_game_60 rfl ?_
      refine z_iload h dX8_game_61 rfl ?_
      refine z_bipush h dX8_game_63 (by decide) ?_
      refine z_idiv h dX8_game_65 (by omega) (by omega) ?_
      rw [e1]
      refine y_put 22 h dX8_game_66 fX8_161 pX8_22 L57 rfl rfl ?_
      refine z_raload_n h dX8_game_69 rfl ?_
      refine z_iload h dX8_game_70 rfl ?_
      refine z_bipush h dX8_game_72 (by decide) ?_
      refine z_irem h dX8_game_74 (by omega) (by omega) ?_
      rw [e2]
      refine y_put 24 h dX8_game_75 fX8_164 pX8_24 L57 rfl rfl ?_
      refine z_raload_n h dX8_game_78 rfl ?_
      refine z_sipush h dX8_game_79 (by decide) ?_
      refine z_cVv1 h dX8_game_82 lX8_193 vX8_go rfl L57 (c_X8_go (zup (zup σ1 57 22 ((k / 12 : Nat) : Int)) 57 24 ((k % 12 : Nat) : Int)) S.2.1 (mPlan_go hP (mGo_up (mGo_up j3 (by omega)) (by omega))) (pL S.2.1, 0, [(i, ((k / 12 : Nat) : Int)), (j, ((k % 12 : Nat) : Int))], -1) (mMd_2 (hd := 255) ⟨by rw [zup_nei (by omega), zup_nei (by omega)]; exact j4.2.2.2.1, pl⟩ ⟨by rw [zup_nei (by omega), zup_nei (by omega)]; exact j4.1, by decide⟩ bits_0 (Or.inl ⟨rfl, by rw [zup_nei (by omega), zup_nei (by omega)]; exact j4.2.2.2.2⟩) ⟨by rw [zup_nei (by omega), zup_nei (by omega)]; exact j4.2.1, by omega⟩ ⟨by rw [zup_nei (by omega), zup_eq], by omega⟩ ⟨by rw [zup_nei (by omega), zup_nei (by omega)]; exact j4.2.2.1, by omega⟩ ⟨zup_eq _ _ _ _, by omega⟩) 199 (by omega)) rfl (Nat.le_of_ble_eq_true rfl) (by decide) (fun σ2 k1 => ?_)
      have k2 := mGo_tr (mGo_up (i := 24) (v := ((k % 12 : Nat) : Int)) (mGo_up (i := 22) (v := ((k / 12 : Nat) : Int)) j3 (by omega)) (by omega)) (mGo_kp k1.1)
      have k3 : ∀ q : Int, q ≠ 28 → q ≠ 31 → q ≠ 22 → q ≠ 24 → σ2 57 q = σ1 57 q := fun q a b c d => by rw [k1.1.2 q a b, zup_nei d, zup_nei c]
      have k4 := k1.2.2.1
      refine z_raload_n h dX8_game_85 rfl ?_
      refine z_getr h dX8_game_86 fX8_67 L57 rfl ?_
      refine z_iload h dX8_game_89 rfl ?_
      refine z_raload_n h dX8_game_91 rfl ?_
      refine z_iload_n h dX8_game_92 rfl ?_
      refine z_cVi1 h dX8_game_93 lX8_214 vX8_timeOf rfl L57 (c_X8_timeOf σ2 (zFn S.2.1 (pL S.2.1) 0 [(i, ((k / 12 : Nat) : Int)), (j, ((k % 12 : Nat) : Int))]) S.2.1.1.length k4 i np10 j2.1) rfl (Nat.le_of_ble_eq_true rfl) (by decide) (fun v σ3 k5 => ?_)
      obtain ⟨k5, k6, e5⟩ := k5
      rw [e5]
      refine z_iast h dX8_game_96 L77 (by decide) (by omega) ?_
      refine z_raload_n h dX8_game_97 rfl ?_
      refine z_getr h dX8_game_98 fX8_70 L57 rfl ?_
      refine z_iload h dX8_game_101 rfl ?_
      refine z_raload_n h dX8_game_103 rfl ?_
      refine z_iload_n h dX8_game_104 rfl ?_
      refine z_cVi1 h dX8_game_105 lX8_214 vX8_timeOf rfl L57 (c_X8_timeOf (zup σ2 77 k v) (zFn S.2.1 (pL S.2.1) 0 [(i, ((k / 12 : Nat) : Int)), (j, ((k % 12 : Nat) : Int))]) S.2.1.1.length (fun q a b => by rw [zup_ne (by omega), zup_ne (by omega)]; exact k4 q a b) j np10 j2.2.1) rfl (Nat.le_of_ble_eq_true rfl) (by decide) (fun v2 σ4 k7 => ?_)
      obtain ⟨k7, k8, e7⟩ := k7
      rw [e7]
      refine z_iast h dX8_game_108 L78 (by decide) (by omega) ?_
      refine z_iinc h dX8_game_109 (by decide) rfl (zst1_4 rfl) ?_
      refine z_goto h dX8_game_112 ?_
      rw [show (k : Int) + 1 = ((k + 1 : Nat) : Int) by omega]
      refine ih (k + 1) _ (by omega) j2 (mGo_ua (mGo_ua k2 (by omega)) (by omega)) ?_ (fun q hq => ?_)
      · simp (disch := omega) only [zup_ne]
        rw [k3 20 (by omega) (by omega) (by omega) (by omega), k3 21 (by omega) (by omega) (by omega) (by omega), k3 23 (by omega) (by omega) (by omega) (by omega), k3 25 (by omega) (by omega) (by omega) (by omega), k3 26 (by omega) (by omega) (by omega) (by omega)]
        exact j4
      · by_cases e : q = k
        · subst e
          have h1 : zTI S.2.1 i j q = v := k5.symm
          have h2 : zTJ S.2.1 i j q = v2 := k7.symm
          rw [zup_eq, zup_ne (by omega), zup_eq, h1, h2]
          exact ⟨⟨rfl, rfl⟩, by omega⟩
        · rw [zup_nei (by omega), zup_nei (by omega), zup_nei (by omega), zup_nei (by omega), k1.1.1 77 (by omega) (by omega) (by omega) (by omega), k1.1.1 78 (by omega) (by omega) (by omega) (by omega), zup_ne (by omega), zup_ne (by omega), zup_ne (by omega), zup_ne (by omega)]
          exact j5 q (by omega)
  refine z_raload_n h dX8_game_0 rfl ?_
  refine z_iload_n h dX8_game_1 rfl ?_
  refine z_cVi1 h dX8_game_2 lX8_196 vX8_isPerson rfl L57 (c_X8_isPerson σ S.2.1 hP i hi) rfl (Nat.le_of_ble_eq_true rfl) (by decide) (fun v σ1 g1 => ?_)
  obtain ⟨g1, e1⟩ := g1
  rw [e1]
  refine z_if_eq h dX8_game_5 (by omega) (fun b5 => ?_) (fun b5 => ?_)
  · refine z_iconst h dX8_game_33 ?_
    refine z_irI h hr dX8_game_34 ?_
    rw [bad (by omega)]
    exact ⟨rfl, hI0, zfr_rf⟩
  · refine z_raload_n h dX8_game_8 rfl ?_
    refine z_iload_n h dX8_game_9 rfl ?_
    refine z_cVi1 h dX8_game_10 lX8_196 vX8_isPerson rfl L57 (c_X8_isPerson σ S.2.1 hP j hj) rfl (Nat.le_of_ble_eq_true rfl) (by decide) (fun v' σ1' g1' => ?_)
    obtain ⟨g1', e1'⟩ := g1'
    rw [e1']
    refine z_if_eq h dX8_game_13 (by omega) (fun b13 => ?_) (fun b13 => ?_)
    · refine z_iconst h dX8_game_33 ?_
      refine z_irI h hr dX8_game_34 ?_
      rw [bad (by omega)]
      exact ⟨rfl, hI0, zfr_rf⟩
    · refine z_iload_n h dX8_game_16 rfl ?_
      refine z_iload_n h dX8_game_17 rfl ?_
      refine z_icmp_eq h dX8_game_18 (by omega) (by omega) (fun b18 => ?_) (fun b18 => ?_)
      · refine z_iconst h dX8_game_33 ?_
        refine z_irI h hr dX8_game_34 ?_
        rw [bad (by omega)]
        exact ⟨rfl, hI0, zfr_rf⟩
      · refine z_iload_n h dX8_game_21 rfl ?_
        refine z_i2l h dX8_game_22 (by omega) ?_
        refine z_lconst (x := 0) h dX8_game_23 (by decide) ?_
        refine z_ldc2 (x := 2) h dX8_game_24 kX8_104 (by decide) ?_
        refine z_cSi3 h dX8_game_27 lX8_83 vX8_in (c_X8_in _ w (0) (2) (by unfold zlo; omega) (by unfold zlo; omega) (by unfold zlo; omega)) rfl (Nat.le_of_ble_eq_true rfl) (by decide) (fun v2 σ2 g2 => ?_)
        obtain ⟨g2, e2⟩ := g2
        rw [e2]
        refine z_if_ne h dX8_game_30 (by omega) (fun b30 => ?_) (fun b30 => ?_)
        · refine z_raload_n h dX8_game_35 rfl ?_
          refine z_cVv0 h dX8_game_36 lX8_190 vX8_asItIs rfl L57 (c_X8_asItIs σ S.2.1 hP) rfl (Nat.le_of_ble_eq_true rfl) (by decide) (fun σ3 g3 => ?_)
          refine z_raload_n h dX8_game_39 rfl ?_
          refine z_iload_n h dX8_game_40 rfl ?_
          refine y_put 21 h dX8_game_41 fX8_133 pX8_21 L57 rfl rfl ?_
          refine z_raload_n h dX8_game_44 rfl ?_
          refine z_iload_n h dX8_game_45 rfl ?_
          refine y_put 23 h dX8_game_46 fX8_136 pX8_23 L57 rfl rfl ?_
          refine z_iconst h dX8_game_49 ?_
          refine z_ist1 h dX8_game_50 (by decide) (zst1_4 rfl) ?_
          exact L 144 0 _ (by omega) (by omega) (mGo_up (mGo_up g3.1 (by omega)) (by omega)) ⟨by rw [zup_nei (by omega), zup_nei (by omega)]; exact g3.2.1, by rw [zup_nei (by omega), zup_eq], zup_eq _ _ _ _, by rw [zup_nei (by omega), zup_nei (by omega)]; exact g3.2.2.2.2.1, by rw [zup_nei (by omega), zup_nei (by omega)]; exact g3.2.2.2.2.2⟩ (fun q hq => by omega)
        · refine z_iconst h dX8_game_33 ?_
          refine z_irI h hr dX8_game_34 ?_
          rw [bad (by omega)]
          exact ⟨rfl, hI0, zfr_rf⟩
