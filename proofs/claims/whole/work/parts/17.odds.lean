/-! ===== odds ===== -/
def oT (x : Int) (w : List Int) : List Int := (List.range w.length).map (fun p => (10 - x) * w.getD p 0 + x * w.getD (w.length - 1 - p) 0)
def oS (x : Int) : Nat → List Int → Int → List Int
  | 0, _, _ => []
  | f + 1, w, pt => (oT x w).getD 0 0 * (pt / 10) :: oS x f ((oT x w).drop 1) (pt / 10)
def oW0 (n k : Nat) : List Int := (List.range n).map (fun p => if p = k then 1 else 0)
def oA (n k x : Nat) (t : Nat) : Int := (oS x n (oW0 n k) 1000000000).getD t 0
def zsum (f : Nat → Int) : Nat → Int
  | 0 => 0
  | t + 1 => zsum f t + f t
theorem oT_len (x : Int) (w : List Int) : (oT x w).length = w.length := by simp [oT]
theorem oT_at (x : Int) (w : List Int) (p : Nat) (h : p < w.length) : (oT x w)[p]? = some ((10 - x) * w.getD p 0 + x * w.getD (w.length - 1 - p) 0) := by
  unfold oT
  rw [List.getElem?_map, List.getElem?_range h]
  rfl
theorem zgetD {l : List Int} {k : Nat} {v : Int} (h : l[k]? = some v) : l.getD k 0 = v := by rw [List.getD_eq_getElem?_getD, h]; rfl
theorem zgetS {l : List Int} {k : Nat} (h : k < l.length) : l[k]? = some (l.getD k 0) := by rw [List.getD_eq_getElem?_getD, List.getElem?_eq_getElem h]; rfl
theorem oS_len (x : Int) : ∀ (f : Nat) (w : List Int) (pt : Int), (oS x f w pt).length = f
  | 0, _, _ => rfl
  | f + 1, w, pt => by simp [oS, oS_len x f]
theorem c_X3_findChances (σ : zM) (n k x : Nat) (hn : 1 ≤ n ∧ n ≤ 9) (hk : k < n) (hx : x ≤ 10) : zCv mX3_findChances (fun u => [zr u 23, zi n, zi k, zi x]) σ (fun σ' => zfr 24 26 σ σ' ∧ ∀ t : Nat, t < 9 → σ' 26 t = oA n k x t) := by
  refine zCv_mk (own := RX3) rfl (by decide +kernel) (fun w => [some (zr w 23), some (zi n), some (zi k), some (zi x), none, none, none, none, none]) (fun _ => rfl) (fun _ => Nat.le_of_ble_eq_true rfl) ?_
  intro Γ h hr
  -- the minutes
  have L2 : ∀ (r t : Nat) (σ1 : zM) (w acc : List Int) (pt : Int) (l7 l8 : Option Value), t + r = n → w.length = r → acc.length = t → zc1 l7 = true → 0 ≤ pt ∧ pt ≤ 1000000000 → (∀ (p : Nat) v, w[p]? = some v → σ1 24 p = v) → (∀ (j : Nat) v, acc[j]? = some v → σ1 26 j = v) → (∀ j : Nat, t ≤ j → j < 9 → σ1 26 j = 0) → zfr 24 26 σ σ1 → oS x n (oW0 n k) 1000000000 = acc ++ oS x r w pt → zV Γ σ1 50 [some (zr (zw Γ) 23), some (zi n), some (zi k), some (zi x), some (zl pt), none, some (zi t), l7, l8] [] := by
    intro r
    induction r with
    | zero =>
      intro t σ1 w acc pt l7 l8 h1 h2 h3 hl7 h4 h5 h6 h7 h8 h9
      refine z_iload h dX3_findChances_50 rfl ?_
      refine z_iload_n h dX3_findChances_52 rfl ?_
      refine z_icmp_ge h dX3_findChances_53 (by omega) (by omega) (fun b53 => ?_) (fun b53 => by exfalso; omega)
      refine z_irV h hr dX3_findChances_183 ?_
      refine ⟨h8, fun j hj => ?_⟩
      have e : oS x n (oW0 n k) 1000000000 = acc := by rw [h9]; simp [oS]
      unfold oA
      rw [e]
      by_cases hjt : j < t
      · exact h6 j _ (zgetS (by omega))
      · rw [List.getD_eq_getElem?_getD, List.getElem?_eq_none (by omega)]
        exact h7 j (by omega) hj
    | succ r ih =>
      intro t σ1 w acc pt l7 l8 h1 h2 h3 hl7 h4 h5 h6 h7 h8 h9
      have ert : (n : Int) - t = ((r + 1 : Nat) : Int) := by omega
      -- the shift
      have L4 : ∀ (r2 p : Nat) (σ2 : zM), p + r2 = r + 1 → 1 ≤ p → (∀ (q : Nat) v, (oT x w)[q]? = some v → σ2 25 q = v) → (∀ (q : Nat) v, (oT x w)[q + 1]? = some v → q + 1 < p → σ2 24 q = v) → (∀ (j : Nat) v, (acc ++ [(oT x w).getD 0 0 * (pt / 10)])[j]? = some v → σ2 26 j = v) → (∀ j : Nat, t + 1 ≤ j → j < 9 → σ2 26 j = 0) → zfr 24 26 σ σ2 → zV Γ σ2 148 [some (zr (zw Γ) 23), some (zi n), some (zi k), some (zi x), some (zl (pt / 10)), none, some (zi t), some (zi ((r + 1 : Nat) : Int)), some (zi p)] [] := by
        intro r2
        induction r2 with
        | zero =>
          intro p σ2 g1 g1' g2 g3 g4 g5 g6
          refine z_iload h dX3_findChances_148 rfl ?_
          refine z_iload h dX3_findChances_150 rfl ?_
          refine z_icmp_ge h dX3_findChances_152 (by omega) (by omega) (fun b152 => ?_) (fun b152 => by exfalso; omega)
          refine z_iinc h dX3_findChances_177 (by decide) rfl (zst1_6 rfl) ?_
          refine z_goto h dX3_findChances_180 ?_
          rw [show (t : Int) + 1 = ((t + 1 : Nat) : Int) by omega]
          refine ih (t + 1) σ2 ((oT x w).drop 1) (acc ++ [(oT x w).getD 0 0 * (pt / 10)]) (pt / 10) _ _ (by omega) (by rw [List.length_drop, oT_len]; omega) (by simp; omega) rfl (by omega) (fun q v hq => ?_) g4 g5 g6 (by rw [h9]; simp [oS])
          rw [List.getElem?_drop, Nat.add_comm] at hq
          have := (List.getElem?_eq_some_iff.mp hq).1
          rw [oT_len] at this
          exact g3 q v hq (by omega)
        | succ r2 ih2 =>
          intro p σ2 g1 g1' g2 g3 g4 g5 g6
          refine z_iload h dX3_findChances_148 rfl ?_
          refine z_iload h dX3_findChances_150 rfl ?_
          refine z_icmp_ge h dX3_findChances_152 (by omega) (by omega) (fun b152 => by exfalso; omega) (fun b152 => ?_)
          refine z_raload_n h dX3_findChances_155 rfl ?_
          refine z_getr h dX3_findChances_156 fX3_9 L23 rfl ?_
          refine z_iload h dX3_findChances_159 rfl ?_
          refine z_iconst h dX3_findChances_161 ?_
          refine z_isub h dX3_findChances_162 ?_
          refine z_raload_n h dX3_findChances_163 rfl ?_
          refine z_getr h dX3_findChances_164 fX3_15 L23 rfl ?_
          refine z_iload h dX3_findChances_167 rfl ?_
          refine z_lald h dX3_findChances_169 L25 (by decide) (by omega) ?_
          refine z_last h dX3_findChances_170 L24 (by decide) (by omega) ?_
          refine z_iinc h dX3_findChances_171 (by decide) rfl (zst1_8 rfl) ?_
          refine z_goto h dX3_findChances_174 ?_
          rw [show (p : Int) + 1 = ((p + 1 : Nat) : Int) by omega]
          refine ih2 (p + 1) _ (by omega) (by omega) (fun q v hq => by rw [zup_ne (by omega)]; exact g2 q v hq) (fun q v hq hlt => ?_) (fun j v hj => by rw [zup_ne (by omega)]; exact g4 j v hj) (fun j a b => by rw [zup_ne (by omega)]; exact g5 j a b) (zfr_up g6 (by omega) (by omega))
          by_cases e : q + 1 = p
          · rw [zup_eqi (by omega), ← e]
            rw [show (((q + 1 : Nat) : Nat) : Int) = ((q + 1 : Nat) : Int) from rfl]
            exact g2 (q + 1) v hq
          · rw [zup_nei (by omega)]
            exact g3 q v hq (by omega)
      have L3 : ∀ (r2 p : Nat) (σ2 : zM), p + r2 = r + 1 → (∀ (p : Nat) v, w[p]? = some v → σ2 24 p = v) → (∀ (q : Nat) v, (oT x w)[q]? = some v → q < p → σ2 25 q = v) → (∀ i, σ2 26 i = σ1 26 i) → zfr 24 26 σ σ2 → zV Γ σ2 72 [some (zr (zw Γ) 23), some (zi n), some (zi k), some (zi x), some (zl pt), none, some (zi t), some (zi ((r + 1 : Nat) : Int)), some (zi p)] [] := by
        intro r2
        induction r2 with
        | zero =>
          intro p σ2 g1 g2 g3 g4 g5
          have e0 : σ2 25 0 = (oT x w).getD 0 0 := g3 0 _ (zgetS (by rw [oT_len]; omega)) (by omega)
          refine z_iload h dX3_findChances_72 rfl ?_
          refine z_iload h dX3_findChances_74 rfl ?_
          refine z_icmp_ge h dX3_findChances_76 (by omega) (by omega) (fun b76 => ?_) (fun b76 => by exfalso; omega)
          refine z_lload h dX3_findChances_121 rfl ?_
          refine z_ldc2 (x := 10) h dX3_findChances_123 kX3_23 (by decide) ?_
          refine z_ldiv h dX3_findChances_126 (by omega) (by omega) ?_
          refine z_lst h dX3_findChances_127 (by decide) (zst2_4 rfl) ?_
          refine z_raload_n h dX3_findChances_129 rfl ?_
          refine z_getr h dX3_findChances_130 fX3_18 L23 rfl ?_
          refine z_iload h dX3_findChances_133 rfl ?_
          refine z_raload_n h dX3_findChances_135 rfl ?_
          refine z_getr h dX3_findChances_136 fX3_15 L23 rfl ?_
          refine z_iconst h dX3_findChances_139 ?_
          refine z_lald h dX3_findChances_140 L25 (by decide) (by omega) ?_
          rw [e0]
          refine z_lload h dX3_findChances_141 rfl ?_
          refine z_lmul h dX3_findChances_143 ?_
          refine z_last h dX3_findChances_144 L26 (by decide) (by omega) ?_
          refine z_iconst h dX3_findChances_145 ?_
          refine z_ist1 h dX3_findChances_146 (by decide) (zst1_8 rfl) ?_
          refine L4 r 1 _ (by omega) (by omega) (fun q v hq => ?_) (fun q v hq hlt => by omega) (fun j v hj => ?_) (fun j a b => ?_) (zfr_up g5 (by omega) (by omega))
          · rw [zup_ne (by omega)]
            have := (List.getElem?_eq_some_iff.mp hq).1
            rw [oT_len] at this
            exact g3 q v hq (by omega)
          · by_cases e : j < acc.length
            · rw [List.getElem?_append_left e] at hj
              rw [zup_nei (by omega), g4]
              exact h6 j v hj
            · have e2 := (List.getElem?_eq_some_iff.mp hj).1
              simp at e2
              have e3 : j = acc.length := by omega
              subst e3
              simp at hj
              rw [zup_eqi (by omega), ← hj]
              simp [List.getD_eq_getElem?_getD]
          · rw [zup_nei (by omega), g4]
            exact h7 j (by omega) b
        | succ r2 ih2 =>
          intro p σ2 g1 g2 g3 g4 g5
          have e1 : σ2 24 p = w.getD p 0 := g2 p _ (zgetS (by omega))
          have e2 : σ2 24 (((r + 1 : Nat) : Int) - 1 - p) = w.getD (w.length - 1 - p) 0 := by
            rw [show ((r + 1 : Nat) : Int) - 1 - p = ((w.length - 1 - p : Nat) : Int) by omega]
            exact g2 _ _ (zgetS (by omega))
          refine z_iload h dX3_findChances_72 rfl ?_
          refine z_iload h dX3_findChances_74 rfl ?_
          refine z_icmp_ge h dX3_findChances_76 (by omega) (by omega) (fun b76 => by exfalso; omega) (fun b76 => ?_)
          refine z_raload_n h dX3_findChances_79 rfl ?_
          refine z_getr h dX3_findChances_80 fX3_15 L23 rfl ?_
          refine z_iload h dX3_findChances_83 rfl ?_
          refine z_bipush h dX3_findChances_85 (by decide) ?_
          refine z_iload_n h dX3_findChances_87 rfl ?_
          refine z_isub h dX3_findChances_88 ?_
          refine z_i2l h dX3_findChances_89 (by omega) ?_
          refine z_raload_n h dX3_findChances_90 rfl ?_
          refine z_getr h dX3_findChances_91 fX3_9 L23 rfl ?_
          refine z_iload h dX3_findChances_94 rfl ?_
          refine z_lald h dX3_findChances_96 L24 (by decide) (by omega) ?_
          rw [e1]
          refine z_lmul h dX3_findChances_97 ?_
          refine z_iload_n h dX3_findChances_98 rfl ?_
          refine z_i2l h dX3_findChances_99 (by omega) ?_
          refine z_raload_n h dX3_findChances_100 rfl ?_
          refine z_getr h dX3_findChances_101 fX3_9 L23 rfl ?_
          refine z_iload h dX3_findChances_104 rfl ?_
          refine z_iconst h dX3_findChances_106 ?_
          refine z_isub h dX3_findChances_107 ?_
          refine z_iload h dX3_findChances_108 rfl ?_
          refine z_isub h dX3_findChances_110 ?_
          refine z_lald h dX3_findChances_111 L24 (by decide) (by omega) ?_
          rw [e2]
          refine z_lmul h dX3_findChances_112 ?_
          refine z_ladd h dX3_findChances_113 ?_
          refine z_last h dX3_findChances_114 L25 (by decide) (by omega) ?_
          refine z_iinc h dX3_findChances_115 (by decide) rfl (zst1_8 rfl) ?_
          refine z_goto h dX3_findChances_118 ?_
          rw [show (p : Int) + 1 = ((p + 1 : Nat) : Int) by omega]
          refine ih2 (p + 1) _ (by omega) (fun q v hq => by rw [zup_ne (by omega)]; exact g2 q v hq) (fun q v hq hlt => ?_) (fun i => by rw [zup_ne (by omega)]; exact g4 i) (zfr_up g5 (by omega) (by omega))
          by_cases e : q = p
          · subst e
            rw [oT_at x w q (by omega)] at hq
            rw [zup_eq, ← Option.some.inj hq]
          · rw [zup_nei (by omega)]
            exact g3 q v hq (by omega)
      refine z_iload h dX3_findChances_50 rfl ?_
      refine z_iload_n h dX3_findChances_52 rfl ?_
      refine z_icmp_ge h dX3_findChances_53 (by omega) (by omega) (fun b53 => by exfalso; omega) (fun b53 => ?_)
      refine z_iload h dX3_findChances_56 rfl ?_
      refine z_bipush h dX3_findChances_58 (by decide) ?_
      refine z_icmp_ge h dX3_findChances_60 (by omega) (by omega) (fun b60 => by exfalso; omega) (fun b60 => ?_)
      refine z_iload_n h dX3_findChances_63 rfl ?_
      refine z_iload h dX3_findChances_64 rfl ?_
      refine z_isub h dX3_findChances_66 ?_
      rw [ert]
      refine z_ist1 h dX3_findChances_67 (by decide) (zst1_7 rfl) ?_
      refine z_iconst h dX3_findChances_69 ?_
      refine z_ist1 h dX3_findChances_70 (by decide) (zst1_8 rfl) ?_
      exact L3 (r + 1) 0 σ1 (by omega) h5 (fun q v _ h => by omega) (fun _ => rfl) h8
  have L1 : ∀ (r p : Nat) (σ1 : zM), p + r = 9 → (∀ j : Nat, j < p → σ1 24 j = if j = k then 1 else 0) → (∀ j : Nat, j < p → σ1 26 j = 0) → zfr 24 26 σ σ1 → zV Γ σ1 3 [some (zr (zw Γ) 23), some (zi n), some (zi k), some (zi x), some (zi p), none, none, none, none] [] := by
    intro r
    induction r with
    | zero =>
      intro p σ1 h1 h2 h3 h4
      refine z_iload h dX3_findChances_3 rfl ?_
      refine z_bipush h dX3_findChances_5 (by decide) ?_
      refine z_icmp_ge h dX3_findChances_7 (by omega) (by omega) (fun b7 => ?_) (fun b7 => by exfalso; omega)
      refine z_ldc2 (x := 1000000000) h dX3_findChances_42 kX3_21 (by decide) ?_
      refine z_lst h dX3_findChances_45 (by decide) (zst2_4 rfl) ?_
      refine z_iconst h dX3_findChances_47 ?_
      refine z_ist1 h dX3_findChances_48 (by decide) (zst1_6 rfl) ?_
      refine L2 n 0 σ1 (oW0 n k) [] _ _ _ (by omega) (by simp [oW0]) rfl rfl (by omega) (fun q v hq => ?_) (by simp) (fun j a b => h3 j (by omega)) h4 (by simp)
      have hlt := (List.getElem?_eq_some_iff.mp hq).1
      simp [oW0] at hlt
      unfold oW0 at hq
      rw [List.getElem?_map, List.getElem?_range hlt] at hq
      rw [h2 q (by omega)]
      exact Option.some.inj hq
    | succ r ih =>
      intro p σ1 h1 h2 h3 h4
      refine z_iload h dX3_findChances_3 rfl ?_
      refine z_bipush h dX3_findChances_5 (by decide) ?_
      refine z_icmp_ge h dX3_findChances_7 (by omega) (by omega) (fun b7 => by exfalso; omega) (fun b7 => ?_)
      refine z_raload_n h dX3_findChances_10 rfl ?_
      refine z_getr h dX3_findChances_11 fX3_9 L23 rfl ?_
      refine z_iload h dX3_findChances_14 rfl ?_
      refine z_iload h dX3_findChances_16 rfl ?_
      refine z_iload_n h dX3_findChances_18 rfl ?_
      refine z_icmp_ne h dX3_findChances_19 (by omega) (by omega) (fun b19 => ?_) (fun b19 => ?_)
      · refine z_lconst (x := 0) h dX3_findChances_26 (by decide) ?_
        refine z_last h dX3_findChances_27 L24 (by decide) (by omega) ?_
        refine z_raload_n h dX3_findChances_28 rfl ?_
        refine z_getr h dX3_findChances_29 fX3_18 L23 rfl ?_
        refine z_iload h dX3_findChances_32 rfl ?_
        refine z_lconst (x := 0) h dX3_findChances_34 (by decide) ?_
        refine z_last h dX3_findChances_35 L26 (by decide) (by omega) ?_
        refine z_iinc h dX3_findChances_36 (by decide) rfl (zst1_4 rfl) ?_
        refine z_goto h dX3_findChances_39 ?_
        rw [show (p : Int) + 1 = ((p + 1 : Nat) : Int) by omega]
        refine ih (p + 1) _ (by omega) (fun j hj => ?_) (fun j hj => ?_) (zfr_up (zfr_up h4 (by omega) (by omega)) (by omega) (by omega))
        · by_cases e : j = p
          · subst e
            rw [zup_ne (by omega), zup_eq]
            split <;> omega
          · simp (disch := omega) only [zup_ne, zup_nei]
            exact h2 j (by omega)
        · by_cases e : j = p
          · subst e
            rw [zup_eq]
          · simp (disch := omega) only [zup_ne, zup_nei]
            exact h3 j (by omega)
      · refine z_lconst (x := 1) h dX3_findChances_22 (by decide) ?_
        refine z_goto h dX3_findChances_23 ?_
        refine z_last h dX3_findChances_27 L24 (by decide) (by omega) ?_
        refine z_raload_n h dX3_findChances_28 rfl ?_
        refine z_getr h dX3_findChances_29 fX3_18 L23 rfl ?_
        refine z_iload h dX3_findChances_32 rfl ?_
        refine z_lconst (x := 0) h dX3_findChances_34 (by decide) ?_
        refine z_last h dX3_findChances_35 L26 (by decide) (by omega) ?_
        refine z_iinc h dX3_findChances_36 (by decide) rfl (zst1_4 rfl) ?_
        refine z_goto h dX3_findChances_39 ?_
        rw [show (p : Int) + 1 = ((p + 1 : Nat) : Int) by omega]
        refine ih (p + 1) _ (by omega) (fun j hj => ?_) (fun j hj => ?_) (zfr_up (zfr_up h4 (by omega) (by omega)) (by omega) (by omega))
        · by_cases e : j = p
          · subst e
            rw [zup_ne (by omega), zup_eq]
            split <;> omega
          · simp (disch := omega) only [zup_ne, zup_nei]
            exact h2 j (by omega)
        · by_cases e : j = p
          · subst e
            rw [zup_eq]
          · simp (disch := omega) only [zup_ne, zup_nei]
            exact h3 j (by omega)
  refine z_iconst h dX3_findChances_0 ?_
  refine z_ist1 h dX3_findChances_1 (by decide) (zst1_4 rfl) ?_
  exact L1 9 0 σ rfl (fun j hj => by omega) (fun j hj => by omega) zfr_rf
def oM (n k x : Nat) : Int := zsum (fun t => t * oA n k x t) 9
def oC (n k x m : Nat) : Int := zsum (oA n k x) (m + 1)
theorem c_X3_meanAbove (σ : zM) (n k x : Nat) (hn : 1 ≤ n ∧ n ≤ 9) (hk : k < n) (hx : x ≤ 10) : zCl mX3_meanAbove (fun u => [zr u 23, zi n, zi k, zi x]) σ (fun r σ' => zfr 24 26 σ σ' ∧ r = oM n k x) := by
  refine zCl_mk (own := RX3) rfl (by decide +kernel) (fun w => [some (zr w 23), some (zi n), some (zi k), some (zi x), none, none, none]) (fun _ => rfl) (fun _ => Nat.le_of_ble_eq_true rfl) ?_
  intro Γ h hr
  have K : ∀ σ1 : zM, zfr 24 26 σ σ1 → (∀ t : Nat, t < 9 → σ1 26 t = oA n k x t) → ∀ (r t : Nat), t + r = 9 → zV Γ σ1 13 [some (zr (zw Γ) 23), some (zi n), some (zi k), some (zi x), some (zl (zsum (fun t => t * oA n k x t) t)), none, some (zi t)] [] := by
    intro σ1 h1 h2 r
    induction r with
    | zero =>
      intro t ht
      refine z_iload h dX3_meanAbove_13 rfl ?_
      refine z_bipush h dX3_meanAbove_15 (by decide) ?_
      refine z_icmp_ge h dX3_meanAbove_17 (by omega) (by omega) (fun b17 => ?_) (fun b17 => by exfalso; omega)
      refine z_lload h dX3_meanAbove_42 rfl ?_
      refine z_irL h hr dX3_meanAbove_44 ?_
      rw [show t = 9 by omega]
      exact ⟨h1, rfl⟩
    | succ r ih =>
      intro t ht
      refine z_iload h dX3_meanAbove_13 rfl ?_
      refine z_bipush h dX3_meanAbove_15 (by decide) ?_
      refine z_icmp_ge h dX3_meanAbove_17 (by omega) (by omega) (fun b17 => by exfalso; omega) (fun b17 => ?_)
      refine z_lload h dX3_meanAbove_20 rfl ?_
      refine z_iload h dX3_meanAbove_22 rfl ?_
      refine z_i2l h dX3_meanAbove_24 (by omega) ?_
      refine z_raload_n h dX3_meanAbove_25 rfl ?_
      refine z_getr h dX3_meanAbove_26 fX3_18 L23 rfl ?_
      refine z_iload h dX3_meanAbove_29 rfl ?_
      refine z_lald h dX3_meanAbove_31 L26 (by decide) (by omega) ?_
      refine z_lmul h dX3_meanAbove_32 ?_
      refine z_ladd h dX3_meanAbove_33 ?_
      refine z_lst h dX3_meanAbove_34 (by decide) (zst2_4 rfl) ?_
      refine z_iinc h dX3_meanAbove_36 (by decide) rfl (zst1_6 rfl) ?_
      refine z_goto h dX3_meanAbove_39 ?_
      rw [h2 t (by omega)]
      rw [show (t : Int) + 1 = ((t + 1 : Nat) : Int) by omega]
      exact ih (t + 1) (by omega)
  refine z_raload_n h dX3_meanAbove_0 rfl ?_
  refine z_iload_n h dX3_meanAbove_1 rfl ?_
  refine z_iload_n h dX3_meanAbove_2 rfl ?_
  refine z_iload_n h dX3_meanAbove_3 rfl ?_
  refine z_cVv3 h dX3_meanAbove_4 lX3_25 vX3_findChances rfl L23 (c_X3_findChances σ n k x hn hk hx) rfl (Nat.le_of_ble_eq_true rfl) (by decide) (fun σ1 h1 => ?_)
  refine z_lconst (x := 0) h dX3_meanAbove_7 (by decide) ?_
  refine z_lst h dX3_meanAbove_8 (by decide) (zst2_4 rfl) ?_
  refine z_iconst h dX3_meanAbove_10 ?_
  refine z_ist1 h dX3_meanAbove_11 (by decide) (zst1_6 rfl) ?_
  exact K σ1 h1.1 h1.2 9 0 (by omega)
theorem c_X3_chanceAbove (σ : zM) (n k x m : Nat) (hn : 1 ≤ n ∧ n ≤ 9) (hk : k < n) (hx : x ≤ 10) (hm : m ≤ 8) : zCl mX3_chanceAbove (fun u => [zr u 23, zi n, zi k, zi x, zi m]) σ (fun r σ' => zfr 24 26 σ σ' ∧ r = oC n k x m) := by
  refine zCl_mk (own := RX3) rfl (by decide +kernel) (fun w => [some (zr w 23), some (zi n), some (zi k), some (zi x), some (zi m), none, none, none]) (fun _ => rfl) (fun _ => Nat.le_of_ble_eq_true rfl) ?_
  intro Γ h hr
  have K : ∀ σ1 : zM, zfr 24 26 σ σ1 → (∀ t : Nat, t < 9 → σ1 26 t = oA n k x t) → ∀ (r t : Nat), t + r = m + 1 → zV Γ σ1 13 [some (zr (zw Γ) 23), some (zi n), some (zi k), some (zi x), some (zi m), some (zl (zsum (oA n k x) t)), none, some (zi t)] [] := by
    intro σ1 h1 h2 r
    induction r with
    | zero =>
      intro t ht
      refine z_iload h dX3_chanceAbove_13 rfl ?_
      refine z_iload h dX3_chanceAbove_15 rfl ?_
      refine z_icmp_gt h dX3_chanceAbove_17 (by omega) (by omega) (fun b17 => ?_) (fun b17 => by exfalso; omega)
      refine z_lload h dX3_chanceAbove_45 rfl ?_
      refine z_irL h hr dX3_chanceAbove_47 ?_
      rw [show t = m + 1 by omega]
      exact ⟨h1, rfl⟩
    | succ r ih =>
      intro t ht
      refine z_iload h dX3_chanceAbove_13 rfl ?_
      refine z_iload h dX3_chanceAbove_15 rfl ?_
      refine z_icmp_gt h dX3_chanceAbove_17 (by omega) (by omega) (fun b17 => by exfalso; omega) (fun b17 => ?_)
      refine z_iload h dX3_chanceAbove_20 rfl ?_
      refine z_bipush h dX3_chanceAbove_22 (by decide) ?_
      refine z_icmp_ge h dX3_chanceAbove_24 (by omega) (by omega) (fun b24 => by exfalso; omega) (fun b24 => ?_)
      refine z_lload h dX3_chanceAbove_27 rfl ?_
      refine z_raload_n h dX3_chanceAbove_29 rfl ?_
      refine z_getr h dX3_chanceAbove_30 fX3_18 L23 rfl ?_
      refine z_iload h dX3_chanceAbove_33 rfl ?_
      refine z_lald h dX3_chanceAbove_35 L26 (by decide) (by omega) ?_
      refine z_ladd h dX3_chanceAbove_36 ?_
      refine z_lst h dX3_chanceAbove_37 (by decide) (zst2_5 rfl) ?_
      refine z_iinc h dX3_chanceAbove_39 (by decide) rfl (zst1_7 rfl) ?_
      refine z_goto h dX3_chanceAbove_42 ?_
      rw [h2 t (by omega)]
      rw [show (t : Int) + 1 = ((t + 1 : Nat) : Int) by omega]
      exact ih (t + 1) (by omega)
  refine z_raload_n h dX3_chanceAbove_0 rfl ?_
  refine z_iload_n h dX3_chanceAbove_1 rfl ?_
  refine z_iload_n h dX3_chanceAbove_2 rfl ?_
  refine z_iload_n h dX3_chanceAbove_3 rfl ?_
  refine z_cVv3 h dX3_chanceAbove_4 lX3_25 vX3_findChances rfl L23 (c_X3_findChances σ n k x hn hk hx) rfl (Nat.le_of_ble_eq_true rfl) (by decide) (fun σ1 h1 => ?_)
  refine z_lconst (x := 0) h dX3_chanceAbove_7 (by decide) ?_
  refine z_lst h dX3_chanceAbove_8 (by decide) (zst2_5 rfl) ?_
  refine z_iconst h dX3_chanceAbove_10 ?_
  refine z_ist1 h dX3_chanceAbove_11 (by decide) (zst1_7 rfl) ?_
  exact K σ1 h1.1 h1.2 (m + 1) 0 (by omega)
theorem oM_rg : ∀ n : Fin 10, ∀ k : Fin 9, ∀ x : Fin 11, k.val < n.val → 0 ≤ oM n.val k.val x.val ∧ oM n.val k.val x.val ≤ 10000000000 := by decide +kernel
theorem oM_r {n k x : Nat} (hn : n ≤ 9) (hk : k < n) (hx : x ≤ 10) : 0 ≤ oM n k x ∧ oM n k x ≤ 10000000000 := oM_rg ⟨n, by omega⟩ ⟨k, by omega⟩ ⟨x, by omega⟩ hk
/-- the lowest terms -/
def oLow (a b : Int) (part : Int) : Int := if part = 0 then a / (Int.gcd a b : Nat) else b / (Int.gcd a b : Nat)
theorem c_X3_lowest (σ : zM) (a pt : Int) (ha : 0 ≤ a ∧ a ≤ 10000000000) (hpt : pt = 0 ∨ pt = 1) : zCl mX3_lowest (fun u => [zr u 23, zl a, zi pt]) σ (fun r σ' => r = oLow a 1000000000 pt ∧ σ' = σ) := by
  refine zCl_mk (own := RX3) rfl (by decide +kernel) (fun w => [some (zr w 23), some (zl a), none, some (zi pt), none, none, none, none, none, none, none]) (fun _ => rfl) (fun _ => Nat.le_of_ble_eq_true rfl) ?_
  intro Γ h hr
  have E : ∀ (s : Nat) (r : Int) (st : Int) (l9 l10 : Option Value), 0 < s → s ≤ 10000000000 → r = 0 → -2147483648 ≤ st ∧ st ≤ 2147483647 → Int.gcd a 1000000000 = s → zV Γ σ 11 [some (zr (zw Γ) 23), some (zl a), none, some (zi pt), some (zl s), none, some (zl r), none, some (zi st), l9, l10] [] := by
    intro s r st l9 l10 h1 h2 h3 h4 h5
    subst h3
    have hz : zcmp (0 : Int) 0 = 0 := by decide
    have hz2 : zcmp (s : Int) 0 = 1 := by unfold zcmp; rw [if_pos (by omega)]
    refine z_iload h dX3_lowest_11 rfl ?_
    refine z_bipush h dX3_lowest_13 (by decide) ?_
    refine z_icmp_ge h dX3_lowest_15 (by omega) (by omega) (fun b15 => ?_) (fun b15 => ?_)
    · refine z_lload h dX3_lowest_46 rfl ?_
      refine z_lconst (x := 0) h dX3_lowest_48 (by decide) ?_
      refine z_lcmp h dX3_lowest_49 (by omega) (by omega) ?_
      rw [hz2]
      refine z_if_ne h dX3_lowest_50 (by omega) (fun b50 => ?_) (fun b50 => by exfalso; omega)
      refine z_iload_n h dX3_lowest_65 rfl ?_
      refine z_if_ne h dX3_lowest_66 (by omega) (fun b66 => ?_) (fun b66 => ?_)
      · refine z_ldc2 (x := 1000000000) h dX3_lowest_76 kX3_21 (by decide) ?_
        refine z_lload h dX3_lowest_79 rfl ?_
        refine z_ldiv h dX3_lowest_81 (by omega) (by omega) ?_
        refine z_irL h hr dX3_lowest_82 ?_
        unfold oLow
        rw [h5]
        rcases hpt with rfl | rfl
        · first | exact ⟨rfl, rfl⟩ | (exfalso; omega)
        · first | exact ⟨rfl, rfl⟩ | (exfalso; omega)
      · refine z_lload_n h dX3_lowest_69 rfl ?_
        refine z_lload h dX3_lowest_70 rfl ?_
        refine z_ldiv h dX3_lowest_72 (by omega) (by omega) ?_
        refine z_goto h dX3_lowest_73 ?_
        refine z_irL h hr dX3_lowest_82 ?_
        unfold oLow
        rw [h5]
        rcases hpt with rfl | rfl
        · first | exact ⟨rfl, rfl⟩ | (exfalso; omega)
        · first | exact ⟨rfl, rfl⟩ | (exfalso; omega)
    · refine z_lload h dX3_lowest_18 rfl ?_
      refine z_lconst (x := 0) h dX3_lowest_20 (by decide) ?_
      refine z_lcmp h dX3_lowest_21 (by omega) (by omega) ?_
      rw [hz]
      refine z_if_eq h dX3_lowest_22 (by omega) (fun b22 => ?_) (fun b22 => by exfalso; omega)
      refine z_lload h dX3_lowest_46 rfl ?_
      refine z_lconst (x := 0) h dX3_lowest_48 (by decide) ?_
      refine z_lcmp h dX3_lowest_49 (by omega) (by omega) ?_
      rw [hz2]
      refine z_if_ne h dX3_lowest_50 (by omega) (fun b50 => ?_) (fun b50 => by exfalso; omega)
      refine z_iload_n h dX3_lowest_65 rfl ?_
      refine z_if_ne h dX3_lowest_66 (by omega) (fun b66 => ?_) (fun b66 => ?_)
      · refine z_ldc2 (x := 1000000000) h dX3_lowest_76 kX3_21 (by decide) ?_
        refine z_lload h dX3_lowest_79 rfl ?_
        refine z_ldiv h dX3_lowest_81 (by omega) (by omega) ?_
        refine z_irL h hr dX3_lowest_82 ?_
        unfold oLow
        rw [h5]
        rcases hpt with rfl | rfl
        · first | exact ⟨rfl, rfl⟩ | (exfalso; omega)
        · first | exact ⟨rfl, rfl⟩ | (exfalso; omega)
      · refine z_lload_n h dX3_lowest_69 rfl ?_
        refine z_lload h dX3_lowest_70 rfl ?_
        refine z_ldiv h dX3_lowest_72 (by omega) (by omega) ?_
        refine z_goto h dX3_lowest_73 ?_
        refine z_irL h hr dX3_lowest_82 ?_
        unfold oLow
        rw [h5]
        rcases hpt with rfl | rfl
        · first | exact ⟨rfl, rfl⟩ | (exfalso; omega)
        · first | exact ⟨rfl, rfl⟩ | (exfalso; omega)
  have S : ∀ (s r : Nat) (st : Int) (l9 l10 : Option Value), 0 < r → s ≤ 10000000000 → r ≤ 10000000000 → 0 ≤ st ∧ st < 100 → zc1 l9 = true → (∀ l9' l10', zc1 l10' = true → zV Γ σ 11 [some (zr (zw Γ) 23), some (zl a), none, some (zi pt), some (zl r), none, some (zl ((s % r : Nat) : Int)), none, some (zi (st + 1)), l9', l10'] []) → zV Γ σ 11 [some (zr (zw Γ) 23), some (zl a), none, some (zi pt), some (zl s), none, some (zl r), none, some (zi st), l9, l10] [] := by
    intro s r st l9 l10 h1 h2 h3 h4 hl9 kk
    have hz : zcmp (r : Int) 0 = 1 := by unfold zcmp; rw [if_pos (by omega)]
    refine z_iload h dX3_lowest_11 rfl ?_
    refine z_bipush h dX3_lowest_13 (by decide) ?_
    refine z_icmp_ge h dX3_lowest_15 (by omega) (by omega) (fun b15 => by exfalso; omega) (fun b15 => ?_)
    refine z_lload h dX3_lowest_18 rfl ?_
    refine z_lconst (x := 0) h dX3_lowest_20 (by decide) ?_
    refine z_lcmp h dX3_lowest_21 (by omega) (by omega) ?_
    rw [hz]
    refine z_if_eq h dX3_lowest_22 (by omega) (fun b22 => by exfalso; omega) (fun b22 => ?_)
    refine z_lload h dX3_lowest_25 rfl ?_
    refine z_lload h dX3_lowest_27 rfl ?_
    refine z_lrem h dX3_lowest_29 (by omega) (by omega) ?_
    refine z_lst h dX3_lowest_30 (by decide) (zst2_9 rfl) ?_
    refine z_lload h dX3_lowest_32 rfl ?_
    refine z_lst h dX3_lowest_34 (by decide) (zst2_4 rfl) ?_
    refine z_lload h dX3_lowest_36 rfl ?_
    refine z_lst h dX3_lowest_38 (by decide) (zst2_6 rfl) ?_
    refine z_iinc h dX3_lowest_40 (by decide) rfl (zst1_8 rfl) ?_
    refine z_goto h dX3_lowest_43 ?_
    exact kk _ _ rfl
  have L : ∀ (j s r : Nat) (st : Int) (l9 l10 : Option Value), zc1 l9 = true → st + 2 * j ≤ 98 → 0 ≤ st → r < 2 ^ j → s ≤ 10000000000 → r ≤ 10000000000 → 0 < s → Nat.gcd s r = Int.gcd a 1000000000 → zV Γ σ 11 [some (zr (zw Γ) 23), some (zl a), none, some (zi pt), some (zl s), none, some (zl r), none, some (zi st), l9, l10] [] := by
    intro j
    induction j with
    | zero =>
      intro s r st l9 l10 hl9 h1 h2 h3 h4 h5 h6 h7
      have e : r = 0 := by simp at h3; exact h3
      subst e
      rw [Nat.gcd_zero_right] at h7
      exact E s _ st l9 l10 h6 h4 rfl (by omega) h7.symm
    | succ j ih =>
      intro s r st l9 l10 hl9 h1 h2 h3 h4 h5 h6 h7
      by_cases e : r = 0
      · subst e
        rw [Nat.gcd_zero_right] at h7
        exact E s _ st l9 l10 h6 h4 rfl (by omega) h7.symm
      · have hlt : s % r < r := Nat.mod_lt _ (by omega)
        refine S s r st l9 l10 (by omega) h4 h5 (by omega) hl9 (fun l9' l10' hl => ?_)
        have e7 : Nat.gcd r (s % r) = Int.gcd a 1000000000 := by rw [← h7, Nat.gcd_comm s r, Nat.gcd_rec r s, Nat.gcd_comm]
        by_cases e2 : s % r = 0
        · rw [e2, Nat.gcd_zero_right] at e7
          exact E r _ (st + 1) l9' l10' (by omega) h5 (by rw [e2]; rfl) (by omega) e7.symm
        · have hlt2 : r % (s % r) < s % r := Nat.mod_lt _ (by omega)
          refine zV_less (ls' := [some (zr (zw Γ) 23), some (zl a), none, some (zi pt), some (zl r), none, some (zl ((s % r : Nat) : Int)), none, some (zi (st + 1)), none, none]) (zg_d (Or.inl rfl) (zg_d (Or.inl rfl) (zg_d (Or.inl rfl) (zg_d (Or.inl rfl) (zg_d (Or.inl rfl) (zg_d (Or.inl rfl) (zg_d (Or.inl rfl) (zg_d (Or.inl rfl) (zg_d (Or.inl rfl) (zg_d (Or.inr rfl) (zg_d (Or.inr rfl) (fun _ _ h => h)))))))))))) ?_
          refine S r (s % r) (st + 1) none none (by omega) h5 (by omega) (by omega) rfl (fun l9'' l10'' hl' => ?_)
          refine zV_less (ls' := [some (zr (zw Γ) 23), some (zl a), none, some (zi pt), some (zl ((s % r : Nat) : Int)), none, some (zl ((r % (s % r) : Nat) : Int)), none, some (zi (st + 1 + 1)), none, none]) (zg_d (Or.inl rfl) (zg_d (Or.inl rfl) (zg_d (Or.inl rfl) (zg_d (Or.inl rfl) (zg_d (Or.inl rfl) (zg_d (Or.inl rfl) (zg_d (Or.inl rfl) (zg_d (Or.inl rfl) (zg_d (Or.inl rfl) (zg_d (Or.inr rfl) (zg_d (Or.inr rfl) (fun _ _ h => h)))))))))))) ?_
          have h8 : r % (s % r) < 2 ^ j := by
            rw [Nat.pow_succ] at h3
            have h9 := Nat.div_add_mod r (s % r)
            have h10 : 1 ≤ r / (s % r) := Nat.div_pos (by omega) (by omega)
            have h11 : s % r * 1 ≤ s % r * (r / (s % r)) := Nat.mul_le_mul_left _ h10
            omega
          have e8 : Nat.gcd (s % r) (r % (s % r)) = Int.gcd a 1000000000 := by rw [← e7, Nat.gcd_comm r (s % r), Nat.gcd_rec (s % r) r, Nat.gcd_comm]
          exact ih (s % r) (r % (s % r)) _ none none rfl (by omega) (by omega) h8 (by omega) (by omega) (by omega) e8
  obtain ⟨an, rfl⟩ := Int.eq_ofNat_of_zero_le ha.1
  refine z_ldc2 (x := 1000000000) h dX3_lowest_0 kX3_21 (by decide) ?_
  refine z_lst h dX3_lowest_3 (by decide) (zst2_4 rfl) ?_
  refine z_lload_n h dX3_lowest_5 rfl ?_
  refine z_lst h dX3_lowest_6 (by decide) (zst2_6 rfl) ?_
  refine z_iconst h dX3_lowest_8 ?_
  refine z_ist1 h dX3_lowest_9 (by decide) (zst1_8 rfl) ?_
  exact L 34 1000000000 an 0 none none rfl (by omega) (by omega) (by omega) (by omega) (by omega) (by omega) (by rw [Nat.gcd_comm]; rfl)
/-- the place of the least, the lowest: among 0 .. j -/
def oB (n x : Nat) : Nat → Nat
  | 0 => 0
  | j + 1 => if oM n (j + 1) x < oM n (oB n x j) x then j + 1 else oB n x j
theorem oB_le (n x : Nat) : ∀ j, oB n x j ≤ j
  | 0 => Nat.le_refl _
  | j + 1 => by
    have := oB_le n x j
    unfold oB
    split <;> omega
theorem c_X3_bestPlace (σ : zM) (n x : Nat) (hn : 1 ≤ n ∧ n ≤ 9) (hx : x ≤ 10) : zCi mX3_bestPlace (fun u => [zr u 23, zi n, zi x]) σ (fun r σ' => zfr 24 26 σ σ' ∧ r = oB n x (n - 1)) := by
  refine zCi_mk (own := RX3) rfl (by decide +kernel) (fun w => [some (zr w 23), some (zi n), some (zi x), none, none, none, none, none, none]) (fun _ => rfl) (fun _ => Nat.le_of_ble_eq_true rfl) ?_
  intro Γ h hr
  have L : ∀ (r j : Nat) (σ1 : zM) (l7 l8 : Option Value), j + 1 + r = n → zfr 24 26 σ σ1 → zV Γ σ1 14 [some (zr (zw Γ) 23), some (zi n), some (zi x), some (zi (oB n x j)), some (zl (oM n (oB n x j) x)), none, some (zi (j + 1 : Nat)), l7, l8] [] := by
    intro r
    induction r with
    | zero =>
      intro j σ1 l7 l8 h1 h2
      refine z_iload h dX3_bestPlace_14 rfl ?_
      refine z_iload_n h dX3_bestPlace_16 rfl ?_
      refine z_icmp_ge h dX3_bestPlace_17 (by omega) (by omega) (fun b17 => ?_) (fun b17 => by exfalso; omega)
      refine z_iload_n h dX3_bestPlace_51 rfl ?_
      refine z_irI h hr dX3_bestPlace_52 ?_
      rw [show n - 1 = j by omega]
      exact ⟨h2, rfl⟩
    | succ r ih =>
      intro j σ1 l7 l8 h1 h2
      have hb := oB_le n x j
      have r1 := oM_r (n := n) (k := j + 1) (x := x) (by omega) (by omega) hx
      have r2 := oM_r (n := n) (k := oB n x j) (x := x) (by omega) (by omega) hx
      by_cases e : oM n (j + 1) x < oM n (oB n x j) x
      · have ez : zcmp (oM n (j + 1) x) (oM n (oB n x j) x) = -1 := by unfold zcmp; rw [if_neg (by omega), if_neg (by omega)]
        have eb : oB n x (j + 1) = j + 1 := by unfold oB; rw [if_pos e]
        refine z_iload h dX3_bestPlace_14 rfl ?_
        refine z_iload_n h dX3_bestPlace_16 rfl ?_
        refine z_icmp_ge h dX3_bestPlace_17 (by omega) (by omega) (fun b17 => by exfalso; omega) (fun b17 => ?_)
        refine z_raload_n h dX3_bestPlace_20 rfl ?_
        refine z_iload_n h dX3_bestPlace_21 rfl ?_
        refine z_iload h dX3_bestPlace_22 rfl ?_
        refine z_iload_n h dX3_bestPlace_24 rfl ?_
        refine z_cVl3 h dX3_bestPlace_25 lX3_29 vX3_meanAbove rfl L23 (c_X3_meanAbove σ1 n (j + 1) x hn (by omega) hx) rfl (Nat.le_of_ble_eq_true rfl) (by decide) (fun v σ2 h3 => ?_)
        obtain ⟨h3, rfl⟩ := h3
        refine z_lst h dX3_bestPlace_28 (by decide) (zst2_7 rfl) ?_
        refine z_lload h dX3_bestPlace_30 rfl ?_
        refine z_lload h dX3_bestPlace_32 rfl ?_
        refine z_lcmp h dX3_bestPlace_34 (by omega) (by omega) ?_
        rw [ez]
        refine z_if_ge h dX3_bestPlace_35 (by omega) (fun b35 => by exfalso; omega) (fun b35 => ?_)
        refine z_lload h dX3_bestPlace_38 rfl ?_
        refine z_lst h dX3_bestPlace_40 (by decide) (zst2_4 rfl) ?_
        refine z_iload h dX3_bestPlace_42 rfl ?_
        refine z_ist1_n h dX3_bestPlace_44 (by decide) (zst1_3 rfl) ?_
        refine z_iinc h dX3_bestPlace_45 (by decide) rfl (zst1_6 rfl) ?_
        refine z_goto h dX3_bestPlace_48 ?_
        have := ih (j + 1) σ2 (some (zl (oM n (j + 1) x))) none (by omega) (zfr_tr h2 h3)
        rw [eb] at this
        exact this
      · have ez : 0 ≤ zcmp (oM n (j + 1) x) (oM n (oB n x j) x) ∧ zcmp (oM n (j + 1) x) (oM n (oB n x j) x) ≤ 1 := by unfold zcmp; split <;> (try split) <;> omega
        have eb : oB n x (j + 1) = oB n x j := by rw [oB, if_neg e]
        refine z_iload h dX3_bestPlace_14 rfl ?_
        refine z_iload_n h dX3_bestPlace_16 rfl ?_
        refine z_icmp_ge h dX3_bestPlace_17 (by omega) (by omega) (fun b17 => by exfalso; omega) (fun b17 => ?_)
        refine z_raload_n h dX3_bestPlace_20 rfl ?_
        refine z_iload_n h dX3_bestPlace_21 rfl ?_
        refine z_iload h dX3_bestPlace_22 rfl ?_
        refine z_iload_n h dX3_bestPlace_24 rfl ?_
        refine z_cVl3 h dX3_bestPlace_25 lX3_29 vX3_meanAbove rfl L23 (c_X3_meanAbove σ1 n (j + 1) x hn (by omega) hx) rfl (Nat.le_of_ble_eq_true rfl) (by decide) (fun v σ2 h3 => ?_)
        obtain ⟨h3, rfl⟩ := h3
        refine z_lst h dX3_bestPlace_28 (by decide) (zst2_7 rfl) ?_
        refine z_lload h dX3_bestPlace_30 rfl ?_
        refine z_lload h dX3_bestPlace_32 rfl ?_
        refine z_lcmp h dX3_bestPlace_34 (by omega) (by omega) ?_
        refine z_if_ge h dX3_bestPlace_35 (by omega) (fun b35 => ?_) (fun b35 => by exfalso; omega)
        refine z_iinc h dX3_bestPlace_45 (by decide) rfl (zst1_6 rfl) ?_
        refine z_goto h dX3_bestPlace_48 ?_
        have := ih (j + 1) σ2 (some (zl (oM n (j + 1) x))) none (by omega) (zfr_tr h2 h3)
        rw [eb] at this
        exact this
  refine z_iconst h dX3_bestPlace_0 ?_
  refine z_ist1_n h dX3_bestPlace_1 (by decide) (zst1_3 rfl) ?_
  refine z_raload_n h dX3_bestPlace_2 rfl ?_
  refine z_iload_n h dX3_bestPlace_3 rfl ?_
  refine z_iconst h dX3_bestPlace_4 ?_
  refine z_iload_n h dX3_bestPlace_5 rfl ?_
  refine z_cVl3 h dX3_bestPlace_6 lX3_29 vX3_meanAbove rfl L23 (c_X3_meanAbove σ n 0 x hn (by omega) hx) rfl (Nat.le_of_ble_eq_true rfl) (by decide) (fun v σ1 h1 => ?_)
  obtain ⟨h1, rfl⟩ := h1
  refine z_lst h dX3_bestPlace_9 (by decide) (zst2_4 rfl) ?_
  refine z_iconst h dX3_bestPlace_11 ?_
  refine z_ist1 h dX3_bestPlace_12 (by decide) (zst1_6 rfl) ?_
  exact L (n - 1) 0 σ1 none none (by omega) h1
theorem c_X3_bestEnd (σ : zM) (n x : Nat) (hn : 1 ≤ n ∧ n ≤ 9) (hx : x ≤ 10) : zCi mX3_bestEnd (fun u => [zr u 23, zi n, zi x]) σ (fun r σ' => zfr 24 26 σ σ' ∧ r = if oM n (n - 1) x < oM n 0 x then (n : Int) - 1 else 0) := by
  refine zCi_mk (own := RX3) rfl (by decide +kernel) (fun w => [some (zr w 23), some (zi n), some (zi x)]) (fun _ => rfl) (fun _ => Nat.le_of_ble_eq_true rfl) ?_
  intro Γ h hr
  have r1 := oM_r (n := n) (k := n - 1) (x := x) (by omega) (by omega) hx
  have r2 := oM_r (n := n) (k := 0) (x := x) (by omega) (by omega) hx
  have ez : (zcmp (oM n (n - 1) x) (oM n 0 x) < 0 ↔ oM n (n - 1) x < oM n 0 x) ∧ -1 ≤ zcmp (oM n (n - 1) x) (oM n 0 x) ∧ zcmp (oM n (n - 1) x) (oM n 0 x) ≤ 1 := by unfold zcmp; split <;> (try split) <;> omega
  refine z_raload_n h dX3_bestEnd_0 rfl ?_
  refine z_iload_n h dX3_bestEnd_1 rfl ?_
  refine z_iload_n h dX3_bestEnd_2 rfl ?_
  refine z_iconst h dX3_bestEnd_3 ?_
  refine z_isub h dX3_bestEnd_4 ?_
  rw [show (n : Int) - 1 = ((n - 1 : Nat) : Int) by omega]
  refine z_iload_n h dX3_bestEnd_5 rfl ?_
  refine z_cVl3 h dX3_bestEnd_6 lX3_29 vX3_meanAbove rfl L23 (c_X3_meanAbove σ n (n - 1) x hn (by omega) hx) rfl (Nat.le_of_ble_eq_true rfl) (by decide) (fun v σ1 h1 => ?_)
  obtain ⟨h1, rfl⟩ := h1
  refine z_raload_n h dX3_bestEnd_9 rfl ?_
  refine z_iload_n h dX3_bestEnd_10 rfl ?_
  refine z_iconst h dX3_bestEnd_11 ?_
  refine z_iload_n h dX3_bestEnd_12 rfl ?_
  refine z_cVl3 h dX3_bestEnd_13 lX3_29 vX3_meanAbove rfl L23 (c_X3_meanAbove σ1 n 0 x hn (by omega) hx) rfl (Nat.le_of_ble_eq_true rfl) (by decide) (fun v2 σ2 h2 => ?_)
  obtain ⟨h2, rfl⟩ := h2
  refine z_lcmp h dX3_bestEnd_16 (by omega) (by omega) ?_
  refine z_if_ge h dX3_bestEnd_17 (by omega) (fun b17 => ?_) (fun b17 => ?_)
  · refine z_iconst h dX3_bestEnd_26 ?_
    refine z_irI h hr dX3_bestEnd_27 ?_
    refine ⟨zfr_tr h1 h2, ?_⟩
    split <;> omega
  · refine z_iload_n h dX3_bestEnd_20 rfl ?_
    refine z_iconst h dX3_bestEnd_21 ?_
    refine z_isub h dX3_bestEnd_22 ?_
    refine z_goto h dX3_bestEnd_23 ?_
    refine z_irI h hr dX3_bestEnd_27 ?_
    refine ⟨zfr_tr h1 h2, ?_⟩
    split <;> omega
