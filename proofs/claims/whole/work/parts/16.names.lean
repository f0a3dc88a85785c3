/-! ===== names ===== -/
def cNames (σ : zM) (sv sd : List Int) : Prop := σ 27 2 = sv.length ∧ sv.length ≤ 9 ∧ σ 27 3 = sd.length ∧ sd.length ≤ 9 ∧ (∀ (k : Nat) (x : Int), sv[k]? = some x → σ 28 k = x ∧ 0 ≤ x ∧ x ≤ 10) ∧ (∀ (k : Nat) (x : Int), sd[k]? = some x → σ 29 k = x ∧ 0 ≤ x ∧ x ≤ 9)
theorem cNames_fr {σ σ' : zM} {sv sd : List Int} (h : cNames σ sv sd) (h1 : σ' 27 2 = σ 27 2) (h2 : σ' 27 3 = σ 27 3) (h3 : ∀ i, σ' 28 i = σ 28 i) (h4 : ∀ i, σ' 29 i = σ 29 i) : cNames σ' sv sd := by
  unfold cNames
  rw [h1, h2]
  refine ⟨h.1, h.2.1, h.2.2.1, h.2.2.2.1, fun k x hk => ?_, fun k x hk => ?_⟩
  · rw [h3]; exact h.2.2.2.2.1 k x hk
  · rw [h4]; exact h.2.2.2.2.2 k x hk
theorem zbit {s : Nat} {t : Nat} (hs : s < 512) (ht : t < 10) : zand (zshr s t) 1 = if s.testBit t then 1 else 0 := by
  have : ∀ t : Fin 10, ∀ s : Fin 512, zand (zshr ((s.val : Nat) : Int) ((t.val : Nat) : Int)) 1 = if s.val.testBit t.val then 1 else 0 := by decide +kernel
  exact this ⟨t, ht⟩ ⟨s, hs⟩
theorem c_X2_manyIn (σ : zM) (w : Int) (hw : w = 0 ∨ w = 1) : zCi mX2_manyIn (fun u => [zr u 27, zi w]) σ (fun r σ' => r = (if w = 0 then σ 27 2 else σ 27 3) ∧ σ' = σ) := by
  refine zCi_mk (own := RX2) rfl (by decide +kernel) (fun w0 => [some (zr w0 27), some (zi w)]) (fun _ => rfl) (fun _ => Nat.le_of_ble_eq_true rfl) ?_
  intro Γ h hr
  refine z_iload_n h dX2_manyIn_0 rfl ?_
  refine z_if_ne h dX2_manyIn_1 (by omega) (fun b1 => ?_) (fun b1 => ?_)
  · refine z_raload_n h dX2_manyIn_11 rfl ?_
    refine y_get 3 h dX2_manyIn_12 fX2_22 L27 rfl rfl ?_
    refine z_irI h hr dX2_manyIn_15 ?_
    refine ⟨?_, rfl⟩
    split <;> omega
  · refine z_raload_n h dX2_manyIn_4 rfl ?_
    refine y_get 2 h dX2_manyIn_5 fX2_18 L27 rfl rfl ?_
    refine z_goto h dX2_manyIn_8 ?_
    refine z_irI h hr dX2_manyIn_15 ?_
    refine ⟨?_, rfl⟩
    split <;> omega
def nL (w : Int) (sv sd : List Int) : List Int := if w = 0 then sv else sd
theorem c_X2_isIn (σ : zM) (sv sd : List Int) (w v : Int) (hw : w = 0 ∨ w = 1) (hv : 0 ≤ v ∧ v ≤ 10) (hn : cNames σ sv sd) : zCi mX2_isIn (fun u => [zr u 27, zi w, zi v]) σ (fun r σ' => r = (if v ∈ nL w sv sd then 1 else 0) ∧ σ' = σ) := by
  refine zCi_mk (own := RX2) rfl (by decide +kernel) (fun w0 => [some (zr w0 27), some (zi w), some (zi v), none]) (fun _ => rfl) (fun _ => Nat.le_of_ble_eq_true rfl) ?_
  intro Γ h hr
  have g1 := hn.1
  have g2 := hn.2.1
  have g3 := hn.2.2.1
  have g4 := hn.2.2.2.1
  have gl : ((nL w sv sd).length : Int) = (if w = 0 then σ 27 2 else σ 27 3) ∧ (nL w sv sd).length ≤ 9 := by
    unfold nL; split <;> omega
  have L : ∀ (r k : Nat), k + r = (nL w sv sd).length → (∀ j : Nat, j < k → (nL w sv sd)[j]? ≠ some v) → zV Γ σ 2 [some (zr (zw Γ) 27), some (zi w), some (zi v), some (zi k)] [] := by
    intro r
    induction r with
    | zero =>
      intro k h1 h2
      refine z_iload_n h dX2_isIn_2 rfl ?_
      refine z_raload_n h dX2_isIn_3 rfl ?_
      refine z_iload_n h dX2_isIn_4 rfl ?_
      refine z_cVi1 h dX2_isIn_5 lX2_25 vX2_manyIn rfl L27 (c_X2_manyIn σ w hw) rfl (Nat.le_of_ble_eq_true rfl) (by decide) (fun m σ1 h3 => ?_)
      obtain ⟨rfl, rfl⟩ := h3
      rw [← gl.1]
      refine z_icmp_ge h dX2_isIn_8 (by omega) (by omega) (fun b8 => ?_) (fun b8 => by exfalso; omega)
      refine z_iconst h dX2_isIn_42 ?_
      refine z_irZ h hr dX2_isIn_43 (by first | decide | omega | simp_all) ?_
      refine ⟨?_, rfl⟩
      rw [if_neg]
      intro z
      obtain ⟨j, hj⟩ := List.getElem?_of_mem z
      have := (List.getElem?_eq_some_iff.mp hj).1
      exact h2 j (by omega) hj
    | succ r ih =>
      intro k h1 h2
      have hlt : k < (nL w sv sd).length := by omega
      have hx := List.getElem?_eq_getElem hlt
      have hval : ((w = 0 → σ 28 k = (nL w sv sd)[k]) ∧ (w ≠ 0 → σ 29 k = (nL w sv sd)[k])) ∧ 0 ≤ (nL w sv sd)[k] ∧ (nL w sv sd)[k] ≤ 10 := by
        generalize (nL w sv sd)[k] = x at hx
        unfold nL at hx
        by_cases e : w = 0
        · rw [if_pos e] at hx
          have := hn.2.2.2.2.1 k x hx
          exact ⟨⟨fun _ => this.1, fun z => absurd e z⟩, this.2⟩
        · rw [if_neg e] at hx
          have := hn.2.2.2.2.2 k x hx
          exact ⟨⟨fun z => absurd z e, fun _ => this.1⟩, by omega⟩
      refine z_iload_n h dX2_isIn_2 rfl ?_
      refine z_raload_n h dX2_isIn_3 rfl ?_
      refine z_iload_n h dX2_isIn_4 rfl ?_
      refine z_cVi1 h dX2_isIn_5 lX2_25 vX2_manyIn rfl L27 (c_X2_manyIn σ w hw) rfl (Nat.le_of_ble_eq_true rfl) (by decide) (fun m σ1 h3 => ?_)
      obtain ⟨rfl, rfl⟩ := h3
      rw [← gl.1]
      refine z_icmp_ge h dX2_isIn_8 (by omega) (by omega) (fun b8 => by exfalso; omega) (fun b8 => ?_)
      refine z_iload_n h dX2_isIn_11 rfl ?_
      refine z_if_ne h dX2_isIn_12 (by omega) (fun b12 => ?_) (fun b12 => ?_)
      · refine z_raload_n h dX2_isIn_24 rfl ?_
        refine z_getr h dX2_isIn_25 fX2_15 L27 rfl ?_
        refine z_iload_n h dX2_isIn_28 rfl ?_
        refine z_iald h dX2_isIn_29 L29 (by decide) (by omega) ?_
        refine z_iload_n h dX2_isIn_30 rfl ?_
        refine z_icmp_ne h dX2_isIn_31 (by omega) (by omega) (fun b31 => ?_) (fun b31 => ?_)
        · refine z_iinc h dX2_isIn_36 (by decide) rfl (zst1_3 rfl) ?_
          refine z_goto h dX2_isIn_39 ?_
          refine ih (k + 1) (by omega) (fun j hj z => ?_)
          by_cases e : j = k
          · subst e; rw [hx] at z; have z := Option.some.inj z; omega
          · exact h2 j (by omega) z
        · refine z_iconst h dX2_isIn_34 ?_
          refine z_irZ h hr dX2_isIn_35 (by first | decide | omega | simp_all) ?_
          refine ⟨?_, rfl⟩
          rw [if_pos]
          have e : (nL w sv sd)[k] = v := by omega
          rw [← e]
          exact List.getElem_mem hlt
      · refine z_raload_n h dX2_isIn_15 rfl ?_
        refine z_getr h dX2_isIn_16 fX2_9 L27 rfl ?_
        refine z_iload_n h dX2_isIn_19 rfl ?_
        refine z_iald h dX2_isIn_20 L28 (by decide) (by omega) ?_
        refine z_goto h dX2_isIn_21 ?_
        refine z_iload_n h dX2_isIn_30 rfl ?_
        refine z_icmp_ne h dX2_isIn_31 (by omega) (by omega) (fun b31 => ?_) (fun b31 => ?_)
        · refine z_iinc h dX2_isIn_36 (by decide) rfl (zst1_3 rfl) ?_
          refine z_goto h dX2_isIn_39 ?_
          refine ih (k + 1) (by omega) (fun j hj z => ?_)
          by_cases e : j = k
          · subst e; rw [hx] at z; have z := Option.some.inj z; omega
          · exact h2 j (by omega) z
        · refine z_iconst h dX2_isIn_34 ?_
          refine z_irZ h hr dX2_isIn_35 (by first | decide | omega | simp_all) ?_
          refine ⟨?_, rfl⟩
          rw [if_pos]
          have e : (nL w sv sd)[k] = v := by omega
          rw [← e]
          exact List.getElem_mem hlt
  refine z_iconst h dX2_isIn_0 ?_
  refine z_ist1_n h dX2_isIn_1 (by decide) (zst1_3 rfl) ?_
  exact L (nL w sv sd).length 0 (by omega) (fun j hj => by omega)
theorem c_X2_add (σ : zM) (sv sd : List Int) (w v : Int) (hw : w = 0 ∨ w = 1) (hv : 0 ≤ v ∧ v ≤ 10 ∧ (w = 1 → v ≤ 9)) (hn : cNames σ sv sd) (hl : (nL w sv sd).length < 9) : zCv mX2_add (fun u => [zr u 27, zi w, zi v]) σ (fun σ' => cNames σ' (if w = 0 then sv ++ [v] else sv) (if w = 0 then sd else sd ++ [v]) ∧ zfr 27 29 σ σ') := by
  refine zCv_mk (own := RX2) rfl (by decide +kernel) (fun w0 => [some (zr w0 27), some (zi w), some (zi v)]) (fun _ => rfl) (fun _ => Nat.le_of_ble_eq_true rfl) ?_
  intro Γ h hr
  have g1 := hn.1
  have g2 := hn.2.1
  have g3 := hn.2.2.1
  have g4 := hn.2.2.2.1
  have key : ∀ (l : List Int) (c : Nat) (hi : Int) (σ1 : zM) (i : Int), i = l.length → 0 ≤ v ∧ v ≤ hi → (∀ (k : Nat) (x : Int), l[k]? = some x → σ1 c k = x ∧ 0 ≤ x ∧ x ≤ hi) → ∀ (k : Nat) (x : Int), (l ++ [v])[k]? = some x → zup σ1 c i v c k = x ∧ 0 ≤ x ∧ x ≤ hi := by
    intro l c hi σ1 i e h1 h2 k x hk
    subst e
    by_cases e : k < l.length
    · rw [List.getElem?_append_left e] at hk
      rw [zup_nei (by omega)]
      exact h2 k x hk
    · have e2 := (List.getElem?_eq_some_iff.mp hk).1
      simp at e2
      have e3 : k = l.length := by omega
      subst e3
      simp at hk
      subst hk
      rw [zup_eq]
      exact ⟨rfl, h1⟩
  rcases hw with rfl | rfl
  · have hl' : sv.length < 9 := hl
    refine z_iload_n h dX2_add_0 rfl ?_
    refine z_if_ne h dX2_add_1 (by omega) (fun b1 => by exfalso; omega) (fun b1 => ?_)
    refine z_raload_n h dX2_add_4 rfl ?_
    refine y_get 2 h dX2_add_5 fX2_18 L27 rfl rfl ?_
    refine z_bipush h dX2_add_8 (by decide) ?_
    refine z_icmp_ge h dX2_add_10 (by omega) (by omega) (fun b10 => by exfalso; omega) (fun b10 => ?_)
    refine z_raload_n h dX2_add_13 rfl ?_
    refine z_getr h dX2_add_14 fX2_9 L27 rfl ?_
    refine z_raload_n h dX2_add_17 rfl ?_
    refine y_get 2 h dX2_add_18 fX2_18 L27 rfl rfl ?_
    refine z_iload_n h dX2_add_21 rfl ?_
    refine z_iast h dX2_add_22 L28 (by decide) (by omega) ?_
    refine z_raload_n h dX2_add_23 rfl ?_
    refine z_dup h dX2_add_24 rfl ?_
    refine y_get 2 h dX2_add_25 fX2_18 L27 rfl rfl ?_
    try simp (disch := omega) only [zup_eq, zup_ne, zup_nei]
    refine z_iconst h dX2_add_28 ?_
    refine z_iadd h dX2_add_29 ?_
    refine y_put 2 h dX2_add_30 fX2_18 pX2_2 L27 rfl rfl ?_
    refine z_iload_n h dX2_add_33 rfl ?_
    refine z_iconst h dX2_add_34 ?_
    refine z_icmp_ne h dX2_add_35 (by omega) (by omega) (fun b35 => ?_) (fun b35 => by exfalso; omega)
    refine z_irV h hr dX2_add_67 ?_
    rw [if_pos rfl, if_pos rfl]
    refine ⟨⟨by rw [zup_eq, g1]; simp, by simp; omega, ?_, g4, ?_, ?_⟩, zfr_up (zfr_up zfr_rf (by omega) (by omega)) (by omega) (by omega)⟩
    · simp (disch := omega) only [zup_nei, zup_ne]; exact g3
    · intro k x hk
      rw [zup_ne (by omega)]
      exact key sv 28 10 σ _ g1 ⟨hv.1, hv.2.1⟩ hn.2.2.2.2.1 k x hk
    · intro k x hk
      simp (disch := omega) only [zup_ne]
      exact hn.2.2.2.2.2 k x hk
  · have hl' : sd.length < 9 := hl
    refine z_iload_n h dX2_add_0 rfl ?_
    refine z_if_ne h dX2_add_1 (by omega) (fun b1 => ?_) (fun b1 => by exfalso; omega)
    refine z_iload_n h dX2_add_33 rfl ?_
    refine z_iconst h dX2_add_34 ?_
    refine z_icmp_ne h dX2_add_35 (by omega) (by omega) (fun b35 => by exfalso; omega) (fun b35 => ?_)
    refine z_raload_n h dX2_add_38 rfl ?_
    refine y_get 3 h dX2_add_39 fX2_22 L27 rfl rfl ?_
    refine z_bipush h dX2_add_42 (by decide) ?_
    refine z_icmp_ge h dX2_add_44 (by omega) (by omega) (fun b44 => by exfalso; omega) (fun b44 => ?_)
    refine z_raload_n h dX2_add_47 rfl ?_
    refine z_getr h dX2_add_48 fX2_15 L27 rfl ?_
    refine z_raload_n h dX2_add_51 rfl ?_
    refine y_get 3 h dX2_add_52 fX2_22 L27 rfl rfl ?_
    refine z_iload_n h dX2_add_55 rfl ?_
    refine z_iast h dX2_add_56 L29 (by decide) (by omega) ?_
    refine z_raload_n h dX2_add_57 rfl ?_
    refine z_dup h dX2_add_58 rfl ?_
    refine y_get 3 h dX2_add_59 fX2_22 L27 rfl rfl ?_
    try simp (disch := omega) only [zup_eq, zup_ne, zup_nei]
    refine z_iconst h dX2_add_62 ?_
    refine z_iadd h dX2_add_63 ?_
    refine y_put 3 h dX2_add_64 fX2_22 pX2_3 L27 rfl rfl ?_
    refine z_irV h hr dX2_add_67 ?_
    rw [if_neg (by decide), if_neg (by decide)]
    refine ⟨⟨?_, g2, by rw [zup_eq, g3]; simp, by simp; omega, ?_, ?_⟩, zfr_up (zfr_up zfr_rf (by omega) (by omega)) (by omega) (by omega)⟩
    · simp (disch := omega) only [zup_nei, zup_ne]; exact g1
    · intro k x hk
      simp (disch := omega) only [zup_ne]
      exact hn.2.2.2.2.1 k x hk
    · intro k x hk
      rw [zup_ne (by omega)]
      exact key sd 29 9 σ _ g3 ⟨hv.1, hv.2.2 rfl⟩ hn.2.2.2.2.2 k x hk
theorem c_X2_forget (σ : zM) : zCv mX2_forget (fun u => [zr u 27]) σ (fun σ' => cNames σ' [] [] ∧ zfr 27 29 σ σ') := by
  refine zCv_mk (own := RX2) rfl (by decide +kernel) (fun w => [some (zr w 27)]) (fun _ => rfl) (fun _ => Nat.le_of_ble_eq_true rfl) ?_
  intro Γ h hr
  refine z_raload_n h dX2_forget_0 rfl ?_
  refine z_iconst h dX2_forget_1 ?_
  refine y_put 2 h dX2_forget_2 fX2_18 pX2_2 L27 rfl rfl ?_
  refine z_raload_n h dX2_forget_5 rfl ?_
  refine z_iconst h dX2_forget_6 ?_
  refine y_put 3 h dX2_forget_7 fX2_22 pX2_3 L27 rfl rfl ?_
  refine z_irV h hr dX2_forget_10 ?_
  refine ⟨⟨by simp (disch := omega) only [zup_nei, zup_eq]; rfl, by simp, by rw [zup_eq]; rfl, by simp, by simp, by simp⟩, zfr_up (zfr_up zfr_rf (by omega) (by omega)) (by omega) (by omega)⟩
/-- is it as SEEN, if the row turned in the minutes of the set -/
def nF (sv sd : List Int) (set : Nat) : Nat → Int → Int → Bool → Nat → Bool
  | 0, _, _, _, _ => true
  | r + 1, lo, hi, tn, t =>
    let tn' := if set.testBit t then !tn else tn
    let who := if tn' then sd.getD hi.toNat 0 else sd.getD lo.toNat 0
    if sv.getD t 0 = 10 ∨ sv.getD t 0 = who then nF sv sd set r (if tn' then lo else lo + 1) (if tn' then hi - 1 else hi) tn' (t + 1) else false
def nFit (sv sd : List Int) (set : Nat) : Bool := nF sv sd set sv.length 0 (sd.length - 1) false 0
def zb (b : Bool) : Int := if b then 1 else 0
theorem nF_s (sv sd : List Int) (set r : Nat) (lo hi : Int) (tn tn' : Bool) (t : Nat) (who : Int) (h1 : tn' = if set.testBit t then !tn else tn) (h2 : who = if tn' then sd.getD hi.toNat 0 else sd.getD lo.toNat 0) : nF sv sd set (r + 1) lo hi tn t = if sv.getD t 0 = 10 ∨ sv.getD t 0 = who then nF sv sd set r (if tn' then lo else lo + 1) (if tn' then hi - 1 else hi) tn' (t + 1) else false := by
  subst h1; subst h2; rfl
theorem c_X2_isFitting (σ : zM) (sv sd : List Int) (s : Nat) (hs : s < 512) (hn : cNames σ sv sd) (hle : sv.length ≤ sd.length) : zCi mX2_isFitting (fun u => [zr u 27, zi s]) σ (fun r σ' => r = zb (nFit sv sd s) ∧ σ' = σ) := by
  refine zCi_mk (own := RX2) rfl (by decide +kernel) (fun w => [some (zr w 27), some (zi s), none, none, none, none, none]) (fun _ => rfl) (fun _ => Nat.le_of_ble_eq_true rfl) ?_
  intro Γ h hr
  have g1 := hn.1
  have g2 := hn.2.1
  have g3 := hn.2.2.1
  have g4 := hn.2.2.2.1
  have L : ∀ (r t : Nat) (lo hi tv : Int) (tn : Bool) (f6 : Option Value), t + r = sv.length → hi - lo + 1 + t = sd.length → 0 ≤ lo → hi < sd.length → tv = zb tn → nFit sv sd s = nF sv sd s r lo hi tn t → zV Γ σ 15 [some (zr (zw Γ) 27), some (zi s), some (zi lo), some (zi hi), some (zi tv), some (zi t), f6] [] := by
    intro r
    induction r with
    | zero =>
      intro t lo hi tv tn f6 h1 h2 h3 h4 h5 h6
      refine z_iload h dX2_isFitting_15 rfl ?_
      refine z_raload_n h dX2_isFitting_17 rfl ?_
      refine y_get 2 h dX2_isFitting_18 fX2_18 L27 rfl rfl ?_
      refine z_icmp_ge h dX2_isFitting_21 (by omega) (by omega) (fun b21 => ?_) (fun b21 => by exfalso; omega)
      refine z_iconst h dX2_isFitting_119 ?_
      refine z_irZ h hr dX2_isFitting_120 (by first | decide | omega | simp_all) ?_
      rw [h6]
      exact ⟨rfl, rfl⟩
    | succ r ih =>
      intro t lo hi tv tn f6 h1 h2 h3 h4 h5 h6
      have hlt : t < sv.length := by omega
      have hx := hn.2.2.2.2.1 t _ (List.getElem?_eq_getElem hlt)
      have hlo : lo.toNat < sd.length := by omega
      have hhi : hi.toNat < sd.length := by omega
      have hy := hn.2.2.2.2.2 lo.toNat _ (List.getElem?_eq_getElem hlo)
      have hz := hn.2.2.2.2.2 hi.toNat _ (List.getElem?_eq_getElem hhi)
      rw [Int.toNat_of_nonneg (by omega)] at hy hz
      have ex : sv.getD t 0 = sv[t] := by rw [List.getD_eq_getElem?_getD, List.getElem?_eq_getElem hlt]; rfl
      have ey : sd.getD lo.toNat 0 = sd[lo.toNat] := by rw [List.getD_eq_getElem?_getD, List.getElem?_eq_getElem hlo]; rfl
      have ez : sd.getD hi.toNat 0 = sd[hi.toNat] := by rw [List.getD_eq_getElem?_getD, List.getElem?_eq_getElem hhi]; rfl
      have hbit := zbit hs (show t < 10 by omega)
      by_cases cfalsefalse : tn = false ∧ s.testBit t = false
      · obtain ⟨rfl, hb⟩ := cfalsefalse
        have hbv : zand (zshr s t) 1 = 0 := by rw [hbit, hb]; rfl
        have htv : tv = 0 := h5
        rw [nF_s sv sd s r lo hi false false t (sd[lo.toNat]) (by rw [hb]; rfl) (by exact ey.symm), ex] at h6
        refine z_iload h dX2_isFitting_15 rfl ?_
        refine z_raload_n h dX2_isFitting_17 rfl ?_
        refine y_get 2 h dX2_isFitting_18 fX2_18 L27 rfl rfl ?_
        refine z_icmp_ge h dX2_isFitting_21 (by omega) (by omega) (fun b21 => by exfalso; omega) (fun b21 => ?_)
        refine z_iload_n h dX2_isFitting_24 rfl ?_
        refine z_iload_n h dX2_isFitting_25 rfl ?_
        refine z_icmp_gt h dX2_isFitting_26 (by omega) (by omega) (fun b26 => by exfalso; omega) (fun b26 => ?_)
        refine z_iload_n h dX2_isFitting_29 rfl ?_
        refine z_iload h dX2_isFitting_30 rfl ?_
        refine z_ishr h dX2_isFitting_32 ?_
        refine z_iconst h dX2_isFitting_33 ?_
        refine z_iand h dX2_isFitting_34 ?_
        refine z_iconst h dX2_isFitting_35 ?_
        refine z_icmp_ne h dX2_isFitting_36 (by omega) (by omega) (fun b36 => ?_) (fun b36 => by exfalso; omega)
        refine z_iload h dX2_isFitting_51 rfl ?_
        refine z_if_eq h dX2_isFitting_53 (by omega) (fun b53 => ?_) (fun b53 => by exfalso; omega)
        refine z_raload_n h dX2_isFitting_65 rfl ?_
        refine z_getr h dX2_isFitting_66 fX2_15 L27 rfl ?_
        refine z_iload_n h dX2_isFitting_69 rfl ?_
        refine z_iald h dX2_isFitting_70 L29 (by decide) (by omega) ?_
        refine z_ist1 h dX2_isFitting_71 (by decide) (zst1_6 rfl) ?_
        refine z_raload_n h dX2_isFitting_73 rfl ?_
        refine z_getr h dX2_isFitting_74 fX2_9 L27 rfl ?_
        refine z_iload h dX2_isFitting_77 rfl ?_
        refine z_iald h dX2_isFitting_79 L28 (by decide) (by omega) ?_
        refine z_bipush h dX2_isFitting_80 (by decide) ?_
        refine z_icmp_eq h dX2_isFitting_82 (by omega) (by omega) (fun b82 => ?_) (fun b82 => ?_)
        · refine z_iload h dX2_isFitting_99 rfl ?_
          refine z_if_eq h dX2_isFitting_101 (by omega) (fun b101 => ?_) (fun b101 => by exfalso; omega)
          refine z_iinc h dX2_isFitting_110 (by decide) rfl (zst1_2 rfl) ?_
          refine z_iinc h dX2_isFitting_113 (by decide) rfl (zst1_5 rfl) ?_
          refine z_goto h dX2_isFitting_116 ?_
          rw [if_pos (by omega)] at h6
          exact ih (t + 1) (lo + 1) hi _ false _ (by omega) (by omega) (by omega) (by omega) (by first | rfl | (rw [htv]; rfl)) h6
        · refine z_raload_n h dX2_isFitting_85 rfl ?_
          refine z_getr h dX2_isFitting_86 fX2_9 L27 rfl ?_
          refine z_iload h dX2_isFitting_89 rfl ?_
          refine z_iald h dX2_isFitting_91 L28 (by decide) (by omega) ?_
          refine z_iload h dX2_isFitting_92 rfl ?_
          refine z_icmp_eq h dX2_isFitting_94 (by omega) (by omega) (fun b94 => ?_) (fun b94 => ?_)
          · refine z_iload h dX2_isFitting_99 rfl ?_
            refine z_if_eq h dX2_isFitting_101 (by omega) (fun b101 => ?_) (fun b101 => by exfalso; omega)
            refine z_iinc h dX2_isFitting_110 (by decide) rfl (zst1_2 rfl) ?_
            refine z_iinc h dX2_isFitting_113 (by decide) rfl (zst1_5 rfl) ?_
            refine z_goto h dX2_isFitting_116 ?_
            rw [if_pos (by omega)] at h6
            exact ih (t + 1) (lo + 1) hi _ false _ (by omega) (by omega) (by omega) (by omega) (by first | rfl | (rw [htv]; rfl)) h6
          · refine z_iconst h dX2_isFitting_97 ?_
            refine z_irZ h hr dX2_isFitting_98 (by first | decide | omega | simp_all) ?_
            rw [if_neg (by omega)] at h6
            rw [h6]
            exact ⟨rfl, rfl⟩
      by_cases cfalsetrue : tn = false ∧ s.testBit t = true
      · obtain ⟨rfl, hb⟩ := cfalsetrue
        have hbv : zand (zshr s t) 1 = 1 := by rw [hbit, hb]; rfl
        have htv : tv = 0 := h5
        rw [nF_s sv sd s r lo hi false true t (sd[hi.toNat]) (by rw [hb]; rfl) (by exact ez.symm), ex] at h6
        refine z_iload h dX2_isFitting_15 rfl ?_
        refine z_raload_n h dX2_isFitting_17 rfl ?_
        refine y_get 2 h dX2_isFitting_18 fX2_18 L27 rfl rfl ?_
        refine z_icmp_ge h dX2_isFitting_21 (by omega) (by omega) (fun b21 => by exfalso; omega) (fun b21 => ?_)
        refine z_iload_n h dX2_isFitting_24 rfl ?_
        refine z_iload_n h dX2_isFitting_25 rfl ?_
        refine z_icmp_gt h dX2_isFitting_26 (by omega) (by omega) (fun b26 => by exfalso; omega) (fun b26 => ?_)
        refine z_iload_n h dX2_isFitting_29 rfl ?_
        refine z_iload h dX2_isFitting_30 rfl ?_
        refine z_ishr h dX2_isFitting_32 ?_
        refine z_iconst h dX2_isFitting_33 ?_
        refine z_iand h dX2_isFitting_34 ?_
        refine z_iconst h dX2_isFitting_35 ?_
        refine z_icmp_ne h dX2_isFitting_36 (by omega) (by omega) (fun b36 => by exfalso; omega) (fun b36 => ?_)
        refine z_iload h dX2_isFitting_39 rfl ?_
        refine z_if_ne h dX2_isFitting_41 (by omega) (fun b41 => by exfalso; omega) (fun b41 => ?_)
        refine z_iconst h dX2_isFitting_44 ?_
        refine z_goto h dX2_isFitting_45 ?_
        refine z_ist1 h dX2_isFitting_49 (by decide) (zst1_4 rfl) ?_
        refine z_iload h dX2_isFitting_51 rfl ?_
        refine z_if_eq h dX2_isFitting_53 (by omega) (fun b53 => by exfalso; omega) (fun b53 => ?_)
        refine z_raload_n h dX2_isFitting_56 rfl ?_
        refine z_getr h dX2_isFitting_57 fX2_15 L27 rfl ?_
        refine z_iload_n h dX2_isFitting_60 rfl ?_
        refine z_iald h dX2_isFitting_61 L29 (by decide) (by omega) ?_
        refine z_goto h dX2_isFitting_62 ?_
        refine z_ist1 h dX2_isFitting_71 (by decide) (zst1_6 rfl) ?_
        refine z_raload_n h dX2_isFitting_73 rfl ?_
        refine z_getr h dX2_isFitting_74 fX2_9 L27 rfl ?_
        refine z_iload h dX2_isFitting_77 rfl ?_
        refine z_iald h dX2_isFitting_79 L28 (by decide) (by omega) ?_
        refine z_bipush h dX2_isFitting_80 (by decide) ?_
        refine z_icmp_eq h dX2_isFitting_82 (by omega) (by omega) (fun b82 => ?_) (fun b82 => ?_)
        · refine z_iload h dX2_isFitting_99 rfl ?_
          refine z_if_eq h dX2_isFitting_101 (by omega) (fun b101 => by exfalso; omega) (fun b101 => ?_)
          refine z_iinc h dX2_isFitting_104 (by decide) rfl (zst1_3 rfl) ?_
          refine z_goto h dX2_isFitting_107 ?_
          refine z_iinc h dX2_isFitting_113 (by decide) rfl (zst1_5 rfl) ?_
          refine z_goto h dX2_isFitting_116 ?_
          rw [if_pos (by omega)] at h6
          exact ih (t + 1) lo (hi - 1) _ true _ (by omega) (by omega) (by omega) (by omega) (by first | rfl | (rw [htv]; rfl)) h6
        · refine z_raload_n h dX2_isFitting_85 rfl ?_
          refine z_getr h dX2_isFitting_86 fX2_9 L27 rfl ?_
          refine z_iload h dX2_isFitting_89 rfl ?_
          refine z_iald h dX2_isFitting_91 L28 (by decide) (by omega) ?_
          refine z_iload h dX2_isFitting_92 rfl ?_
          refine z_icmp_eq h dX2_isFitting_94 (by omega) (by omega) (fun b94 => ?_) (fun b94 => ?_)
          · refine z_iload h dX2_isFitting_99 rfl ?_
            refine z_if_eq h dX2_isFitting_101 (by omega) (fun b101 => by exfalso; omega) (fun b101 => ?_)
            refine z_iinc h dX2_isFitting_104 (by decide) rfl (zst1_3 rfl) ?_
            refine z_goto h dX2_isFitting_107 ?_
            refine z_iinc h dX2_isFitting_113 (by decide) rfl (zst1_5 rfl) ?_
            refine z_goto h dX2_isFitting_116 ?_
            rw [if_pos (by omega)] at h6
            exact ih (t + 1) lo (hi - 1) _ true _ (by omega) (by omega) (by omega) (by omega) (by first | rfl | (rw [htv]; rfl)) h6
          · refine z_iconst h dX2_isFitting_97 ?_
            refine z_irZ h hr dX2_isFitting_98 (by first | decide | omega | simp_all) ?_
            rw [if_neg (by omega)] at h6
            rw [h6]
            exact ⟨rfl, rfl⟩
      by_cases ctruefalse : tn = true ∧ s.testBit t = false
      · obtain ⟨rfl, hb⟩ := ctruefalse
        have hbv : zand (zshr s t) 1 = 0 := by rw [hbit, hb]; rfl
        have htv : tv = 1 := h5
        rw [nF_s sv sd s r lo hi true true t (sd[hi.toNat]) (by rw [hb]; rfl) (by exact ez.symm), ex] at h6
        refine z_iload h dX2_isFitting_15 rfl ?_
        refine z_raload_n h dX2_isFitting_17 rfl ?_
        refine y_get 2 h dX2_isFitting_18 fX2_18 L27 rfl rfl ?_
        refine z_icmp_ge h dX2_isFitting_21 (by omega) (by omega) (fun b21 => by exfalso; omega) (fun b21 => ?_)
        refine z_iload_n h dX2_isFitting_24 rfl ?_
        refine z_iload_n h dX2_isFitting_25 rfl ?_
        refine z_icmp_gt h dX2_isFitting_26 (by omega) (by omega) (fun b26 => by exfalso; omega) (fun b26 => ?_)
        refine z_iload_n h dX2_isFitting_29 rfl ?_
        refine z_iload h dX2_isFitting_30 rfl ?_
        refine z_ishr h dX2_isFitting_32 ?_
        refine z_iconst h dX2_isFitting_33 ?_
        refine z_iand h dX2_isFitting_34 ?_
        refine z_iconst h dX2_isFitting_35 ?_
        refine z_icmp_ne h dX2_isFitting_36 (by omega) (by omega) (fun b36 => ?_) (fun b36 => by exfalso; omega)
        refine z_iload h dX2_isFitting_51 rfl ?_
        refine z_if_eq h dX2_isFitting_53 (by omega) (fun b53 => by exfalso; omega) (fun b53 => ?_)
        refine z_raload_n h dX2_isFitting_56 rfl ?_
        refine z_getr h dX2_isFitting_57 fX2_15 L27 rfl ?_
        refine z_iload_n h dX2_isFitting_60 rfl ?_
        refine z_iald h dX2_isFitting_61 L29 (by decide) (by omega) ?_
        refine z_goto h dX2_isFitting_62 ?_
        refine z_ist1 h dX2_isFitting_71 (by decide) (zst1_6 rfl) ?_
        refine z_raload_n h dX2_isFitting_73 rfl ?_
        refine z_getr h dX2_isFitting_74 fX2_9 L27 rfl ?_
        refine z_iload h dX2_isFitting_77 rfl ?_
        refine z_iald h dX2_isFitting_79 L28 (by decide) (by omega) ?_
        refine z_bipush h dX2_isFitting_80 (by decide) ?_
        refine z_icmp_eq h dX2_isFitting_82 (by omega) (by omega) (fun b82 => ?_) (fun b82 => ?_)
        · refine z_iload h dX2_isFitting_99 rfl ?_
          refine z_if_eq h dX2_isFitting_101 (by omega) (fun b101 => by exfalso; omega) (fun b101 => ?_)
          refine z_iinc h dX2_isFitting_104 (by decide) rfl (zst1_3 rfl) ?_
          refine z_goto h dX2_isFitting_107 ?_
          refine z_iinc h dX2_isFitting_113 (by decide) rfl (zst1_5 rfl) ?_
          refine z_goto h dX2_isFitting_116 ?_
          rw [if_pos (by omega)] at h6
          exact ih (t + 1) lo (hi - 1) _ true _ (by omega) (by omega) (by omega) (by omega) (by first | rfl | (rw [htv]; rfl)) h6
        · refine z_raload_n h dX2_isFitting_85 rfl ?_
          refine z_getr h dX2_isFitting_86 fX2_9 L27 rfl ?_
          refine z_iload h dX2_isFitting_89 rfl ?_
          refine z_iald h dX2_isFitting_91 L28 (by decide) (by omega) ?_
          refine z_iload h dX2_isFitting_92 rfl ?_
          refine z_icmp_eq h dX2_isFitting_94 (by omega) (by omega) (fun b94 => ?_) (fun b94 => ?_)
          · refine z_iload h dX2_isFitting_99 rfl ?_
            refine z_if_eq h dX2_isFitting_101 (by omega) (fun b101 => by exfalso; omega) (fun b101 => ?_)
            refine z_iinc h dX2_isFitting_104 (by decide) rfl (zst1_3 rfl) ?_
            refine z_goto h dX2_isFitting_107 ?_
            refine z_iinc h dX2_isFitting_113 (by decide) rfl (zst1_5 rfl) ?_
            refine z_goto h dX2_isFitting_116 ?_
            rw [if_pos (by omega)] at h6
            exact ih (t + 1) lo (hi - 1) _ true _ (by omega) (by omega) (by omega) (by omega) (by first | rfl | (rw [htv]; rfl)) h6
          · refine z_iconst h dX2_isFitting_97 ?_
            refine z_irZ h hr dX2_isFitting_98 (by first | decide | omega | simp_all) ?_
            rw [if_neg (by omega)] at h6
            rw [h6]
            exact ⟨rfl, rfl⟩
      by_cases ctruetrue : tn = true ∧ s.testBit t = true
      · obtain ⟨rfl, hb⟩ := ctruetrue
        have hbv : zand (zshr s t) 1 = 1 := by rw [hbit, hb]; rfl
        have htv : tv = 1 := h5
        rw [nF_s sv sd s r lo hi true false t (sd[lo.toNat]) (by rw [hb]; rfl) (by exact ey.symm), ex] at h6
        refine z_iload h dX2_isFitting_15 rfl ?_
        refine z_raload_n h dX2_isFitting_17 rfl ?_
        refine y_get 2 h dX2_isFitting_18 fX2_18 L27 rfl rfl ?_
        refine z_icmp_ge h dX2_isFitting_21 (by omega) (by omega) (fun b21 => by exfalso; omega) (fun b21 => ?_)
        refine z_iload_n h dX2_isFitting_24 rfl ?_
        refine z_iload_n h dX2_isFitting_25 rfl ?_
        refine z_icmp_gt h dX2_isFitting_26 (by omega) (by omega) (fun b26 => by exfalso; omega) (fun b26 => ?_)
        refine z_iload_n h dX2_isFitting_29 rfl ?_
        refine z_iload h dX2_isFitting_30 rfl ?_
        refine z_ishr h dX2_isFitting_32 ?_
        refine z_iconst h dX2_isFitting_33 ?_
        refine z_iand h dX2_isFitting_34 ?_
        refine z_iconst h dX2_isFitting_35 ?_
        refine z_icmp_ne h dX2_isFitting_36 (by omega) (by omega) (fun b36 => by exfalso; omega) (fun b36 => ?_)
        refine z_iload h dX2_isFitting_39 rfl ?_
        refine z_if_ne h dX2_isFitting_41 (by omega) (fun b41 => ?_) (fun b41 => by exfalso; omega)
        refine z_iconst h dX2_isFitting_48 ?_
        refine z_ist1 h dX2_isFitting_49 (by decide) (zst1_4 rfl) ?_
        refine z_iload h dX2_isFitting_51 rfl ?_
        refine z_if_eq h dX2_isFitting_53 (by omega) (fun b53 => ?_) (fun b53 => by exfalso; omega)
        refine z_raload_n h dX2_isFitting_65 rfl ?_
        refine z_getr h dX2_isFitting_66 fX2_15 L27 rfl ?_
        refine z_iload_n h dX2_isFitting_69 rfl ?_
        refine z_iald h dX2_isFitting_70 L29 (by decide) (by omega) ?_
        refine z_ist1 h dX2_isFitting_71 (by decide) (zst1_6 rfl) ?_
        refine z_raload_n h dX2_isFitting_73 rfl ?_
        refine z_getr h dX2_isFitting_74 fX2_9 L27 rfl ?_
        refine z_iload h dX2_isFitting_77 rfl ?_
        refine z_iald h dX2_isFitting_79 L28 (by decide) (by omega) ?_
        refine z_bipush h dX2_isFitting_80 (by decide) ?_
        refine z_icmp_eq h dX2_isFitting_82 (by omega) (by omega) (fun b82 => ?_) (fun b82 => ?_)
        · refine z_iload h dX2_isFitting_99 rfl ?_
          refine z_if_eq h dX2_isFitting_101 (by omega) (fun b101 => ?_) (fun b101 => by exfalso; omega)
          refine z_iinc h dX2_isFitting_110 (by decide) rfl (zst1_2 rfl) ?_
          refine z_iinc h dX2_isFitting_113 (by decide) rfl (zst1_5 rfl) ?_
          refine z_goto h dX2_isFitting_116 ?_
          rw [if_pos (by omega)] at h6
          exact ih (t + 1) (lo + 1) hi _ false _ (by omega) (by omega) (by omega) (by omega) (by first | rfl | (rw [htv]; rfl)) h6
        · refine z_raload_n h dX2_isFitting_85 rfl ?_
          refine z_getr h dX2_isFitting_86 fX2_9 L27 rfl ?_
          refine z_iload h dX2_isFitting_89 rfl ?_
          refine z_iald h dX2_isFitting_91 L28 (by decide) (by omega) ?_
          refine z_iload h dX2_isFitting_92 rfl ?_
          refine z_icmp_eq h dX2_isFitting_94 (by omega) (by omega) (fun b94 => ?_) (fun b94 => ?_)
          · refine z_iload h dX2_isFitting_99 rfl ?_
            refine z_if_eq h dX2_isFitting_101 (by omega) (fun b101 => ?_) (fun b101 => by exfalso; omega)
            refine z_iinc h dX2_isFitting_110 (by decide) rfl (zst1_2 rfl) ?_
            refine z_iinc h dX2_isFitting_113 (by decide) rfl (zst1_5 rfl) ?_
            refine z_goto h dX2_isFitting_116 ?_
            rw [if_pos (by omega)] at h6
            exact ih (t + 1) (lo + 1) hi _ false _ (by omega) (by omega) (by omega) (by omega) (by first | rfl | (rw [htv]; rfl)) h6
          · refine z_iconst h dX2_isFitting_97 ?_
            refine z_irZ h hr dX2_isFitting_98 (by first | decide | omega | simp_all) ?_
            rw [if_neg (by omega)] at h6
            rw [h6]
            exact ⟨rfl, rfl⟩
      · exfalso
        cases tn <;> cases hb : s.testBit t <;> simp_all
  refine z_iconst h dX2_isFitting_0 ?_
  refine z_ist1_n h dX2_isFitting_1 (by decide) (zst1_2 rfl) ?_
  refine z_raload_n h dX2_isFitting_2 rfl ?_
  refine y_get 3 h dX2_isFitting_3 fX2_22 L27 rfl rfl ?_
  refine z_iconst h dX2_isFitting_6 ?_
  refine z_isub h dX2_isFitting_7 ?_
  refine z_ist1_n h dX2_isFitting_8 (by decide) (zst1_3 rfl) ?_
  refine z_iconst h dX2_isFitting_9 ?_
  refine z_ist1 h dX2_isFitting_10 (by decide) (zst1_4 rfl) ?_
  refine z_iconst h dX2_isFitting_12 ?_
  refine z_ist1 h dX2_isFitting_13 (by decide) (zst1_5 rfl) ?_
  exact L sv.length 0 0 _ 0 false none (by omega) (by omega) (by omega) (by omega) rfl (by rw [g3]; rfl)
/-- how many there are, and the lowest -/
def nCnt (f : Nat → Bool) : Nat → Int × Int
  | 0 => (0, -4)
  | s + 1 => if f s then ((nCnt f s).1 + 1, if (nCnt f s).1 = 0 then (s : Int) else (nCnt f s).2) else nCnt f s
theorem nCnt_rg (f : Nat → Bool) : ∀ s, 0 ≤ (nCnt f s).1 ∧ (nCnt f s).1 ≤ s
  | 0 => by simp [nCnt]
  | s + 1 => by
    have := nCnt_rg f s
    unfold nCnt
    split <;> simp <;> omega
theorem c_X2_findTurns (σ : zM) (sv sd : List Int) (hn : cNames σ sv sd) (hle : sv.length ≤ sd.length) : zCv mX2_findTurns (fun u => [zr u 27]) σ (fun σ' => cNames σ' sv sd ∧ zfr 27 27 σ σ' ∧ σ' 27 4 = (nCnt (nFit sv sd) (2 ^ sd.length)).1 ∧ σ' 27 5 = (nCnt (nFit sv sd) (2 ^ sd.length)).2) := by
  refine zCv_mk (own := RX2) rfl (by decide +kernel) (fun w => [some (zr w 27), none, none]) (fun _ => rfl) (fun _ => Nat.le_of_ble_eq_true rfl) ?_
  intro Γ h hr
  have g1 := hn.1
  have g2 := hn.2.1
  have g3 := hn.2.2.1
  have g4 := hn.2.2.2.1
  have g5 : 2 ^ sd.length ≤ 2 ^ 9 := Nat.pow_le_pow_right (by decide) g4
  have L : ∀ (r s : Nat) (σ1 : zM), s + r = 2 ^ sd.length → cNames σ1 sv sd → zfr 27 27 σ σ1 → σ1 27 4 = (nCnt (nFit sv sd) s).1 → σ1 27 5 = (nCnt (nFit sv sd) s).2 → zV Γ σ1 20 [some (zr (zw Γ) 27), some (zi (2 ^ sd.length : Nat)), some (zi s)] [] := by
    intro r
    induction r with
    | zero =>
      intro s σ1 h1 h2 h3 h4 h5
      refine z_iload_n h dX2_findTurns_20 rfl ?_
      refine z_iload_n h dX2_findTurns_21 rfl ?_
      refine z_icmp_ge h dX2_findTurns_22 (by omega) (by omega) (fun b22 => ?_) (fun b22 => by exfalso; omega)
      refine z_irV h hr dX2_findTurns_61 ?_
      rw [show 2 ^ sd.length = s by omega]
      exact ⟨h2, h3, h4, h5⟩
    | succ r ih =>
      intro s σ1 h1 h2 h3 h4 h5
      have g6 := nCnt_rg (nFit sv sd) s
      have hc : nCnt (nFit sv sd) (s + 1) = if nFit sv sd s then ((nCnt (nFit sv sd) s).1 + 1, if (nCnt (nFit sv sd) s).1 = 0 then (s : Int) else (nCnt (nFit sv sd) s).2) else nCnt (nFit sv sd) s := rfl
      cases hb : nFit sv sd s
      · rw [hb] at hc
        have hc : nCnt (nFit sv sd) (s + 1) = nCnt (nFit sv sd) s := hc
        refine z_iload_n h dX2_findTurns_20 rfl ?_
        refine z_iload_n h dX2_findTurns_21 rfl ?_
        refine z_icmp_ge h dX2_findTurns_22 (by omega) (by omega) (fun b22 => by exfalso; omega) (fun b22 => ?_)
        refine z_raload_n h dX2_findTurns_25 rfl ?_
        refine z_iload_n h dX2_findTurns_26 rfl ?_
        refine z_cVi1 h dX2_findTurns_27 lX2_35 vX2_isFitting rfl L27 (c_X2_isFitting σ1 sv sd s (by omega) h2 hle) rfl (Nat.le_of_ble_eq_true rfl) (by decide) (fun v σ2 h7 => ?_)
        obtain ⟨rfl, rfl⟩ := h7
        rw [hb]
        refine z_if_eq h dX2_findTurns_30 (by decide) (fun b30 => ?_) (fun b30 => by exfalso; exact b30 rfl)
        refine z_iinc h dX2_findTurns_55 (by decide) rfl (zst1_2 rfl) ?_
        refine z_goto h dX2_findTurns_58 ?_
        exact ih (s + 1) σ2 (by omega) h2 h3 (by rw [hc]; exact h4) (by rw [hc]; exact h5)
      · rw [hb] at hc
        have hc : nCnt (nFit sv sd) (s + 1) = ((nCnt (nFit sv sd) s).1 + 1, if (nCnt (nFit sv sd) s).1 = 0 then (s : Int) else (nCnt (nFit sv sd) s).2) := hc
        refine z_iload_n h dX2_findTurns_20 rfl ?_
        refine z_iload_n h dX2_findTurns_21 rfl ?_
        refine z_icmp_ge h dX2_findTurns_22 (by omega) (by omega) (fun b22 => by exfalso; omega) (fun b22 => ?_)
        refine z_raload_n h dX2_findTurns_25 rfl ?_
        refine z_iload_n h dX2_findTurns_26 rfl ?_
        refine z_cVi1 h dX2_findTurns_27 lX2_35 vX2_isFitting rfl L27 (c_X2_isFitting σ1 sv sd s (by omega) h2 hle) rfl (Nat.le_of_ble_eq_true rfl) (by decide) (fun v σ2 h7 => ?_)
        obtain ⟨rfl, rfl⟩ := h7
        rw [hb]
        refine z_if_eq h dX2_findTurns_30 (by decide) (fun b30 => by exfalso; exact absurd b30 (by decide)) (fun b30 => ?_)
        refine z_raload_n h dX2_findTurns_33 rfl ?_
        refine y_get 4 h dX2_findTurns_34 fX2_29 L27 rfl rfl ?_
        refine z_if_ne h dX2_findTurns_37 (by omega) (fun b37 => ?_) (fun b37 => ?_)
        · refine z_raload_n h dX2_findTurns_45 rfl ?_
          refine z_dup h dX2_findTurns_46 rfl ?_
          refine y_get 4 h dX2_findTurns_47 fX2_29 L27 rfl rfl ?_
          refine z_iconst h dX2_findTurns_50 ?_
          refine z_iadd h dX2_findTurns_51 ?_
          refine y_put 4 h dX2_findTurns_52 fX2_29 pX2_4 L27 rfl rfl ?_
          refine z_iinc h dX2_findTurns_55 (by decide) rfl (zst1_2 rfl) ?_
          refine z_goto h dX2_findTurns_58 ?_
          refine ih (s + 1) _ (by omega) (cNames_fr h2 ?_ ?_ ?_ ?_) ?_ ?_ ?_
          · simp (disch := omega) only [zup_nei]
          · simp (disch := omega) only [zup_nei]
          · intro i; simp (disch := omega) only [zup_ne]
          · intro i; simp (disch := omega) only [zup_ne]
          · intro c hcc i
            simp (disch := omega) only [zup_ne]
            exact h3 c hcc i
          · simp (disch := omega) only [zup_eq, zup_nei]
            rw [hc, h4]
          · rw [hc]
            simp (disch := omega) only [zup_eq, zup_nei]
            first | (rw [if_pos (by omega)]; done) | (rw [if_neg (by omega)]; exact h5)
        · refine z_raload_n h dX2_findTurns_40 rfl ?_
          refine z_iload_n h dX2_findTurns_41 rfl ?_
          refine y_put 5 h dX2_findTurns_42 fX2_32 pX2_5 L27 rfl rfl ?_
          refine z_raload_n h dX2_findTurns_45 rfl ?_
          refine z_dup h dX2_findTurns_46 rfl ?_
          refine y_get 4 h dX2_findTurns_47 fX2_29 L27 rfl rfl ?_
          try simp (disch := omega) only [zup_eq, zup_ne, zup_nei]
          refine z_iconst h dX2_findTurns_50 ?_
          refine z_iadd h dX2_findTurns_51 ?_
          refine y_put 4 h dX2_findTurns_52 fX2_29 pX2_4 L27 rfl rfl ?_
          refine z_iinc h dX2_findTurns_55 (by decide) rfl (zst1_2 rfl) ?_
          refine z_goto h dX2_findTurns_58 ?_
          refine ih (s + 1) _ (by omega) (cNames_fr h2 ?_ ?_ ?_ ?_) ?_ ?_ ?_
          · simp (disch := omega) only [zup_nei]
          · simp (disch := omega) only [zup_nei]
          · intro i; simp (disch := omega) only [zup_ne]
          · intro i; simp (disch := omega) only [zup_ne]
          · intro c hcc i
            simp (disch := omega) only [zup_ne]
            exact h3 c hcc i
          · simp (disch := omega) only [zup_eq, zup_nei]
            rw [hc, h4]
          · rw [hc]
            simp (disch := omega) only [zup_eq, zup_nei]
            first | (rw [if_pos (by omega)]; done) | (rw [if_neg (by omega)]; exact h5)
  refine z_raload_n h dX2_findTurns_0 rfl ?_
  refine z_iconst h dX2_findTurns_1 ?_
  refine y_put 4 h dX2_findTurns_2 fX2_29 pX2_4 L27 rfl rfl ?_
  refine z_raload_n h dX2_findTurns_5 rfl ?_
  refine z_bipush h dX2_findTurns_6 (by decide) ?_
  refine y_put 5 h dX2_findTurns_8 fX2_32 pX2_5 L27 rfl rfl ?_
  refine z_iconst h dX2_findTurns_11 ?_
  refine z_raload_n h dX2_findTurns_12 rfl ?_
  refine y_get 3 h dX2_findTurns_13 fX2_22 L27 rfl rfl ?_
  try simp (disch := omega) only [zup_eq, zup_ne, zup_nei]
  refine z_ishl h dX2_findTurns_16 ?_
  rw [g3, zshl_1 (by omega), Int.toNat_natCast, show (2 : Int) ^ sd.length = ((2 ^ sd.length : Nat) : Int) by simp]
  refine z_ist1_n h dX2_findTurns_17 (by decide) (zst1_1 rfl) ?_
  refine z_iconst h dX2_findTurns_18 ?_
  refine z_ist1_n h dX2_findTurns_19 (by decide) (zst1_2 rfl) ?_
  refine L (2 ^ sd.length) 0 _ (by omega) (cNames_fr hn ?_ ?_ ?_ ?_) ?_ ?_ ?_
  · simp (disch := omega) only [zup_nei]
  · simp (disch := omega) only [zup_nei]
  · intro i; simp (disch := omega) only [zup_ne]
  · intro i; simp (disch := omega) only [zup_ne]
  · intro c hcc i
    simp (disch := omega) only [zup_ne]
  · simp (disch := omega) only [zup_eq, zup_nei]; rfl
  · simp (disch := omega) only [zup_eq, zup_nei]; rfl
