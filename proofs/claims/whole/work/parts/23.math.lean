/-! ===== the morning as a sequence of states ===== -/
abbrev zS : Type := List Int × (Int → Int) × (Int → Int) × Int × Int × Int
abbrev zMd : Type := Int × Nat × List (Int × Int) × Int
def yCry (P : zP) (md : zMd) (t : Int) (line : List Int) : Bool := if 0 ≤ md.2.2.2 then yDr md.2.2.2 t line P.1 0 0 else yTc md.2.1 t line 0 P.2.1 || yEx t line md.2.2.1
def sAway (P : zP) (t : Int) (s : zS) : zS := (s.1.filter (fun i => !gG P t i), (fun i => if i ∈ s.1 ∧ gG P t i = true then 1 else s.2.1 i), (fun i => if i ∈ s.1 ∧ gG P t i = true then t else s.2.2.1 i), s.2.2.2)
def sTurn (P : zP) (md : zMd) (t : Int) (s : zS) : zS := if md.1 ≠ 3 ∧ P.2.2.1 < t - s.2.2.2.2.1 ∧ yCry P md t s.1 = true then (zTurn md.1 s.1, s.2.1, s.2.2.1, s.2.2.2.1 + 1, t, s.2.2.2.2.2) else s
def sRem (P : zP) (t : Int) : List (Int × Int) := (zod P.1).filter (fun x => decide (t ≤ x.1))
def sCome (P : zP) (md : zMd) (t : Int) (s : zS) : zS := (zCm md.1 t (sRem P t) s.1, s.2)
def sMany (P : zP) (s : zS) : Nat := min s.1.length (min P.2.2.2.1.toNat s.2.2.2.2.2.toNat)
def sServe (P : zP) (t : Int) (s : zS) : zS := if t % P.2.2.2.2.1 = 0 then (s.1.drop (sMany P s), zEd (s.1.take (sMany P s)) 0 s.2.1, zEd (s.1.take (sMany P s)) t s.2.2.1, s.2.2.2.1, s.2.2.2.2.1, s.2.2.2.2.2 - sMany P s) else s
def sHome (t : Int) (s : zS) : zS := if s.2.2.2.2.2 = 0 then ([], zEd s.1 2 s.2.1, zEd s.1 t s.2.2.1, s.2.2.2) else s
def sStep (P : zP) (md : zMd) (t : Int) (s : zS) : zS := sHome t (sServe P t (sCome P md t (sTurn P md t (sAway P t s))))
def sInit (P : zP) : zS := ([], (fun _ => 3), (fun _ => 200), 0, -1000, P.2.2.2.2.2.1)
def sRun (P : zP) (md : zMd) : Nat → zS
  | 0 => sInit P
  | t + 1 => sStep P md t (sRun P md t)
theorem yTc_nil (hu : Nat) (t : Int) : ∀ (l : List (Int × Int)) (c : Nat), yTc hu t [] c l = false
  | [], _ => rfl
  | p :: l, c => by rw [yTc, yTc_nil hu t l]; simp
theorem yDr_nil (z t : Int) : ∀ (l : List (Int × Int × Int)) (i k : Int), yDr z t [] l i k = false
  | [], _, _ => rfl
  | p :: l, i, k => by rw [yDr, yDr_nil z t l, yDr_nil z t l]; simp
theorem yCry_nil (P : zP) (md : zMd) (t : Int) : yCry P md t [] = false := by
  unfold yCry
  split
  · exact yDr_nil _ _ _ _ _
  · rw [yTc_nil]; simp [yEx]
theorem zEd_nil (v : Int) (f : Int → Int) : zEd [] v f = f := by funext i; simp [zEd]
theorem sStep_idle {P : zP} {md : zMd} {t : Int} {s : zS} (hl : s.1 = []) (hr : sRem P t = []) : sStep P md t s = s := by
  obtain ⟨line, how, whn, tu, la, le⟩ := s
  simp only at hl
  subst hl
  have h1 : sAway P t ([], how, whn, tu, la, le) = ([], how, whn, tu, la, le) := by simp [sAway]
  have h2 : sTurn P md t ([], how, whn, tu, la, le) = ([], how, whn, tu, la, le) := by
    unfold sTurn
    rw [if_neg]
    rintro ⟨-, -, h⟩
    rw [yCry_nil] at h
    cases h
  have h3 : sCome P md t ([], how, whn, tu, la, le) = ([], how, whn, tu, la, le) := by
    unfold sCome
    rw [hr]
    rfl
  have h4 : sServe P t ([], how, whn, tu, la, le) = ([], how, whn, tu, la, le) := by
    unfold sServe
    split
    · have : sMany P ([], how, whn, tu, la, le) = 0 := by simp [sMany]
      rw [this]
      simp [zEd_nil]
    · rfl
  have h5 : sHome t ([], how, whn, tu, la, le) = ([], how, whn, tu, la, le) := by
    unfold sHome
    split
    · simp [zEd_nil]
    · rfl
  unfold sStep
  rw [h1, h2, h3, h4, h5]
theorem sRem_next (P : zP) (t : Int) : (sRem P t).dropWhile (fun x => decide (x.1 = t)) = sRem P (t + 1) := by
  have hs := zod_sorted P.1
  unfold sRem
  generalize zod P.1 = l at hs
  induction l with
  | nil => rfl
  | cons x l ih =>
    have h1 := List.pairwise_cons.mp hs
    have ih := ih h1.2
    rw [List.filter_cons, List.filter_cons]
    by_cases e1 : t ≤ x.1
    · rw [if_pos (by simpa using e1)]
      by_cases e2 : x.1 = t
      · rw [if_neg (by simp; omega), List.dropWhile_cons, if_pos (by simpa using e2)]
        exact ih
      · rw [if_pos (by simp; omega), List.dropWhile_cons, if_neg (by simpa using e2)]
        congr 1
        apply List.filter_congr
        intro y hy
        have := h1.1 y hy
        simp only [decide_eq_decide]
        omega
    · rw [if_neg (by simpa using e1), if_neg (by simp; omega)]
      exact ih
theorem zCm_perm (law t : Int) : ∀ (rem : List (Int × Int)) (line : List Int), (zCm law t rem line ++ (rem.dropWhile (fun x => decide (x.1 = t))).map (fun x => x.2)).Perm (line ++ rem.map (fun x => x.2))
  | [], line => by simp [zCm]
  | x :: r, line => by
    rw [zCm, List.dropWhile_cons]
    by_cases e : x.1 = t
    · rw [if_pos e, if_pos (by simpa using e)]
      refine (zCm_perm law t r _).trans ?_
      refine ((zJoin_perm law line x.2).append_right _).trans ?_
      rw [List.map_cons]
      exact List.perm_middle.symm
    · rw [if_neg e, if_neg (by simpa using e)]
/-- the class in a morning: its state is s; who comes before minute b has come -/
def cMs (σ : zM) (P : zP) (s : zS) (t b : Int) : Prop := cRow σ s.1 P.1.length ∧ cEnd σ s.2.1 s.2.2.1 ∧ (σ 5 13 = s.2.2.2.2.2 ∧ 0 ≤ s.2.2.2.2.2 ∧ s.2.2.2.2.2 ≤ 99) ∧ σ 5 14 = s.2.2.2.1 ∧ ((s.2.2.2.2.1 = -1000 ∧ σ 5 15 = -1) ∨ (0 ≤ s.2.2.2.2.1 ∧ s.2.2.2.2.1 ≤ t ∧ σ 5 15 = s.2.2.2.2.1)) ∧ ∃ c : Nat, σ 5 11 = c ∧ c ≤ P.1.length ∧ (zod P.1).drop c = sRem P b ∧ s.1.length ≤ c ∧ σ 5 12 = c - s.1.length ∧ (s.1 ++ (sRem P b).map (fun x => x.2)).Nodup
/-- the mode of the class's morning -/
def cMd (σ : zM) (md : zMd) : Prop := (σ 5 7 = md.1 ∧ 0 ≤ md.1 ∧ md.1 ≤ 3) ∧ (σ 5 8 = md.2.1 ∧ md.2.1 < 256) ∧ (σ 5 9 = md.2.2.2 ∧ -1 ≤ md.2.2.2 ∧ md.2.2.2 ≤ 9999) ∧ (0 ≤ σ 10 0 ∧ σ 10 0 < 10) ∧ (0 ≤ σ 10 1 ∧ σ 10 1 < 10) ∧ (-1 ≤ σ 11 0 ∧ σ 11 0 < 200) ∧ (-1 ≤ σ 11 1 ∧ σ 11 1 < 200) ∧ ∀ (t : Int) (line : List Int), 0 ≤ t → yEx t line [(σ 10 0, σ 11 0), (σ 10 1, σ 11 1)] = yEx t line md.2.2.1
def cKp (σ σ' : zM) : Prop := zfr 5 9 σ σ' ∧ ∀ i : Int, i < 10 → σ' 5 i = σ 5 i
theorem cKp_tr {σ σ1 σ2 : zM} (h1 : cKp σ σ1) (h2 : cKp σ1 σ2) : cKp σ σ2 := ⟨zfr_tr h1.1 h2.1, fun i hi => (h2.2 i hi).trans (h1.2 i hi)⟩
theorem cMd_kp {σ σ' : zM} {md : zMd} (h : cMd σ md) (hk : cKp σ σ') : cMd σ' md := by
  obtain ⟨h1, h2, h3, h4⟩ := h
  unfold cMd
  simp only [hk.2 7 (by omega), hk.2 8 (by omega), hk.2 9 (by omega), hk.1 10 (by omega), hk.1 11 (by omega)]
  exact ⟨h1, h2, h3, h4⟩
theorem m_away {σ σ' : zM} {P : zP} {s : zS} {t b : Int} (h : cMs σ P s t b) (ho : ∀ i : Int, i ≠ 10 → i ≠ 12 → σ' 5 i = σ 5 i) (hR : cRow σ' (s.1.filter (fun i => !gG P t i)) P.1.length) (hE : cEnd σ' (fun i => if i ∈ s.1 ∧ gG P t i = true then 1 else s.2.1 i) (fun i => if i ∈ s.1 ∧ gG P t i = true then t else s.2.2.1 i)) (h12 : σ' 5 12 = σ 5 12 + s.1.length - (s.1.filter (fun i => !gG P t i)).length) : cMs σ' P (sAway P t s) t b := by
  obtain ⟨h1, h2, h3, h4, h5, c, c1, c2, c3, c4, c5, c6⟩ := h
  have hfl := List.length_filter_le (fun i => !gG P t i) s.1
  refine ⟨hR, hE, by rw [ho 13 (by omega) (by omega)]; exact h3, by rw [ho 14 (by omega) (by omega)]; exact h4, by rw [ho 15 (by omega) (by omega)]; exact h5, c, by rw [ho 11 (by omega) (by omega)]; exact c1, c2, c3, ?_, ?_, ?_⟩
  · show (s.1.filter (fun i => !gG P t i)).length ≤ c
    omega
  · show σ' 5 12 = c - (s.1.filter (fun i => !gG P t i)).length
    omega
  · exact c6.sublist (List.filter_sublist.append (List.Sublist.refl _))
theorem m_turn {σ σ' : zM} {P : zP} {md : zMd} {s : zS} {t b : Int} (ht : 0 ≤ t) (h : cMs σ P s t b) (hcr : yCry P md t s.1 = true) (hc : md.1 ≠ 3 ∧ P.2.2.1 < t - s.2.2.2.2.1) (ho : ∀ i : Int, i ≠ 14 → i ≠ 15 → σ' 5 i = σ 5 i) (hf : ∀ c, c ≠ 5 → c ≠ 9 → ∀ i, σ' c i = σ c i) (hR : cRow σ' (zTurn md.1 s.1) P.1.length) (h14 : σ' 5 14 = σ 5 14 + 1) (h15 : σ' 5 15 = t) : cMs σ' P (sTurn P md t s) t b := by
  obtain ⟨h1, h2, h3, h4, h5, c, c1, c2, c3, c4, c5, c6⟩ := h
  have e : sTurn P md t s = (zTurn md.1 s.1, s.2.1, s.2.2.1, s.2.2.2.1 + 1, t, s.2.2.2.2.2) := by unfold sTurn; rw [if_pos ⟨hc.1, hc.2, hcr⟩]
  rw [e]
  refine ⟨hR, fun i a b => ?_, by rw [ho 13 (by omega) (by omega)]; exact h3, by rw [h14, h4], Or.inr ⟨ht, Int.le_refl _, h15⟩, c, by rw [ho 11 (by omega) (by omega)]; exact c1, c2, c3, ?_, ?_, ?_⟩
  · rw [hf 6 (by omega) (by omega), hf 7 (by omega) (by omega)]; exact h2 i a b
  · show (zTurn md.1 s.1).length ≤ c
    rw [zTurn_len]; exact c4
  · show σ' 5 12 = c - (zTurn md.1 s.1).length
    rw [zTurn_len, ho 12 (by omega) (by omega)]; exact c5
  · exact (((zTurn_perm md.1 s.1).append_right _).nodup_iff).mpr c6
theorem m_come {σ σ' : zM} {P : zP} {md : zMd} {s : zS} {t : Int} (h : cMs σ P s t t) (c : Nat) (c1 : σ 5 11 = c) (c2 : c ≤ P.1.length) (c3 : (zod P.1).drop c = sRem P t) (c4 : s.1.length ≤ c) (c5 : σ 5 12 = c - s.1.length) (c6 : (s.1 ++ (sRem P t).map (fun x => x.2)).Nodup) (ho : ∀ i : Int, i ≠ 10 → i ≠ 11 → σ' 5 i = σ 5 i) (hf : ∀ c, c ≠ 5 → c ≠ 8 → c ≠ 9 → ∀ i, σ' c i = σ c i) (hR : cRow σ' (zCm md.1 t ((zod P.1).drop c) s.1) P.1.length) (hc' : ∃ c' : Nat, σ' 5 11 = c' ∧ c' ≤ P.1.length ∧ (zod P.1).drop c' = ((zod P.1).drop c).dropWhile (fun x => decide (x.1 = t)) ∧ (c' : Int) - (zCm md.1 t ((zod P.1).drop c) s.1).length = (c : Int) - s.1.length) : cMs σ' P (sCome P md t s) t (t + 1) := by
  obtain ⟨h1, h2, h3, h4, h5, -⟩ := h
  obtain ⟨c', d1, d2, d3, d4⟩ := hc'
  rw [c3] at hR d3 d4
  rw [sRem_next] at d3
  refine ⟨hR, fun i a b => ?_, by rw [ho 13 (by omega) (by omega)]; exact h3, by rw [ho 14 (by omega) (by omega)]; exact h4, by rw [ho 15 (by omega) (by omega)]; exact h5, c', d1, d2, d3, ?_, ?_, ?_⟩
  · rw [hf 6 (by omega) (by omega) (by omega), hf 7 (by omega) (by omega) (by omega)]; exact h2 i a b
  · show (zCm md.1 t (sRem P t) s.1).length ≤ c'
    omega
  · show σ' 5 12 = c' - (zCm md.1 t (sRem P t) s.1).length
    rw [ho 12 (by omega) (by omega)]; omega
  · show (zCm md.1 t (sRem P t) s.1 ++ (sRem P (t + 1)).map (fun x => x.2)).Nodup
    rw [← sRem_next]
    exact ((zCm_perm md.1 t (sRem P t) s.1).nodup_iff).mpr c6
theorem m_serve {σ σ' : zM} {P : zP} {s : zS} {t b : Int} (hd : t % P.2.2.2.2.1 = 0) (h : cMs σ P s t b) (ho : ∀ i : Int, i ≠ 10 → i ≠ 12 → i ≠ 13 → σ' 5 i = σ 5 i) (hR : cRow σ' (s.1.drop (sMany P s)) P.1.length) (hE : cEnd σ' (zEd (s.1.take (sMany P s)) 0 s.2.1) (zEd (s.1.take (sMany P s)) t s.2.2.1)) (h12 : σ' 5 12 = σ 5 12 + sMany P s) (h13 : σ' 5 13 = s.2.2.2.2.2 - sMany P s) : cMs σ' P (sServe P t s) t b := by
  obtain ⟨h1, h2, h3, h4, h5, c, c1, c2, c3, c4, c5, c6⟩ := h
  unfold sServe
  rw [if_pos hd]
  have hm : sMany P s ≤ s.1.length ∧ (sMany P s : Int) ≤ s.2.2.2.2.2 := by unfold sMany; omega
  refine ⟨hR, hE, ⟨h13, ?_, ?_⟩, by rw [ho 14 (by omega) (by omega) (by omega)]; exact h4, by rw [ho 15 (by omega) (by omega) (by omega)]; exact h5, c, by rw [ho 11 (by omega) (by omega) (by omega)]; exact c1, c2, c3, ?_, ?_, ?_⟩
  · show 0 ≤ s.2.2.2.2.2 - (sMany P s : Int)
    omega
  · show s.2.2.2.2.2 - (sMany P s : Int) ≤ 99
    omega
  · show (s.1.drop (sMany P s)).length ≤ c
    rw [List.length_drop]; omega
  · show σ' 5 12 = c - (s.1.drop (sMany P s)).length
    rw [List.length_drop]; omega
  · exact c6.sublist ((List.drop_sublist _ _).append (List.Sublist.refl _))
theorem m_home {σ σ' : zM} {P : zP} {s : zS} {t b : Int} (hl : s.2.2.2.2.2 = 0) (h : cMs σ P s t b) (ho : ∀ i : Int, i ≠ 10 → i ≠ 12 → σ' 5 i = σ 5 i) (hR : cRow σ' [] P.1.length) (hE : cEnd σ' (zEd s.1 2 s.2.1) (zEd s.1 t s.2.2.1)) (h12 : σ' 5 12 = σ 5 12 + s.1.length) : cMs σ' P (sHome t s) t b := by
  obtain ⟨h1, h2, h3, h4, h5, c, c1, c2, c3, c4, c5, c6⟩ := h
  unfold sHome
  rw [if_pos hl]
  refine ⟨hR, hE, by rw [ho 13 (by omega) (by omega)]; exact h3, by rw [ho 14 (by omega) (by omega)]; exact h4, by rw [ho 15 (by omega) (by omega)]; exact h5, c, by rw [ho 11 (by omega) (by omega)]; exact c1, c2, c3, ?_, ?_, ?_⟩
  · show ([] : List Int).length ≤ c
    simp
  · show σ' 5 12 = c - ([] : List Int).length
    simp; omega
  · exact c6.sublist ((List.nil_sublist _).append (List.Sublist.refl _))
