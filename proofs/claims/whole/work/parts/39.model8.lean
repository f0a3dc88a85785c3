/-! ===== the count of the unfair pairs, over numbers ===== -/
def lsum (f : Int → Int) : List Int → Int
  | [] => 0
  | x :: l => f x + lsum f l
theorem lsum_perm (f : Int → Int) {l l' : List Int} (h : l.Perm l') : lsum f l = lsum f l' := by
  induction h with
  | nil => rfl
  | cons x _ ih => rw [lsum, lsum, ih]
  | swap x y l => simp only [lsum]; omega
  | trans _ _ ih1 ih2 => rw [ih1, ih2]
theorem lsum_app (f : Int → Int) : ∀ (l l' : List Int), lsum f (l ++ l') = lsum f l + lsum f l'
  | [], l' => by simp [lsum]
  | x :: l, l' => by rw [List.cons_append, lsum, lsum, lsum_app f l l']; omega
theorem lsum_congr {f g : Int → Int} : ∀ (l : List Int), (∀ x ∈ l, f x = g x) → lsum f l = lsum g l
  | [], _ => rfl
  | x :: l, h => by rw [lsum, lsum, h x (by simp), lsum_congr l (fun y hy => h y (List.mem_cons_of_mem _ hy))]
theorem lsum_add (f g : Int → Int) : ∀ (l : List Int), lsum (fun x => f x + g x) l = lsum f l + lsum g l
  | [] => rfl
  | x :: l => by simp only [lsum]; rw [lsum_add f g l]; omega
theorem lsum_0 (f : Int → Int) : ∀ (l : List Int), (∀ x ∈ l, f x = 0) → lsum f l = 0
  | [], _ => rfl
  | x :: l, h => by rw [lsum, h x (by simp), lsum_0 f l (fun y hy => h y (List.mem_cons_of_mem _ hy))]; rfl
def nl (n : Nat) : List Int := (List.range n).map (fun (k : Nat) => (k : Int))
theorem nl_succ (n : Nat) : nl (n + 1) = nl n ++ [(n : Int)] := by unfold nl; rw [List.range_succ, List.map_append]; rfl
theorem zsum_nl (f : Int → Int) : ∀ n : Nat, zsum (fun k => f k) n = lsum f (nl n)
  | 0 => rfl
  | n + 1 => by rw [zsum, zsum_nl f n, nl_succ, lsum_app]; simp [lsum]
theorem zins_perm (a n : Int) (l : List (Int × Int)) : (zins a n l).Perm ((a, n) :: l) := by
  unfold zins
  refine List.perm_middle.trans ?_
  refine List.Perm.cons _ ?_
  have e : l.filter (fun x => decide (a < x.1)) = l.filter (fun x => !decide (x.1 ≤ a)) := by
    apply List.filter_congr
    intro x _
    by_cases h : x.1 ≤ a
    · simp [h]
    · simp [h]; omega
  rw [e]
  exact List.filter_append_perm _ _
def zol (pe : List (Int × Int × Int)) : List Int := (zod pe).map (fun x => x.2)
theorem zol_perm (pe : List (Int × Int × Int)) : (zol pe).Perm (nl pe.length) := by
  refine zrev (P := fun pe => (zol pe).Perm (nl pe.length)) (by simp [zol, zod, zodl, nl]) (fun l p ih => ?_) pe
  show (zol (l ++ [p])).Perm (nl (l ++ [p]).length)
  unfold zol
  rw [zod_app, List.length_append, List.length_singleton, nl_succ]
  refine ((zins_perm _ _ _).map _).trans ?_
  rw [List.map_cons]
  refine (List.Perm.cons _ ih).trans ?_
  exact (List.perm_append_comm (l₁ := [(l.length : Int)]) (l₂ := nl l.length))
theorem zod_strict (pe : List (Int × Int × Int)) : (zod pe).Pairwise (fun x y => x.1 < y.1 ∨ (x.1 = y.1 ∧ x.2 < y.2)) := by
  refine zrev (P := fun pe => (zod pe).Pairwise (fun x y => x.1 < y.1 ∨ (x.1 = y.1 ∧ x.2 < y.2))) (by simp [zod, zodl]) (fun l p ih => ?_) pe
  show (zod (l ++ [p])).Pairwise _
  rw [zod_app]
  unfold zins
  have hb := (zod_nodup l).2
  refine List.pairwise_append.mpr ⟨ih.filter _, List.pairwise_cons.mpr ⟨fun y hy => ?_, ih.filter _⟩, fun x hx y hy => ?_⟩
  · have := (List.mem_filter.mp hy).2
    left
    simpa using this
  · have h1 := List.mem_filter.mp hx
    have h2 := hb x h1.1
    have h3 : x.1 ≤ p.1 := by simpa using h1.2
    rcases List.mem_cons.mp hy with rfl | hy
    · show x.1 < p.1 ∨ (x.1 = p.1 ∧ x.2 < (l.length : Int))
      omega
    · have h4 : p.1 < y.1 := by simpa using (List.mem_filter.mp hy).2
      left; omega
abbrev zLt (P : zP) (j i : Int) : Prop := pA P i < pA P j ∨ (pA P j = pA P i ∧ i < j)
def uF (P : zP) (how whn : Int → Int) (j i : Int) : Int := if zLt P j i then uB how whn j i else 0
theorem zol_strict (P : zP) : (zol P.1).Pairwise (fun x y => zLt P y x) := by
  unfold zol
  rw [List.pairwise_map]
  refine (zod_strict P.1).imp_of_mem (fun {x y} hx hy h => ?_)
  have f : ∀ z ∈ zod P.1, pA P z.2 = z.1 := fun z hz => by
    obtain ⟨g1, q, g2, g3⟩ := zod_mem P.1 z hz
    unfold pA
    rw [List.getD_eq_getElem?_getD, g2]
    exact g3
  unfold zLt
  rw [f x hx, f y hy]
  omega
theorem uC_take (P : zP) (how whn : Int → Int) : ∀ n : Nat, n ≤ P.1.length → zsum (fun b => zsum (fun a => uB how whn (zo P b) (zo P a)) b) n = lsum (fun i => lsum (fun j => uF P how whn j i) ((zol P.1).take n)) ((zol P.1).take n)
  | 0, _ => by simp [zsum, lsum]
  | n + 1, hn => by
    have hl : (zol P.1).length = P.1.length := by unfold zol; rw [List.length_map, zod_len]
    have hlt : n < (zol P.1).length := by omega
    have ez : ∀ k : Nat, k < P.1.length → zo P k = (zol P.1).getD k 0 := fun k hk => by
      have : k < (zod P.1).length := by rw [zod_len]; exact hk
      unfold zo zol
      rw [List.getD_eq_getElem?_getD, List.getD_eq_getElem?_getD, List.getElem?_map, List.getElem?_eq_getElem this]
      rfl
    have e1 : (zol P.1).take (n + 1) = (zol P.1).take n ++ [zo P n] := by
      rw [List.take_succ_eq_append_getElem hlt, ez n (by omega), List.getD_eq_getElem?_getD, List.getElem?_eq_getElem hlt]
      rfl
    have hs := (zol_strict P).sublist (List.take_sublist (n + 1) (zol P.1))
    rw [e1] at hs
    have hs := (List.pairwise_append.mp hs).2.2
    have tk : ∀ (f : Int → Int) (m : Nat), m ≤ P.1.length → zsum (fun a => f (zo P a)) m = lsum f ((zol P.1).take m) := by
      intro f m
      induction m with
      | zero => intro _; simp [zsum, lsum]
      | succ m ih =>
        intro hm
        have hlm : m < (zol P.1).length := by omega
        rw [zsum, ih (by omega), List.take_succ_eq_append_getElem hlm, lsum_app, ez m (by omega), List.getD_eq_getElem?_getD, List.getElem?_eq_getElem hlm]
        simp [lsum]
    rw [zsum, uC_take P how whn n (by omega), e1, lsum_app]
    have e2 : lsum (fun i => lsum (fun j => uF P how whn j i) ((zol P.1).take n ++ [zo P n])) ((zol P.1).take n) = lsum (fun i => lsum (fun j => uF P how whn j i) ((zol P.1).take n)) ((zol P.1).take n) + lsum (fun i => uB how whn (zo P n) i) ((zol P.1).take n) := by
      rw [← lsum_add]
      refine lsum_congr _ (fun i hi => ?_)
      rw [lsum_app]
      have : zLt P (zo P n) i := hs i hi _ (by simp)
      simp only [lsum]
      unfold uF
      rw [if_pos this]
      omega
    have e3 : lsum (fun i => lsum (fun j => uF P how whn j i) ((zol P.1).take n ++ [zo P n])) [zo P n] = 0 := by
      simp only [lsum]
      rw [lsum_app, lsum_0 _ _ (fun j hj => ?_)]
      · simp only [lsum]
        unfold uF
        rw [if_neg (by unfold zLt; omega)]
        rfl
      · have : zLt P (zo P n) j := hs j hj _ (by simp)
        unfold uF
        rw [if_neg (by unfold zLt at *; omega)]
    rw [e2, e3, tk (fun i => uB how whn (zo P n) i) n (by omega)]
    omega
theorem uC_nl (P : zP) (how whn : Int → Int) : uC P how whn = zsum (fun (i : Nat) => zsum (fun (j : Nat) => uF P how whn j i) P.1.length) P.1.length := by
  have hl : (zol P.1).length = P.1.length := by unfold zol; rw [List.length_map, zod_len]
  unfold uC
  rw [uC_take P how whn _ (Nat.le_refl _), List.take_of_length_le (by omega)]
  rw [lsum_perm _ (zol_perm P.1)]
  rw [zsum_nl (fun i => zsum (fun (j : Nat) => uF P how whn j i) P.1.length)]
  refine lsum_congr _ (fun i _ => ?_)
  rw [lsum_perm _ (zol_perm P.1), zsum_nl (fun j => uF P how whn j i)]
theorem c_X8_unfair (σ : zM) (P : zP) (hP : mPlan σ 0 P) (how whn : Int → Int) (hE : mEnd σ how whn P.1.length) : zCi mX8_unfair (fun u => [zr u 57]) σ (fun r σ' => r = uC P how whn ∧ σ' = σ) := by
  refine zCi_mk (own := RX8) rfl (by decide +kernel) (fun w => [some (zr w 57), none, none, none, none]) (fun _ => rfl) (fun _ => Nat.le_of_ble_eq_true rfl) ?_
  intro Γ h hr
  rw [uC_nl] at hr
  have np10 := hP.2.2.2.2.1
  have q1 := hP.1
  have L1 : ∀ (n i : Nat) (l3 l4 : Option Value), i + n = P.1.length → zV Γ σ 4 [some (zr (zw Γ) 57), some (zi (zsum (fun (i : Nat) => zsum (fun (j : Nat) => uF P how whn j i) P.1.length) i)), some (zi i), l3, l4] [] := by
    intro n
    induction n with
    | zero =>
      intro i l3 l4 h1
      have e : i = P.1.length := by omega
      subst e
      refine z_iload_n h dX8_unfair_4 rfl ?_
      refine z_raload_n h dX8_unfair_5 rfl ?_
      refine z_getr h dX8_unfair_6 fX8_13 L57 rfl ?_
      refine z_iconst h dX8_unfair_9 ?_
      refine z_iald h dX8_unfair_10 L59 (by decide) (by omega) ?_
      refine z_icmp_ge h dX8_unfair_11 (by omega) (by omega) (fun b11 => ?_) (fun b11 => by exfalso; omega)
      refine z_iload_n h dX8_unfair_126 rfl ?_
      refine z_irI h hr dX8_unfair_127 ?_
      exact ⟨rfl, rfl⟩
    | succ n ih =>
      intro i l3 l4 h1
      have a1 := mPlan_at hP (i := i) (by omega)
      have w1 := hE i (by omega) (by omega)
      have L2 : ∀ (m j : Nat) (l4 : Option Value), j + m = P.1.length → zV Γ σ 16 [some (zr (zw Γ) 57), some (zi (zsum (fun (i : Nat) => zsum (fun (j : Nat) => uF P how whn j i) P.1.length) i + zsum (fun (j : Nat) => uF P how whn j i) j)), some (zi i), some (zi j), l4] [] := by
        intro m
        induction m with
        | zero =>
          intro j l4 h2
          have e : j = P.1.length := by omega
          subst e
          refine z_iload_n h dX8_unfair_16 rfl ?_
          refine z_raload_n h dX8_unfair_17 rfl ?_
          refine z_getr h dX8_unfair_18 fX8_13 L57 rfl ?_
          refine z_iconst h dX8_unfair_21 ?_
          refine z_iald h dX8_unfair_22 L59 (by decide) (by omega) ?_
          refine z_icmp_ge h dX8_unfair_23 (by omega) (by omega) (fun b23 => ?_) (fun b23 => by exfalso; omega)
          refine z_iinc h dX8_unfair_120 (by decide) rfl (zst1_2 rfl) ?_
          refine z_goto h dX8_unfair_123 ?_
          exact ih (i + 1) _ _ (by omega)
        | succ m ihm =>
          intro j l4 h2
          have a2 := mPlan_at hP (i := j) (by omega)
          have w2 := hE j (by omega) (by omega)
          have st : ∀ v : Int, v = uF P how whn j i → zV Γ σ 16 [some (zr (zw Γ) 57), some (zi (zsum (fun (i : Nat) => zsum (fun (j : Nat) => uF P how whn j i) P.1.length) i + zsum (fun (j : Nat) => uF P how whn j i) j + v)), some (zi i), some (zi (j + 1 : Nat)), none] [] := fun v hv => by
            have := ihm (j + 1) none (by omega)
            rw [show zsum (fun (j : Nat) => uF P how whn j i) (j + 1) = zsum (fun (j : Nat) => uF P how whn j i) j + uF P how whn j i from rfl] at this
            rw [hv, Int.add_assoc]
            exact this
          refine z_iload_n h dX8_unfair_16 rfl ?_
          refine z_raload_n h dX8_unfair_17 rfl ?_
          refine z_getr h dX8_unfair_18 fX8_13 L57 rfl ?_
          refine z_iconst h dX8_unfair_21 ?_
          refine z_iald h dX8_unfair_22 L59 (by decide) (by omega) ?_
          refine z_icmp_ge h dX8_unfair_23 (by omega) (by omega) (fun b23 => by exfalso; omega) (fun b23 => ?_)
          refine z_raload_n h dX8_unfair_26 rfl ?_
          refine z_getr h dX8_unfair_27 fX8_16 L57 rfl ?_
          refine z_iload_n h dX8_unfair_30 rfl ?_
          refine z_iald h dX8_unfair_31 L60 (by decide) (by omega) ?_
          refine z_raload_n h dX8_unfair_32 rfl ?_
          refine z_getr h dX8_unfair_33 fX8_16 L57 rfl ?_
          refine z_iload_n h dX8_unfair_36 rfl ?_
          refine z_iald h dX8_unfair_37 L60 (by decide) (by omega) ?_
          refine z_icmp_gt h dX8_unfair_38 (by omega) (by omega) (fun b38 => ?_) (fun b38 => ?_)
          · refine z_iconst h dX8_unfair_61 ?_
            refine z_goto h dX8_unfair_62 ?_
            refine z_ist1 h dX8_unfair_66 (by decide) (zst1_4 rfl) ?_
            refine z_iload_n h dX8_unfair_68 rfl ?_
            refine z_iload h dX8_unfair_69 rfl ?_
            refine z_if_eq h dX8_unfair_71 (by omega) (fun b71 => ?_) (fun b71 => ?_)
            · refine z_iconst h dX8_unfair_111 ?_
              refine z_iadd h dX8_unfair_112 ?_
              refine z_ist1_n h dX8_unfair_113 (by decide) (zst1_1 rfl) ?_
              refine z_iinc h dX8_unfair_114 (by decide) rfl (zst1_3 rfl) ?_
              refine z_goto h dX8_unfair_117 ?_
              rw [show (j : Int) + 1 = ((j + 1 : Nat) : Int) by omega]
              refine zV_less (ls' := [some (zr (zw Γ) 57), some (zi _), some (zi i), some (zi (j + 1 : Nat)), none]) (zg_d (Or.inl rfl) (zg_d (Or.inl rfl) (zg_d (Or.inl rfl) (zg_d (Or.inl rfl) (zg_d (Or.inr rfl) (fun _ _ h => h)))))) (st _ ?_)
              unfold uF uB zLt
              first
                | (rw [if_pos (by omega), if_pos (by omega)]; done)
                | (rw [if_pos (by omega), if_neg (by omega)]; done)
                | (rw [if_neg (by omega)]; done)
                | (split <;> first | (rw [if_neg (by omega)]; done) | rfl | omega)
            · refine z_raload_n h dX8_unfair_74 rfl ?_
              refine z_getr h dX8_unfair_75 fX8_61 L57 rfl ?_
              refine z_iload_n h dX8_unfair_78 rfl ?_
              refine z_iald h dX8_unfair_79 L75 (by decide) (by omega) ?_
              refine z_if_ne h dX8_unfair_80 (by omega) (fun b80 => ?_) (fun b80 => ?_)
              · refine z_iconst h dX8_unfair_111 ?_
                refine z_iadd h dX8_unfair_112 ?_
                refine z_ist1_n h dX8_unfair_113 (by decide) (zst1_1 rfl) ?_
                refine z_iinc h dX8_unfair_114 (by decide) rfl (zst1_3 rfl) ?_
                refine z_goto h dX8_unfair_117 ?_
                rw [show (j : Int) + 1 = ((j + 1 : Nat) : Int) by omega]
                refine zV_less (ls' := [some (zr (zw Γ) 57), some (zi _), some (zi i), some (zi (j + 1 : Nat)), none]) (zg_d (Or.inl rfl) (zg_d (Or.inl rfl) (zg_d (Or.inl rfl) (zg_d (Or.inl rfl) (zg_d (Or.inr rfl) (fun _ _ h => h)))))) (st _ ?_)
                unfold uF uB zLt
                first
                  | (rw [if_pos (by omega), if_pos (by omega)]; done)
                  | (rw [if_pos (by omega), if_neg (by omega)]; done)
                  | (rw [if_neg (by omega)]; done)
                  | (split <;> first | (rw [if_neg (by omega)]; done) | rfl | omega)
              · refine z_raload_n h dX8_unfair_83 rfl ?_
                refine z_getr h dX8_unfair_84 fX8_61 L57 rfl ?_
                refine z_iload_n h dX8_unfair_87 rfl ?_
                refine z_iald h dX8_unfair_88 L75 (by decide) (by omega) ?_
                refine z_if_ne h dX8_unfair_89 (by omega) (fun b89 => ?_) (fun b89 => ?_)
                · refine z_iconst h dX8_unfair_111 ?_
                  refine z_iadd h dX8_unfair_112 ?_
                  refine z_ist1_n h dX8_unfair_113 (by decide) (zst1_1 rfl) ?_
                  refine z_iinc h dX8_unfair_114 (by decide) rfl (zst1_3 rfl) ?_
                  refine z_goto h dX8_unfair_117 ?_
                  rw [show (j : Int) + 1 = ((j + 1 : Nat) : Int) by omega]
                  refine zV_less (ls' := [some (zr (zw Γ) 57), some (zi _), some (zi i), some (zi (j + 1 : Nat)), none]) (zg_d (Or.inl rfl) (zg_d (Or.inl rfl) (zg_d (Or.inl rfl) (zg_d (Or.inl rfl) (zg_d (Or.inr rfl) (fun _ _ h => h)))))) (st _ ?_)
                  unfold uF uB zLt
                  first
                    | (rw [if_pos (by omega), if_pos (by omega)]; done)
                    | (rw [if_pos (by omega), if_neg (by omega)]; done)
                    | (rw [if_neg (by omega)]; done)
                    | (split <;> first | (rw [if_neg (by omega)]; done) | rfl | omega)
                · refine z_raload_n h dX8_unfair_92 rfl ?_
                  refine z_getr h dX8_unfair_93 fX8_64 L57 rfl ?_
                  refine z_iload_n h dX8_unfair_96 rfl ?_
                  refine z_iald h dX8_unfair_97 L76 (by decide) (by omega) ?_
                  refine z_raload_n h dX8_unfair_98 rfl ?_
                  refine z_getr h dX8_unfair_99 fX8_64 L57 rfl ?_
                  refine z_iload_n h dX8_unfair_102 rfl ?_
                  refine z_iald h dX8_unfair_103 L76 (by decide) (by omega) ?_
                  refine z_icmp_ge h dX8_unfair_104 (by omega) (by omega) (fun b104 => ?_) (fun b104 => ?_)
                  · refine z_iconst h dX8_unfair_111 ?_
                    refine z_iadd h dX8_unfair_112 ?_
                    refine z_ist1_n h dX8_unfair_113 (by decide) (zst1_1 rfl) ?_
                    refine z_iinc h dX8_unfair_114 (by decide) rfl (zst1_3 rfl) ?_
                    refine z_goto h dX8_unfair_117 ?_
                    rw [show (j : Int) + 1 = ((j + 1 : Nat) : Int) by omega]
                    refine zV_less (ls' := [some (zr (zw Γ) 57), some (zi _), some (zi i), some (zi (j + 1 : Nat)), none]) (zg_d (Or.inl rfl) (zg_d (Or.inl rfl) (zg_d (Or.inl rfl) (zg_d (Or.inl rfl) (zg_d (Or.inr rfl) (fun _ _ h => h)))))) (st _ ?_)
                    unfold uF uB zLt
                    first
                      | (rw [if_pos (by omega), if_pos (by omega)]; done)
                      | (rw [if_pos (by omega), if_neg (by omega)]; done)
                      | (rw [if_neg (by omega)]; done)
                      | (split <;> first | (rw [if_neg (by omega)]; done) | rfl | omega)
                  · refine z_iconst h dX8_unfair_107 ?_
                    refine z_goto h dX8_unfair_108 ?_
                    refine z_iadd h dX8_unfair_112 ?_
                    refine z_ist1_n h dX8_unfair_113 (by decide) (zst1_1 rfl) ?_
                    refine z_iinc h dX8_unfair_114 (by decide) rfl (zst1_3 rfl) ?_
                    refine z_goto h dX8_unfair_117 ?_
                    rw [show (j : Int) + 1 = ((j + 1 : Nat) : Int) by omega]
                    refine zV_less (ls' := [some (zr (zw Γ) 57), some (zi _), some (zi i), some (zi (j + 1 : Nat)), none]) (zg_d (Or.inl rfl) (zg_d (Or.inl rfl) (zg_d (Or.inl rfl) (zg_d (Or.inl rfl) (zg_d (Or.inr rfl) (fun _ _ h => h)))))) (st _ ?_)
                    unfold uF uB zLt
                    first
                      | (rw [if_pos (by omega), if_pos (by omega)]; done)
                      | (rw [if_pos (by omega), if_neg (by omega)]; done)
                      | (rw [if_neg (by omega)]; done)
                      | (split <;> first | (rw [if_neg (by omega)]; done) | rfl | omega)
          · refine z_raload_n h dX8_unfair_41 rfl ?_
            refine z_getr h dX8_unfair_42 fX8_16 L57 rfl ?_
            refine z_iload_n h dX8_unfair_45 rfl ?_
            refine z_iald h dX8_unfair_46 L60 (by decide) (by omega) ?_
            refine z_raload_n h dX8_unfair_47 rfl ?_
            refine z_getr h dX8_unfair_48 fX8_16 L57 rfl ?_
            refine z_iload_n h dX8_unfair_51 rfl ?_
            refine z_iald h dX8_unfair_52 L60 (by decide) (by omega) ?_
            refine z_icmp_ne h dX8_unfair_53 (by omega) (by omega) (fun b53 => ?_) (fun b53 => ?_)
            · refine z_iconst h dX8_unfair_65 ?_
              refine z_ist1 h dX8_unfair_66 (by decide) (zst1_4 rfl) ?_
              refine z_iload_n h dX8_unfair_68 rfl ?_
              refine z_iload h dX8_unfair_69 rfl ?_
              refine z_if_eq h dX8_unfair_71 (by omega) (fun b71 => ?_) (fun b71 => ?_)
              · refine z_iconst h dX8_unfair_111 ?_
                refine z_iadd h dX8_unfair_112 ?_
                refine z_ist1_n h dX8_unfair_113 (by decide) (zst1_1 rfl) ?_
                refine z_iinc h dX8_unfair_114 (by decide) rfl (zst1_3 rfl) ?_
                refine z_goto h dX8_unfair_117 ?_
                rw [show (j : Int) + 1 = ((j + 1 : Nat) : Int) by omega]
                refine zV_less (ls' := [some (zr (zw Γ) 57), some (zi _), some (zi i), some (zi (j + 1 : Nat)), none]) (zg_d (Or.inl rfl) (zg_d (Or.inl rfl) (zg_d (Or.inl rfl) (zg_d (Or.inl rfl) (zg_d (Or.inr rfl) (fun _ _ h => h)))))) (st _ ?_)
                unfold uF uB zLt
                first
                  | (rw [if_pos (by omega), if_pos (by omega)]; done)
                  | (rw [if_pos (by omega), if_neg (by omega)]; done)
                  | (rw [if_neg (by omega)]; done)
                  | (split <;> first | (rw [if_neg (by omega)]; done) | rfl | omega)
              · refine z_raload_n h dX8_unfair_74 rfl ?_
                refine z_getr h dX8_unfair_75 fX8_61 L57 rfl ?_
                refine z_iload_n h dX8_unfair_78 rfl ?_
                refine z_iald h dX8_unfair_79 L75 (by decide) (by omega) ?_
                refine z_if_ne h dX8_unfair_80 (by omega) (fun b80 => ?_) (fun b80 => ?_)
                · refine z_iconst h dX8_unfair_111 ?_
                  refine z_iadd h dX8_unfair_112 ?_
                  refine z_ist1_n h dX8_unfair_113 (by decide) (zst1_1 rfl) ?_
                  refine z_iinc h dX8_unfair_114 (by decide) rfl (zst1_3 rfl) ?_
                  refine z_goto h dX8_unfair_117 ?_
                  rw [show (j : Int) + 1 = ((j + 1 : Nat) : Int) by omega]
                  refine zV_less (ls' := [some (zr (zw Γ) 57), some (zi _), some (zi i), some (zi (j + 1 : Nat)), none]) (zg_d (Or.inl rfl) (zg_d (Or.inl rfl) (zg_d (Or.inl rfl) (zg_d (Or.inl rfl) (zg_d (Or.inr rfl) (fun _ _ h => h)))))) (st _ ?_)
                  unfold uF uB zLt
                  first
                    | (rw [if_pos (by omega), if_pos (by omega)]; done)
                    | (rw [if_pos (by omega), if_neg (by omega)]; done)
                    | (rw [if_neg (by omega)]; done)
                    | (split <;> first | (rw [if_neg (by omega)]; done) | rfl | omega)
                · refine z_raload_n h dX8_unfair_83 rfl ?_
                  refine z_getr h dX8_unfair_84 fX8_61 L57 rfl ?_
                  refine z_iload_n h dX8_unfair_87 rfl ?_
                  refine z_iald h dX8_unfair_88 L75 (by decide) (by omega) ?_
                  refine z_if_ne h dX8_unfair_89 (by omega) (fun b89 => ?_) (fun b89 => ?_)
                  · refine z_iconst h dX8_unfair_111 ?_
                    refine z_iadd h dX8_unfair_112 ?_
                    refine z_ist1_n h dX8_unfair_113 (by decide) (zst1_1 rfl) ?_
                    refine z_iinc h dX8_unfair_114 (by decide) rfl (zst1_3 rfl) ?_
                    refine z_goto h dX8_unfair_117 ?_
                    rw [show (j : Int) + 1 = ((j + 1 : Nat) : Int) by omega]
                    refine zV_less (ls' := [some (zr (zw Γ) 57), some (zi _), some (zi i), some (zi (j + 1 : Nat)), none]) (zg_d (Or.inl rfl) (zg_d (Or.inl rfl) (zg_d (Or.inl rfl) (zg_d (Or.inl rfl) (zg_d (Or.inr rfl) (fun _ _ h => h)))))) (st _ ?_)
                    unfold uF uB zLt
                    first
                      | (rw [if_pos (by omega), if_pos (by omega)]; done)
                      | (rw [if_pos (by omega), if_neg (by omega)]; done)
                      | (rw [if_neg (by omega)]; done)
                      | (split <;> first | (rw [if_neg (by omega)]; done) | rfl | omega)
                  · refine z_raload_n h dX8_unfair_92 rfl ?_
                    refine z_getr h dX8_unfair_93 fX8_64 L57 rfl ?_
                    refine z_iload_n h dX8_unfair_96 rfl ?_
                    refine z_iald h dX8_unfair_97 L76 (by decide) (by omega) ?_
                    refine z_raload_n h dX8_unfair_98 rfl ?_
                    refine z_getr h dX8_unfair_99 fX8_64 L57 rfl ?_
                    refine z_iload_n h dX8_unfair_102 rfl ?_
                    refine z_iald h dX8_unfair_103 L76 (by decide) (by omega) ?_
                    refine z_icmp_ge h dX8_unfair_104 (by omega) (by omega) (fun b104 => ?_) (fun b104 => ?_)
                    · refine z_iconst h dX8_unfair_111 ?_
                      refine z_iadd h dX8_unfair_112 ?_
                      refine z_ist1_n h dX8_unfair_113 (by decide) (zst1_1 rfl) ?_
                      refine z_iinc h dX8_unfair_114 (by decide) rfl (zst1_3 rfl) ?_
                      refine z_goto h dX8_unfair_117 ?_
                      rw [show (j : Int) + 1 = ((j + 1 : Nat) : Int) by omega]
                      refine zV_less (ls' := [some (zr (zw Γ) 57), some (zi _), some (zi i), some (zi (j + 1 : Nat)), none]) (zg_d (Or.inl rfl) (zg_d (Or.inl rfl) (zg_d (Or.inl rfl) (zg_d (Or.inl rfl) (zg_d (Or.inr rfl) (fun _ _ h => h)))))) (st _ ?_)
                      unfold uF uB zLt
                      first
                        | (rw [if_pos (by omega), if_pos (by omega)]; done)
                        | (rw [if_pos (by omega), if_neg (by omega)]; done)
                        | (rw [if_neg (by omega)]; done)
                        | (split <;> first | (rw [if_neg (by omega)]; done) | rfl | omega)
                    · refine z_iconst h dX8_unfair_107 ?_
                      refine z_goto h dX8_unfair_108 ?_
                      refine z_iadd h dX8_unfair_112 ?_
                      refine z_ist1_n h dX8_unfair_113 (by decide) (zst1_1 rfl) ?_
                      refine z_iinc h dX8_unfair_114 (by decide) rfl (zst1_3 rfl) ?_
                      refine z_goto h dX8_unfair_117 ?_
                      rw [show (j : Int) + 1 = ((j + 1 : Nat) : Int) by omega]
                      refine zV_less (ls' := [some (zr (zw Γ) 57), some (zi _), some (zi i), some (zi (j + 1 : Nat)), none]) (zg_d (Or.inl rfl) (zg_d (Or.inl rfl) (zg_d (Or.inl rfl) (zg_d (Or.inl rfl) (zg_d (Or.inr rfl) (fun _ _ h => h)))))) (st _ ?_)
                      unfold uF uB zLt
                      first
                        | (rw [if_pos (by omega), if_pos (by omega)]; done)
                        | (rw [if_pos (by omega), if_neg (by omega)]; done)
                        | (rw [if_neg (by omega)]; done)
                        | (split <;> first | (rw [if_neg (by omega)]; done) | rfl | omega)
            · refine z_iload_n h dX8_unfair_56 rfl ?_
              refine z_iload_n h dX8_unfair_57 rfl ?_
              refine z_icmp_le h dX8_unfair_58 (by omega) (by omega) (fun b58 => ?_) (fun b58 => ?_)
              · refine z_iconst h dX8_unfair_65 ?_
                refine z_ist1 h dX8_unfair_66 (by decide) (zst1_4 rfl) ?_
                refine z_iload_n h dX8_unfair_68 rfl ?_
                refine z_iload h dX8_unfair_69 rfl ?_
                refine z_if_eq h dX8_unfair_71 (by omega) (fun b71 => ?_) (fun b71 => ?_)
                · refine z_iconst h dX8_unfair_111 ?_
                  refine z_iadd h dX8_unfair_112 ?_
                  refine z_ist1_n h dX8_unfair_113 (by decide) (zst1_1 rfl) ?_
                  refine z_iinc h dX8_unfair_114 (by decide) rfl (zst1_3 rfl) ?_
                  refine z_goto h dX8_unfair_117 ?_
                  rw [show (j : Int) + 1 = ((j + 1 : Nat) : Int) by omega]
                  refine zV_less (ls' := [some (zr (zw Γ) 57), some (zi _), some (zi i), some (zi (j + 1 : Nat)), none]) (zg_d (Or.inl rfl) (zg_d (Or.inl rfl) (zg_d (Or.inl rfl) (zg_d (Or.inl rfl) (zg_d (Or.inr rfl) (fun _ _ h => h)))))) (st _ ?_)
                  unfold uF uB zLt
                  first
                    | (rw [if_pos (by omega), if_pos (by omega)]; done)
                    | (rw [if_pos (by omega), if_neg (by omega)]; done)
                    | (rw [if_neg (by omega)]; done)
                    | (split <;> first | (rw [if_neg (by omega)]; done) | rfl | omega)
                · refine z_raload_n h dX8_unfair_74 rfl ?_
                  refine z_getr h dX8_unfair_75 fX8_61 L57 rfl ?_
                  refine z_iload_n h dX8_unfair_78 rfl ?_
                  refine z_iald h dX8_unfair_79 L75 (by decide) (by omega) ?_
                  refine z_if_ne h dX8_unfair_80 (by omega) (fun b80 => ?_) (fun b80 => ?_)
                  · refine z_iconst h dX8_unfair_111 ?_
                    refine z_iadd h dX8_unfair_112 ?_
                    refine z_ist1_n h dX8_unfair_113 (by decide) (zst1_1 rfl) ?_
                    refine z_iinc h dX8_unfair_114 (by decide) rfl (zst1_3 rfl) ?_
                    refine z_goto h dX8_unfair_117 ?_
                    rw [show (j : Int) + 1 = ((j + 1 : Nat) : Int) by omega]
                    refine zV_less (ls' := [some (zr (zw Γ) 57), some (zi _), some (zi i), some (zi (j + 1 : Nat)), none]) (zg_d (Or.inl rfl) (zg_d (Or.inl rfl) (zg_d (Or.inl rfl) (zg_d (Or.inl rfl) (zg_d (Or.inr rfl) (fun _ _ h => h)))))) (st _ ?_)
                    unfold uF uB zLt
                    first
                      | (rw [if_pos (by omega), if_pos (by omega)]; done)
                      | (rw [if_pos (by omega), if_neg (by omega)]; done)
                      | (rw [if_neg (by omega)]; done)
                      | (split <;> first | (rw [if_neg (by omega)]; done) | rfl | omega)
                  · refine z_raload_n h dX8_unfair_83 rfl ?_
                    refine z_getr h dX8_unfair_84 fX8_61 L57 rfl ?_
                    refine z_iload_n h dX8_unfair_87 rfl ?_
                    refine z_iald h dX8_unfair_88 L75 (by decide) (by omega) ?_
                    refine z_if_ne h dX8_unfair_89 (by omega) (fun b89 => ?_) (fun b89 => ?_)
                    · refine z_iconst h dX8_unfair_111 ?_
                      refine z_iadd h dX8_unfair_112 ?_
                      refine z_ist1_n h dX8_unfair_113 (by decide) (zst1_1 rfl) ?_
                      refine z_iinc h dX8_unfair_114 (by decide) rfl (zst1_3 rfl) ?_
                      refine z_goto h dX8_unfair_117 ?_
                      rw [show (j : Int) + 1 = ((j + 1 : Nat) : Int) by omega]
                      refine zV_less (ls' := [some (zr (zw Γ) 57), some (zi _), some (zi i), some (zi (j + 1 : Nat)), none]) (zg_d (Or.inl rfl) (zg_d (Or.inl rfl) (zg_d (Or.inl rfl) (zg_d (Or.inl rfl) (zg_d (Or.inr rfl) (fun _ _ h => h)))))) (st _ ?_)
                      unfold uF uB zLt
                      first
                        | (rw [if_pos (by omega), if_pos (by omega)]; done)
                        | (rw [if_pos (by omega), if_neg (by omega)]; done)
                        | (rw [if_neg (by omega)]; done)
                        | (split <;> first | (rw [if_neg (by omega)]; done) | rfl | omega)
                    · refine z_raload_n h dX8_unfair_92 rfl ?_
                      refine z_getr h dX8_unfair_93 fX8_64 L57 rfl ?_
                      refine z_iload_n h dX8_unfair_96 rfl ?_
                      refine z_iald h dX8_unfair_97 L76 (by decide) (by omega) ?_
                      refine z_raload_n h dX8_unfair_98 rfl ?_
                      refine z_getr h dX8_unfair_99 fX8_64 L57 rfl ?_
                      refine z_iload_n h dX8_unfair_102 rfl ?_
                      refine z_iald h dX8_unfair_103 L76 (by decide) (by omega) ?_
                      refine z_icmp_ge h dX8_unfair_104 (by omega) (by omega) (fun b104 => ?_) (fun b104 => ?_)
                      · refine z_iconst h dX8_unfair_111 ?_
                        refine z_iadd h dX8_unfair_112 ?_
                        refine z_ist1_n h dX8_unfair_113 (by decide) (zst1_1 rfl) ?_
                        refine z_iinc h dX8_unfair_114 (by decide) rfl (zst1_3 rfl) ?_
                        refine z_goto h dX8_unfair_117 ?_
                        rw [show (j : Int) + 1 = ((j + 1 : Nat) : Int) by omega]
                        refine zV_less (ls' := [some (zr (zw Γ) 57), some (zi _), some (zi i), some (zi (j + 1 : Nat)), none]) (zg_d (Or.inl rfl) (zg_d (Or.inl rfl) (zg_d (Or.inl rfl) (zg_d (Or.inl rfl) (zg_d (Or.inr rfl) (fun _ _ h => h)))))) (st _ ?_)
                        unfold uF uB zLt
                        first
                          | (rw [if_pos (by omega), if_pos (by omega)]; done)
                          | (rw [if_pos (by omega), if_neg (by omega)]; done)
                          | (rw [if_neg (by omega)]; done)
                          | (split <;> first | (rw [if_neg (by omega)]; done) | rfl | omega)
                      · refine z_iconst h dX8_unfair_107 ?_
                        refine z_goto h dX8_unfair_108 ?_
                        refine z_iadd h dX8_unfair_112 ?_
                        refine z_ist1_n h dX8_unfair_113 (by decide) (zst1_1 rfl) ?_
                        refine z_iinc h dX8_unfair_114 (by decide) rfl (zst1_3 rfl) ?_
                        refine z_goto h dX8_unfair_117 ?_
                        rw [show (j : Int) + 1 = ((j + 1 : Nat) : Int) by omega]
                        refine zV_less (ls' := [some (zr (zw Γ) 57), some (zi _), some (zi i), some (zi (j + 1 : Nat)), none]) (zg_d (Or.inl rfl) (zg_d (Or.inl rfl) (zg_d (Or.inl rfl) (zg_d (Or.inl rfl) (zg_d (Or.inr rfl) (fun _ _ h => h)))))) (st _ ?_)
                        unfold uF uB zLt
                        first
                          | (rw [if_pos (by omega), if_pos (by omega)]; done)
                          | (rw [if_pos (by omega), if_neg (by omega)]; done)
                          | (rw [if_neg (by omega)]; done)
                          | (split <;> first | (rw [if_neg (by omega)]; done) | rfl | omega)
              · refine z_iconst h dX8_unfair_61 ?_
                refine z_goto h dX8_unfair_62 ?_
                refine z_ist1 h dX8_unfair_66 (by decide) (zst1_4 rfl) ?_
                refine z_iload_n h dX8_unfair_68 rfl ?_
                refine z_iload h dX8_unfair_69 rfl ?_
                refine z_if_eq h dX8_unfair_71 (by omega) (fun b71 => ?_) (fun b71 => ?_)
                · refine z_iconst h dX8_unfair_111 ?_
                  refine z_iadd h dX8_unfair_112 ?_
                  refine z_ist1_n h dX8_unfair_113 (by decide) (zst1_1 rfl) ?_
                  refine z_iinc h dX8_unfair_114 (by decide) rfl (zst1_3 rfl) ?_
                  refine z_goto h dX8_unfair_117 ?_
                  rw [show (j : Int) + 1 = ((j + 1 : Nat) : Int) by omega]
                  refine zV_less (ls' := [some (zr (zw Γ) 57), some (zi _), some (zi i), some (zi (j + 1 : Nat)), none]) (zg_d (Or.inl rfl) (zg_d (Or.inl rfl) (zg_d (Or.inl rfl) (zg_d (Or.inl rfl) (zg_d (Or.inr rfl) (fun _ _ h => h)))))) (st _ ?_)
                  unfold uF uB zLt
                  first
                    | (rw [if_pos (by omega), if_pos (by omega)]; done)
                    | (rw [if_pos (by omega), if_neg (by omega)]; done)
                    | (rw [if_neg (by omega)]; done)
                    | (split <;> first | (rw [if_neg (by omega)]; done) | rfl | omega)
                · refine z_raload_n h dX8_unfair_74 rfl ?_
                  refine z_getr h dX8_unfair_75 fX8_61 L57 rfl ?_
                  refine z_iload_n h dX8_unfair_78 rfl ?_
                  refine z_iald h dX8_unfair_79 L75 (by decide) (by omega) ?_
                  refine z_if_ne h dX8_unfair_80 (by omega) (fun b80 => ?_) (fun b80 => ?_)
                  · refine z_iconst h dX8_unfair_111 ?_
                    refine z_iadd h dX8_unfair_112 ?_
                    refine z_ist1_n h dX8_unfair_113 (by decide) (zst1_1 rfl) ?_
                    refine z_iinc h dX8_unfair_114 (by decide) rfl (zst1_3 rfl) ?_
                    refine z_goto h dX8_unfair_117 ?_
                    rw [show (j : Int) + 1 = ((j + 1 : Nat) : Int) by omega]
                    refine zV_less (ls' := [some (zr (zw Γ) 57), some (zi _), some (zi i), some (zi (j + 1 : Nat)), none]) (zg_d (Or.inl rfl) (zg_d (Or.inl rfl) (zg_d (Or.inl rfl) (zg_d (Or.inl rfl) (zg_d (Or.inr rfl) (fun _ _ h => h)))))) (st _ ?_)
                    unfold uF uB zLt
                    first
                      | (rw [if_pos (by omega), if_pos (by omega)]; done)
                      | (rw [if_pos (by omega), if_neg (by omega)]; done)
                      | (rw [if_neg (by omega)]; done)
                      | (split <;> first | (rw [if_neg (by omega)]; done) | rfl | omega)
                  · refine z_raload_n h dX8_unfair_83 rfl ?_
                    refine z_getr h dX8_unfair_84 fX8_61 L57 rfl ?_
                    refine z_iload_n h dX8_unfair_87 rfl ?_
                    refine z_iald h dX8_unfair_88 L75 (by decide) (by omega) ?_
                    refine z_if_ne h dX8_unfair_89 (by omega) (fun b89 => ?_) (fun b89 => ?_)
                    · refine z_iconst h dX8_unfair_111 ?_
                      refine z_iadd h dX8_unfair_112 ?_
                      refine z_ist1_n h dX8_unfair_113 (by decide) (zst1_1 rfl) ?_
                      refine z_iinc h dX8_unfair_114 (by decide) rfl (zst1_3 rfl) ?_
                      refine z_goto h dX8_unfair_117 ?_
                      rw [show (j : Int) + 1 = ((j + 1 : Nat) : Int) by omega]
                      refine zV_less (ls' := [some (zr (zw Γ) 57), some (zi _), some (zi i), some (zi (j + 1 : Nat)), none]) (zg_d (Or.inl rfl) (zg_d (Or.inl rfl) (zg_d (Or.inl rfl) (zg_d (Or.inl rfl) (zg_d (Or.inr rfl) (fun _ _ h => h)))))) (st _ ?_)
                      unfold uF uB zLt
                      first
                        | (rw [if_pos (by omega), if_pos (by omega)]; done)
                        | (rw [if_pos (by omega), if_neg (by omega)]; done)
                        | (rw [if_neg (by omega)]; done)
                        | (split <;> first | (rw [if_neg (by omega)]; done) | rfl | omega)
                    · refine z_raload_n h dX8_unfair_92 rfl ?_
                      refine z_getr h dX8_unfair_93 fX8_64 L57 rfl ?_
                      refine z_iload_n h dX8_unfair_96 rfl ?_
                      refine z_iald h dX8_unfair_97 L76 (by decide) (by omega) ?_
                      refine z_raload_n h dX8_unfair_98 rfl ?_
                      refine z_getr h dX8_unfair_99 fX8_64 L57 rfl ?_
                      refine z_iload_n h dX8_unfair_102 rfl ?_
                      refine z_iald h dX8_unfair_103 L76 (by decide) (by omega) ?_
                      refine z_icmp_ge h dX8_unfair_104 (by omega) (by omega) (fun b104 => ?_) (fun b104 => ?_)
                      · refine z_iconst h dX8_unfair_111 ?_
                        refine z_iadd h dX8_unfair_112 ?_
                        refine z_ist1_n h dX8_unfair_113 (by decide) (zst1_1 rfl) ?_
                        refine z_iinc h dX8_unfair_114 (by decide) rfl (zst1_3 rfl) ?_
                        refine z_goto h dX8_unfair_117 ?_
                        rw [show (j : Int) + 1 = ((j + 1 : Nat) : Int) by omega]
                        refine zV_less (ls' := [some (zr (zw Γ) 57), some (zi _), some (zi i), some (zi (j + 1 : Nat)), none]) (zg_d (Or.inl rfl) (zg_d (Or.inl rfl) (zg_d (Or.inl rfl) (zg_d (Or.inl rfl) (zg_d (Or.inr rfl) (fun _ _ h => h)))))) (st _ ?_)
                        unfold uF uB zLt
                        first
                          | (rw [if_pos (by omega), if_pos (by omega)]; done)
                          | (rw [if_pos (by omega), if_neg (by omega)]; done)
                          | (rw [if_neg (by omega)]; done)
                          | (split <;> first | (rw [if_neg (by omega)]; done) | rfl | omega)
                      · refine z_iconst h dX8_unfair_107 ?_
                        refine z_goto h dX8_unfair_108 ?_
                        refine z_iadd h dX8_unfair_112 ?_
                        refine z_ist1_n h dX8_unfair_113 (by decide) (zst1_1 rfl) ?_
                        refine z_iinc h dX8_unfair_114 (by decide) rfl (zst1_3 rfl) ?_
                        refine z_goto h dX8_unfair_117 ?_
                        rw [show (j : Int) + 1 = ((j + 1 : Nat) : Int) by omega]
                        refine zV_less (ls' := [some (zr (zw Γ) 57), some (zi _), some (zi i), some (zi (j + 1 : Nat)), none]) (zg_d (Or.inl rfl) (zg_d (Or.inl rfl) (zg_d (Or.inl rfl) (zg_d (Or.inl rfl) (zg_d (Or.inr rfl) (fun _ _ h => h)))))) (st _ ?_)
                        unfold uF uB zLt
                        first
                          | (rw [if_pos (by omega), if_pos (by omega)]; done)
                          | (rw [if_pos (by omega), if_neg (by omega)]; done)
                          | (rw [if_neg (by omega)]; done)
                          | (split <;> first | (rw [if_neg (by omega)]; done) | rfl | omega)
      refine z_iload_n h dX8_unfair_4 rfl ?_
      refine z_raload_n h dX8_unfair_5 rfl ?_
      refine z_getr h dX8_unfair_6 fX8_13 L57 rfl ?_
      refine z_iconst h dX8_unfair_9 ?_
      refine z_iald h dX8_unfair_10 L59 (by decide) (by omega) ?_
      refine z_icmp_ge h dX8_unfair_11 (by omega) (by omega) (fun b11 => by exfalso; omega) (fun b11 => ?_)
      refine z_iconst h dX8_unfair_14 ?_
      refine z_ist1_n h dX8_unfair_15 (by decide) (zst1_3 rfl) ?_
      have := L2 P.1.length 0 l4 (by omega)
      rw [show zsum (fun (j : Nat) => uF P how whn j i) 0 = 0 from rfl, Int.add_zero] at this
      exact this
  refine z_iconst h dX8_unfair_0 ?_
  refine z_ist1_n h dX8_unfair_1 (by decide) (zst1_1 rfl) ?_
  refine z_iconst h dX8_unfair_2 ?_
  refine z_ist1_n h dX8_unfair_3 (by decide) (zst1_2 rfl) ?_
  exact L1 P.1.length 0 none none (by omega)
theorem c_X8_howMany (σ : zM) (P : zP) (hP : mPlan σ 0 P) (how whn : Int → Int) (hE : mEnd σ how whn P.1.length) (as : Int) (ha : 0 ≤ as ∧ as ≤ 3) : zCi mX8_howMany (fun u => [zr u 57, zi as]) σ (fun r σ' => r = zMany how as P.1.length ∧ σ' = σ) := by
  refine zCi_mk (own := RX8) rfl (by decide +kernel) (fun w => [some (zr w 57), some (zi as), none, none]) (fun _ => rfl) (fun _ => Nat.le_of_ble_eq_true rfl) ?_
  intro Γ h hr
  have np10 := hP.2.2.2.2.1
  have q1 := hP.1
  have L : ∀ (n i : Nat), i + n = P.1.length → zV Γ σ 4 [some (zr (zw Γ) 57), some (zi as), some (zi (zMany how as i)), some (zi i)] [] := by
    intro n
    induction n with
    | zero =>
      intro i h1
      have e : i = P.1.length := by omega
      subst e
      refine z_iload_n h dX8_howMany_4 rfl ?_
      refine z_raload_n h dX8_howMany_5 rfl ?_
      refine z_getr h dX8_howMany_6 fX8_13 L57 rfl ?_
      refine z_iconst h dX8_howMany_9 ?_
      refine z_iald h dX8_howMany_10 L59 (by decide) (by omega) ?_
      refine z_icmp_ge h dX8_howMany_11 (by omega) (by omega) (fun b11 => ?_) (fun b11 => by exfalso; omega)
      refine z_iload_n h dX8_howMany_38 rfl ?_
      refine z_irI h hr dX8_howMany_39 ?_
      exact ⟨rfl, rfl⟩
    | succ n ih =>
      intro i h1
      have w1 := hE i (by omega) (by omega)
      have := ih (i + 1) (by omega)
      rw [zMany, show ((i + 1 : Nat) : Int) = (i : Int) + 1 by omega] at this
      refine z_iload_n h dX8_howMany_4 rfl ?_
      refine z_raload_n h dX8_howMany_5 rfl ?_
      refine z_getr h dX8_howMany_6 fX8_13 L57 rfl ?_
      refine z_iconst h dX8_howMany_9 ?_
      refine z_iald h dX8_howMany_10 L59 (by decide) (by omega) ?_
      refine z_icmp_ge h dX8_howMany_11 (by omega) (by omega) (fun b11 => by exfalso; omega) (fun b11 => ?_)
      refine z_iload_n h dX8_howMany_14 rfl ?_
      refine z_raload_n h dX8_howMany_15 rfl ?_
      refine z_getr h dX8_howMany_16 fX8_61 L57 rfl ?_
      refine z_iload_n h dX8_howMany_19 rfl ?_
      refine z_iald h dX8_howMany_20 L75 (by decide) (by omega) ?_
      refine z_iload_n h dX8_howMany_21 rfl ?_
      refine z_icmp_ne h dX8_howMany_22 (by omega) (by omega) (fun b22 => ?_) (fun b22 => ?_)
      · refine z_iconst h dX8_howMany_29 ?_
        refine z_iadd h dX8_howMany_30 ?_
        refine z_ist1_n h dX8_howMany_31 (by decide) (zst1_2 rfl) ?_
        refine z_iinc h dX8_howMany_32 (by decide) rfl (zst1_3 rfl) ?_
        refine z_goto h dX8_howMany_35 ?_
        first
          | (rw [if_pos (by omega)] at this; exact this)
          | (rw [if_neg (by omega)] at this; exact this)
      · refine z_iconst h dX8_howMany_25 ?_
        refine z_goto h dX8_howMany_26 ?_
        refine z_iadd h dX8_howMany_30 ?_
        refine z_ist1_n h dX8_howMany_31 (by decide) (zst1_2 rfl) ?_
        refine z_iinc h dX8_howMany_32 (by decide) rfl (zst1_3 rfl) ?_
        refine z_goto h dX8_howMany_35 ?_
        first
          | (rw [if_pos (by omega)] at this; exact this)
          | (rw [if_neg (by omega)] at this; exact this)
  refine z_iconst h dX8_howMany_0 ?_
  refine z_ist1_n h dX8_howMany_1 (by decide) (zst1_2 rfl) ?_
  refine z_iconst h dX8_howMany_2 ?_
  refine z_ist1_n h dX8_howMany_3 (by decide) (zst1_3 rfl) ?_
  exact L P.1.length 0 (by omega)
