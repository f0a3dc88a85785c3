theorem sRem_nil {P : zP} {t u : Int} (h : sRem P t = []) (hu : t ≤ u) : sRem P u = [] := by
  unfold sRem at h ⊢
  rw [List.filter_eq_nil_iff] at h ⊢
  intro x hx
  have := h x hx
  simp at this ⊢
  omega
theorem sRun_idle {P : zP} {md : zMd} {t : Nat} (h1 : (sRun P md t).1 = []) (h2 : sRem P t = []) : ∀ k : Nat, sRun P md (t + k) = sRun P md t
  | 0 => rfl
  | k + 1 => by
    have ih := sRun_idle h1 h2 k
    show sStep P md ((t + k : Nat) : Int) (sRun P md (t + k)) = _
    rw [ih]
    exact sStep_idle h1 (sRem_nil h2 (by omega))
theorem cMs_mono {σ : zM} {P : zP} {s : zS} {t t' b : Int} (h : cMs σ P s t b) (ht : t ≤ t') : cMs σ P s t' b := by
  obtain ⟨h1, h2, h3, h4, h5, h6⟩ := h
  refine ⟨h1, h2, h3, h4, ?_, h6⟩
  rcases h5 with h5 | h5
  · exact Or.inl h5
  · exact Or.inr ⟨h5.1, by omega, h5.2.2⟩
theorem zod_nodup (pe : List (Int × Int × Int)) : ((zod pe).map (fun x => x.2)).Nodup ∧ ∀ x ∈ zod pe, x.2 < pe.length := by
  refine ⟨?_, fun x hx => ?_⟩
  · refine zrev (P := fun pe => ((zod pe).map (fun x => x.2)).Nodup) (by simp [zod, zodl]) (fun l p ih => ?_) pe
    show ((zod (l ++ [p])).map (fun x => x.2)).Nodup
    rw [zod_app]
    have hperm : (zins p.1 l.length (zod l)).Perm ((p.1, (l.length : Int)) :: zod l) := by
      unfold zins
      refine List.perm_middle.trans ?_
      refine List.Perm.cons _ ?_
      have e : (zod l).filter (fun x => decide (p.1 < x.1)) = (zod l).filter (fun x => !decide (x.1 ≤ p.1)) := by
        apply List.filter_congr
        intro x _
        by_cases h : x.1 ≤ p.1
        · simp [h]; 
        · simp [h]; omega
      rw [e]
      exact List.filter_append_perm _ _
    refine ((hperm.map (fun x => x.2)).nodup_iff).mpr ?_
    rw [List.map_cons]
    refine List.nodup_cons.mpr ⟨?_, ih⟩
    intro z
    obtain ⟨x, hx, he⟩ := List.mem_map.mp z
    obtain ⟨g1, q, g2, -⟩ := zod_mem l x hx
    have := (List.getElem?_eq_some_iff.mp g2).1
    simp at he
    omega
  · obtain ⟨g1, q, g2, -⟩ := zod_mem pe x hx
    have := (List.getElem?_eq_some_iff.mp g2).1
    omega
theorem sRem_0 (P : zP) (h : zPok P) : sRem P 0 = zod P.1 := by
  unfold sRem
  rw [List.filter_eq_self]
  intro x hx
  obtain ⟨g1, q, g2, g3⟩ := zod_mem P.1 x hx
  have := h.2.1 q (List.mem_of_getElem? g2)
  simp
  omega
theorem c_X1_runTo (σ : zM) (π : Nat) (hp : zPl π) (hpl : σ 5 6 = π) (P : zP) (hP : cPlan σ π P) (md : zMd) (hmd : cMd σ md) (la : Nat) (hla : la ≤ 199) : zCv mX1_runTo (fun w => [zr w 5, zi la]) σ (fun σ' => cKp σ σ' ∧ cRow σ' (sRun P md (la + 1)).1 P.1.length ∧ cEnd σ' (sRun P md (la + 1)).2.1 (sRun P md (la + 1)).2.2.1 ∧ σ' 5 14 = (sRun P md (la + 1)).2.2.2.1) := by
  refine zCv_mk (own := RX1) rfl (by decide +kernel) (fun w => [some (zr w 5), some (zi la), none]) (fun _ => rfl) (fun _ => Nat.le_of_ble_eq_true rfl) ?_
  intro Γ h hr
  have hpi : 39 ≤ π := by unfold zPl at hp; omega
  have np10 := hP.2.2.2.2.2.1
  have hPk : ∀ σ1, cKp σ σ1 → cPlan σ1 π P ∧ σ1 5 6 = π ∧ cMd σ1 md := fun σ1 hk => ⟨cPlan_fr hP (fun c a b i => hk.1 c (by omega) i), (hk.2 6 (by omega)).trans hpl, cMd_kp hmd hk⟩
  have L : ∀ (n t : Nat) (σ1 : zM), t + n = la + 1 → cKp σ σ1 → cMs σ1 P (sRun P md t) t t → zV Γ σ1 6 [some (zr (zw Γ) 5), some (zi la), some (zi t)] [] := by
    intro n
    induction n with
    | zero =>
      intro t σ1 h1 h2 h3
      refine z_iload_n h dX1_runTo_6 rfl ?_
      refine z_iload_n h dX1_runTo_7 rfl ?_
      refine z_icmp_gt h dX1_runTo_8 (by omega) (by omega) (fun b8 => ?_) (fun b8 => by exfalso; omega)
      refine z_irV h hr dX1_runTo_126 ?_
      rw [show la + 1 = t by omega]
      exact ⟨h2, h3.1, h3.2.1, h3.2.2.2.1⟩
    | succ n ih =>
      intro t σ1 h1 h2 h3
      have ht : 0 ≤ (t : Int) ∧ (t : Int) < 200 := by omega
      have K120 : ∀ σ5, cKp σ σ5 → cMs σ5 P (sRun P md (t + 1)) t (t + 1) → zV Γ σ5 120 [some (zr (zw Γ) 5), some (zi la), some (zi t)] [] := by
        intro σ5 g1 g2
        refine z_iinc h dX1_runTo_120 (by decide) rfl (zst1_2 rfl) ?_
        refine z_goto h dX1_runTo_123 ?_
        rw [show (t : Int) + 1 = ((t + 1 : Nat) : Int) by omega]
        exact ih (t + 1) σ5 (by omega) g1 (cMs_mono g2 (by omega))
      have K108 : ∀ σ4, cKp σ σ4 → cMs σ4 P (sServe P t (sCome P md t (sTurn P md t (sAway P t (sRun P md t))))) t (t + 1) → zV Γ σ4 108 [some (zr (zw Γ) 5), some (zi la), some (zi t)] [] := by
        intro σ4 g1 g2
        have e13 := g2.2.2.1
        have e12 := g2.2.2.2.2.2
        generalize hs : sServe P t (sCome P md t (sTurn P md t (sAway P t (sRun P md t)))) = s at g2 e13 e12
        have er : sRun P md (t + 1) = sHome t s := by rw [← hs]; rfl
        have h12 : 0 ≤ σ4 5 12 ∧ σ4 5 12 ≤ 10000 := by
          obtain ⟨c, d1, d2, d3, d4, d5, d6⟩ := e12
          omega
        refine z_raload_n h dX1_runTo_108 rfl ?_
        refine y_get 13 h dX1_runTo_109 fX1_87 L5 rfl rfl ?_
        refine z_if_ne h dX1_runTo_112 (by omega) (fun b112 => ?_) (fun b112 => ?_)
        · first
            | exact K120 σ5 (cKp_tr g1 ⟨g3.1, fun i hi => g3.2.1 i (by omega) (by omega)⟩) (by rw [er]; exact m_home (by omega) g2 g3.2.1 g3.2.2.1 g3.2.2.2.1 g3.2.2.2.2)
            | exact K120 σ4 g1 (by rw [er]; unfold sHome; rw [if_neg (by omega)]; exact g2)
        · refine z_raload_n h dX1_runTo_115 rfl ?_
          refine z_iload_n h dX1_runTo_116 rfl ?_
          refine z_cVv1 h dX1_runTo_117 lX1_90 vX1_sendHome rfl L5 (c_X1_sendHome σ4 s.1 P.1.length np10 s.2.1 s.2.2.1 t ht g2.1 g2.2.1 h12) rfl (Nat.le_of_ble_eq_true rfl) (by decide) (fun σ5 g3 => ?_)
          first
            | exact K120 σ5 (cKp_tr g1 ⟨g3.1, fun i hi => g3.2.1 i (by omega) (by omega)⟩) (by rw [er]; exact m_home (by omega) g2 g3.2.1 g3.2.2.1 g3.2.2.2.1 g3.2.2.2.2)
            | exact K120 σ4 g1 (by rw [er]; unfold sHome; rw [if_neg (by omega)]; exact g2)
      have K76 : ∀ σ3, cKp σ σ3 → cMs σ3 P (sTurn P md t (sAway P t (sRun P md t))) t t → zV Γ σ3 76 [some (zr (zw Γ) 5), some (zi la), some (zi t)] [] := by
        intro σ3 g1 g2
        generalize hs : sTurn P md t (sAway P t (sRun P md t)) = s at g2
        rw [hs] at K108
        obtain ⟨c, d1, d2, d3, d4, d5, d6⟩ := g2.2.2.2.2.2
        have hk3 := hPk σ3 g1
        refine z_raload_n h dX1_runTo_76 rfl ?_
        refine z_iload_n h dX1_runTo_77 rfl ?_
        refine z_cVv1 h dX1_runTo_78 lX1_78 vX1_letCome rfl L5 (c_X1_letCome σ3 π hp hk3.2.1 P hk3.1 s.1 t md.1 c ht hk3.2.2.1 g2.1 d1 d2 d4 (by rw [d3]; exact d6)) rfl (Nat.le_of_ble_eq_true rfl) (by decide) (fun σ4 g3 => ?_)
        have g4 : cKp σ σ4 := cKp_tr g1 ⟨fun c hc i => g3.1 c (by omega) (by omega) (by omega) i, fun i hi => g3.2.1 i (by omega) (by omega)⟩
        have g5 := m_come (md := md) g2 c d1 d2 d3 d4 d5 d6 g3.2.1 g3.1 g3.2.2.1 g3.2.2.2
        have hk4 := hPk σ4 g4
        have e8 := hk4.1.2.2.2.2.1.2.2.1
        have e8' := hk4.1.2.2.2.2.2.2.2.2.2.2.1
        have h12 : 0 ≤ σ4 5 12 ∧ σ4 5 12 ≤ 10000 := by (obtain ⟨c', x1, x2, x3, x4, x5, x6⟩ := g5.2.2.2.2.2; omega)
        refine z_raload_n h dX1_runTo_81 rfl ?_
        refine y_getd 6 h dX1_runTo_82 fX1_34 L5 rfl rfl hk4.2.1 ?_
        refine y_get 8 h dX1_runTo_85 fX1_81 (zPl_o hp) rfl rfl ?_
        refine z_if_le h dX1_runTo_88 (by omega) (fun b88 => by exfalso; omega) (fun b88 => ?_)
        refine z_iload_n h dX1_runTo_91 rfl ?_
        refine z_raload_n h dX1_runTo_92 rfl ?_
        refine y_getd 6 h dX1_runTo_93 fX1_34 L5 rfl rfl hk4.2.1 ?_
        refine y_get 8 h dX1_runTo_96 fX1_81 (zPl_o hp) rfl rfl ?_
        refine z_irem h dX1_runTo_99 (by omega) (by omega) ?_
        rw [e8]
        refine z_if_ne h dX1_runTo_100 (by (have := Int.emod_nonneg (t : Int) (show P.2.2.2.2.1 ≠ 0 by omega); have := Int.emod_lt_of_pos (t : Int) (show 0 < P.2.2.2.2.1 by omega); omega)) (fun b100 => ?_) (fun b100 => ?_)
        · first
            | exact K108 σ5 (cKp_tr g4 ⟨g6.1, fun i hi => g6.2.1 i (by omega) (by omega) (by omega)⟩) (m_serve (by omega) g5 g6.2.1 g6.2.2.1 g6.2.2.2.1 g6.2.2.2.2.1 g6.2.2.2.2.2)
            | exact K108 σ4 g4 (by unfold sServe; rw [if_neg (by omega)]; exact g5)
        · refine z_raload_n h dX1_runTo_103 rfl ?_
          refine z_iload_n h dX1_runTo_104 rfl ?_
          refine z_cVv1 h dX1_runTo_105 lX1_84 vX1_serve rfl L5 (c_X1_serve σ4 π hp hk4.2.1 P hk4.1 (sCome P md t s).1 (sCome P md t s).2.1 (sCome P md t s).2.2.1 t ht g5.1 g5.2.1 (sCome P md t s).2.2.2.2.2 g5.2.2.1 h12 (sMany P (sCome P md t s)) rfl) rfl (Nat.le_of_ble_eq_true rfl) (by decide) (fun σ5 g6 => ?_)
          first
            | exact K108 σ5 (cKp_tr g4 ⟨g6.1, fun i hi => g6.2.1 i (by omega) (by omega) (by omega)⟩) (m_serve (by omega) g5 g6.2.1 g6.2.2.1 g6.2.2.2.1 g6.2.2.2.2.1 g6.2.2.2.2.2)
            | exact K108 σ4 g4 (by unfold sServe; rw [if_neg (by omega)]; exact g5)
      have K71 : ∀ σ2, cKp σ σ2 → cMs σ2 P (sAway P t (sRun P md t)) t t → yCry P md t (sAway P t (sRun P md t)).1 = true → zV Γ σ2 71 [some (zr (zw Γ) 5), some (zi la), some (zi t)] [] := by
        intro σ2 g1 g2 g3
        generalize hs : sAway P t (sRun P md t) = s at g2 g3
        rw [hs] at K76
        have hk2 := hPk σ2 g1
        obtain ⟨lt, hlt⟩ : ∃ lt, σ2 5 15 = lt := ⟨_, rfl⟩
        have g5 := g2.2.2.2.2.1
        have hq := hP.2.2.2.2.2.2.2.2.1
        refine z_raload_n h dX1_runTo_71 rfl ?_
        refine z_iload_n h dX1_runTo_72 rfl ?_
        refine z_cVv1 h dX1_runTo_73 lX1_75 vX1_turn rfl L5 (c_X1_turn σ2 π hp hk2.2.1 P hk2.1 s.1 t md.1 lt ht hk2.2.2.1 ⟨hlt, by omega⟩ g2.1) rfl (Nat.le_of_ble_eq_true rfl) (by decide) (fun σ3 g4 => ?_)
        rcases g4 with ⟨g4, rfl⟩ | ⟨g4, g6, g7, g8, g9, g10⟩
        · refine K76 σ3 g1 ?_
          unfold sTurn
          rw [if_neg]
          · exact g2
          · rintro ⟨z1, z2, -⟩
            rcases g4 with z | z
            · exact z1 z
            · omega
        · exact K76 σ3 (cKp_tr g1 ⟨fun c hc i => g6 c (by omega) (by omega) i, fun i hi => g7 i (by omega) (by omega)⟩) (m_turn ht.1 g2 g3 (by omega) g7 g6 g8 g9 g10)
      have hk1 := hPk σ1 h2
      obtain ⟨c, d1, d2, d3, d4, d5, d6⟩ := h3.2.2.2.2.2
      have q1 := hk1.1.1
      refine z_iload_n h dX1_runTo_6 rfl ?_
      refine z_iload_n h dX1_runTo_7 rfl ?_
      refine z_icmp_gt h dX1_runTo_8 (by omega) (by omega) (fun b8 => by exfalso; omega) (fun b8 => ?_)
      refine z_iload_n h dX1_runTo_11 rfl ?_
      refine z_sipush h dX1_runTo_12 (by decide) ?_
      refine z_icmp_ge h dX1_runTo_15 (by omega) (by omega) (fun b15 => by exfalso; omega) (fun b15 => ?_)
      refine z_raload_n h dX1_runTo_18 rfl ?_
      refine y_get 12 h dX1_runTo_19 fX1_56 L5 rfl rfl ?_
      refine z_raload_n h dX1_runTo_22 rfl ?_
      refine y_getd 6 h dX1_runTo_23 fX1_34 L5 rfl rfl hk1.2.1 ?_
      refine y_get 5 h dX1_runTo_26 fX1_59 (zPl_o hp) rfl rfl ?_
      refine z_icmp_ge h dX1_runTo_29 (by omega) (by omega) (fun b29 => ?_) (fun b29 => ?_)
      · refine z_irV h hr dX1_runTo_126 ?_
        have hl0 : (sRun P md t).1 = [] := List.length_eq_zero_iff.mp (by omega)
        have hr0 : sRem P t = [] := by (rw [← d3]; exact List.drop_eq_nil_of_le (by rw [zod_len]; omega))
        have := sRun_idle (P := P) (md := md) hl0 hr0 (n + 1)
        rw [show la + 1 = t + (n + 1) by omega, this]
        exact ⟨h2, h3.1, h3.2.1, h3.2.2.2.1⟩
      · refine z_raload_n h dX1_runTo_32 rfl ?_
        refine z_iload_n h dX1_runTo_33 rfl ?_
        refine z_cVv1 h dX1_runTo_34 lX1_62 vX1_letGoAway rfl L5 (c_X1_letGoAway σ1 π hp hk1.2.1 P hk1.1 (sRun P md t).1 (sRun P md t).2.1 (sRun P md t).2.2.1 t ht h3.1 h3.2.1 (by omega)) rfl (Nat.le_of_ble_eq_true rfl) (by decide) (fun σ2 g1 => ?_)
        have g2 : cKp σ σ2 := cKp_tr h2 ⟨g1.1, fun i hi => g1.2.1 i (by omega) (by omega)⟩
        have g3 := m_away h3 g1.2.1 g1.2.2.1 g1.2.2.2.1 g1.2.2.2.2
        have hk2 := hPk σ2 g2
        have e9 := hk2.2.2.2.2.1
        generalize hs : sAway P t (sRun P md t) = s at g3 K71 K76
        have hno : yCry P md t s.1 = false → cMs σ2 P (sTurn P md t s) t t := fun z => by (unfold sTurn; rw [if_neg (fun w => by rw [z] at w; exact Bool.noConfusion w.2.2)]; exact g3)
        refine z_raload_n h dX1_runTo_37 rfl ?_
        refine y_get 9 h dX1_runTo_38 fX1_46 L5 rfl rfl ?_
        refine z_if_lt h dX1_runTo_41 (by omega) (fun b41 => ?_) (fun b41 => ?_)
        · have hy : yCry P md t s.1 = (yTc md.2.1 t s.1 0 P.2.1 || yEx t s.1 md.2.2.1) := by (unfold yCry; rw [if_neg (by omega)])
          refine z_raload_n h dX1_runTo_55 rfl ?_
          refine z_iload_n h dX1_runTo_56 rfl ?_
          refine z_cVi1 h dX1_runTo_57 lX1_69 vX1_isToldCry rfl L5 (c_X1_isToldCry σ2 π hp hk2.2.1 P hk2.1 s.1 g3.1 t ht md.2.1 hk2.2.2.2.1.1 hk2.2.2.2.1.2) rfl (Nat.le_of_ble_eq_true rfl) (by decide) (fun v σ3 g4 => ?_)
          obtain ⟨rfl, rfl⟩ := g4
          refine z_if_ne h dX1_runTo_60 (by (cases yTc md.2.1 t s.1 0 P.2.1 <;> decide)) (fun b60 => ?_) (fun b60 => ?_)
          · refine K71 _ g2 g3 ?_
            first
              | (cases z : yCry P md t s.1 <;> simp_all [zb]; done)
              | (rw [hy]; cases z1 : yTc md.2.1 t s.1 0 P.2.1 <;> cases z2 : yEx t s.1 md.2.2.1 <;> simp_all [zb]; done)
          · refine z_raload_n h dX1_runTo_63 rfl ?_
            refine z_iload_n h dX1_runTo_64 rfl ?_
            refine z_cVi1 h dX1_runTo_65 lX1_72 vX1_isExtraCry rfl L5 (c_X1_isExtraCry σ3 s.1 P.1.length g3.1 t ht hk2.2.2.2.2.2.1 hk2.2.2.2.2.2.2.1 hk2.2.2.2.2.2.2.2.1 hk2.2.2.2.2.2.2.2.2.1) rfl (Nat.le_of_ble_eq_true rfl) (by decide) (fun v σ4 g5 => ?_)
            obtain ⟨rfl, rfl⟩ := g5
            rw [hk2.2.2.2.2.2.2.2.2.2 t s.1 ht.1]
            refine z_if_eq h dX1_runTo_68 (by (cases yEx t s.1 md.2.2.1 <;> decide)) (fun b68 => ?_) (fun b68 => ?_)
            · refine K76 _ g2 (hno ?_)
              first
                | (cases z : yCry P md t s.1 <;> simp_all [zb]; done)
                | (rw [hy]; cases z1 : yTc md.2.1 t s.1 0 P.2.1 <;> cases z2 : yEx t s.1 md.2.2.1 <;> simp_all [zb]; done)
            · refine K71 _ g2 g3 ?_
              first
                | (cases z : yCry P md t s.1 <;> simp_all [zb]; done)
                | (rw [hy]; cases z1 : yTc md.2.1 t s.1 0 P.2.1 <;> cases z2 : yEx t s.1 md.2.2.1 <;> simp_all [zb]; done)
        · have hy : yCry P md t s.1 = yDr md.2.2.2 t s.1 P.1 0 0 := by (unfold yCry; rw [if_pos (by omega)])
          refine z_raload_n h dX1_runTo_44 rfl ?_
          refine z_iload_n h dX1_runTo_45 rfl ?_
          refine z_cVi1 h dX1_runTo_46 lX1_66 vX1_isDrawnCry rfl L5 (c_X1_isDrawnCry σ2 π hp hk2.2.1 P hk2.1 s.1 g3.1 t ht (by omega)) rfl (Nat.le_of_ble_eq_true rfl) (by decide) (fun v σ3 g4 => ?_)
          obtain ⟨rfl, rfl⟩ := g4
          rw [e9.1, ← hy]
          refine z_if_eq h dX1_runTo_49 (by (cases yCry P md t s.1 <;> decide)) (fun b49 => ?_) (fun b49 => ?_)
          · refine K76 _ g2 (hno ?_)
            first
              | (cases z : yCry P md t s.1 <;> simp_all [zb]; done)
              | (rw [hy]; cases z1 : yTc md.2.1 t s.1 0 P.2.1 <;> cases z2 : yEx t s.1 md.2.2.1 <;> simp_all [zb]; done)
          · refine z_goto h dX1_runTo_52 ?_
            refine K71 _ g2 g3 ?_
            first
              | (cases z : yCry P md t s.1 <;> simp_all [zb]; done)
              | (rw [hy]; cases z1 : yTc md.2.1 t s.1 0 P.2.1 <;> cases z2 : yEx t s.1 md.2.2.1 <;> simp_all [zb]; done)
  refine z_raload_n h dX1_runTo_0 rfl ?_
  refine z_cVv0 h dX1_runTo_1 lX1_53 vX1_begin rfl L5 (c_X1_begin σ π hp hpl) rfl (Nat.le_of_ble_eq_true rfl) (by decide) (fun σ1 h1 => ?_)
  obtain ⟨h1, h2, h3, h4⟩ := h1
  have q9 := hP.2.2.2.2.1.2.2.2.1
  have q9' := hP.2.2.2.2.2.2.2.2.2.2.2.1
  refine z_iconst h dX1_runTo_4 ?_
  refine z_ist1_n h dX1_runTo_5 (by decide) (zst1_2 rfl) ?_
  refine L (la + 1) 0 σ1 (by omega) ⟨zfr_mono h1 (by omega) (by omega), h2⟩ ⟨⟨h3.1, by simp [sRun, sInit], by simp [sRun, sInit], by simp [sRun, sInit], by simp [sRun, sInit], fun i a b => ?_⟩, fun i a b => ?_, ⟨?_, q9'⟩, h3.2.2.2.2.1, Or.inl ⟨rfl, h3.2.2.2.2.2⟩, 0, h3.2.1, by omega, ?_, by simp [sRun, sInit], ?_, ?_⟩
  · rw [(h4 i a b).2.2]; simp [sRun, sInit]
  · have := h4 i a b
    exact ⟨⟨this.1, this.2.1⟩, by simp [sRun, sInit]⟩
  · rw [h3.2.2.2.1, q9]; rfl
  · exact (sRem_0 P hP.2.2.2.2.2).symm
  · rw [h3.2.2.1]; simp [sRun, sInit]
  · show (([] : List Int) ++ (sRem P 0).map (fun x => x.2)).Nodup
    rw [List.nil_append, sRem_0 P hP.2.2.2.2.2]
    exact (zod_nodup P.1).1
