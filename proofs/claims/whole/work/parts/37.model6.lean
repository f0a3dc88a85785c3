/-! ===== who comes, by number ===== -/
def zIdx (t : Int) : List (Int × Int × Int) → Int → List (Int × Int)
  | [], _ => []
  | p :: r, i => if p.1 = t then (p.1, i) :: zIdx t r (i + 1) else zIdx t r (i + 1)
def zIx (law t : Int) : List (Int × Int × Int) → Int → List Int → List Int
  | [], _, line => line
  | p :: r, i, line => zIx law t r (i + 1) (if p.1 = t then zJoin law line i else line)
def zFo (law : Int) : List (Int × Int) → List Int → List Int
  | [], line => line
  | x :: r, line => zFo law r (zJoin law line x.2)
theorem zins_g (t a n : Int) (l : List (Int × Int)) : (zins a n l).filter (fun x => decide (x.1 = t)) = l.filter (fun x => decide (x.1 = t)) ++ (if a = t then [(a, n)] else []) := by
  unfold zins
  rw [List.filter_append, List.filter_cons, List.filter_filter, List.filter_filter]
  have e1 : a = t → l.filter (fun x => decide (x.1 = t) && decide (a < x.1)) = [] := fun h => List.filter_eq_nil_iff.mpr (fun x _ => by simp; omega)
  have e2 : a = t → l.filter (fun x => decide (x.1 = t) && decide (x.1 ≤ a)) = l.filter (fun x => decide (x.1 = t)) := fun h => List.filter_congr (fun x _ => by rw [Bool.eq_iff_iff]; simp; omega)
  have e3 : a < t → l.filter (fun x => decide (x.1 = t) && decide (a < x.1)) = l.filter (fun x => decide (x.1 = t)) := fun h => List.filter_congr (fun x _ => by rw [Bool.eq_iff_iff]; simp; omega)
  have e4 : a < t → l.filter (fun x => decide (x.1 = t) && decide (x.1 ≤ a)) = [] := fun h => List.filter_eq_nil_iff.mpr (fun x _ => by simp; omega)
  have e5 : t < a → l.filter (fun x => decide (x.1 = t) && decide (a < x.1)) = [] := fun h => List.filter_eq_nil_iff.mpr (fun x _ => by simp; omega)
  have e6 : t < a → l.filter (fun x => decide (x.1 = t) && decide (x.1 ≤ a)) = l.filter (fun x => decide (x.1 = t)) := fun h => List.filter_congr (fun x _ => by rw [Bool.eq_iff_iff]; simp; omega)
  by_cases h : a = t
  · rw [e1 h, e2 h, if_pos (by simpa using h), if_pos h]
  · rw [if_neg (by simpa using h), if_neg h, List.append_nil]
    by_cases h2 : a < t
    · rw [e3 h2, e4 h2, List.nil_append]
    · rw [e5 (by omega), e6 (by omega), List.append_nil]
theorem zodl_f (t : Int) : ∀ (pe : List (Int × Int × Int)) (n : Int) (acc : List (Int × Int)), (zodl pe n acc).filter (fun x => decide (x.1 = t)) = acc.filter (fun x => decide (x.1 = t)) ++ zIdx t pe n
  | [], n, acc => by simp [zodl, zIdx]
  | p :: r, n, acc => by
    rw [zodl, zodl_f t r, zins_g, zIdx, List.append_assoc]
    congr 1
    split <;> simp
theorem zCm_fo (law t : Int) : ∀ (l : List (Int × Int)) (line : List Int), l.Pairwise (fun x y => x.1 ≤ y.1) → (∀ x ∈ l, t ≤ x.1) → zCm law t l line = zFo law (l.filter (fun x => decide (x.1 = t))) line
  | [], line, _, _ => rfl
  | x :: r, line, hs, hm => by
    have h1 := List.pairwise_cons.mp hs
    rw [zCm, List.filter_cons]
    by_cases e : x.1 = t
    · rw [if_pos e, if_pos (by simpa using e), zFo]
      exact zCm_fo law t r _ h1.2 (fun y hy => hm y (List.mem_cons_of_mem _ hy))
    · rw [if_neg e, if_neg (by simpa using e)]
      have hx := hm x (by simp)
      rw [List.filter_eq_nil_iff.mpr (fun y hy => by have := h1.1 y hy; simp; omega)]
      rfl
theorem zIx_fo (law t : Int) : ∀ (pe : List (Int × Int × Int)) (i : Int) (line : List Int), zIx law t pe i line = zFo law (zIdx t pe i) line
  | [], _, _ => rfl
  | p :: r, i, line => by
    rw [zIx, zIdx, zIx_fo law t r]
    split <;> rfl
theorem sCome_ix (P : zP) (md : zMd) (t : Int) (s : zS) : sCome P md t s = (zIx md.1 t P.1 0 s.1, s.2) := by
  unfold sCome
  congr 1
  have hs := zod_sorted P.1
  rw [zIx_fo, zCm_fo]
  · have : zIdx t P.1 0 = (zod P.1).filter (fun x => decide (x.1 = t)) := by unfold zod; rw [zodl_f]; simp
    rw [this]
    unfold sRem
    rw [List.filter_filter]
    congr 1
    exact List.filter_congr (fun x _ => by rw [Bool.eq_iff_iff]; simp; omega)
  · exact hs.filter _
  · intro x hx
    have := (List.mem_filter.mp hx).2
    simpa using this
theorem pigeon : ∀ (n : Nat) (l : List Int), l.Nodup → (∀ x ∈ l, 0 ≤ x ∧ x < n) → l.length ≤ n
  | 0, l, _, h => by
    cases l with
    | nil => simp
    | cons a r => have := h a (by simp); omega
  | n + 1, l, hn, h => by
    by_cases e : (n : Int) ∈ l
    · have h1 := pigeon n (l.erase n) (hn.erase _) (fun x hx => by
        have h2 := (hn.mem_erase_iff.mp hx)
        have h3 := h x h2.2
        have h4 := h2.1
        omega)
      rw [List.length_erase_of_mem e] at h1
      omega
    · have h1 := pigeon n l hn (fun x hx => by
        have h3 := h x hx
        have h4 : x ≠ n := fun z => e (z ▸ hx)
        omega)
      omega
theorem zEd_cons (x v : Int) (l : List Int) (f : Int → Int) : zEd (x :: l) v f = zEd l v (fun i => if i = x then v else f i) := by
  funext i
  unfold zEd
  by_cases e : i ∈ l
  · rw [if_pos (List.mem_cons_of_mem _ e), if_pos e]
  · rw [if_neg e]
    by_cases e2 : i = x
    · rw [if_pos (by simp [e2])]; exact (if_pos e2).symm
    · rw [if_neg (by simp [e2, e])]; exact (if_neg e2).symm
def mMs (σ : zM) (P : zP) (s : zS) (b : Int) : Prop := mRow σ s.1 P.1.length ∧ mEnd σ s.2.1 s.2.2.1 P.1.length ∧ σ 57 31 = s.2.2.2.1 ∧ (-1000 ≤ s.2.2.2.2.1 ∧ s.2.2.2.2.1 ≤ 200) ∧ (0 ≤ s.2.2.2.2.2 ∧ s.2.2.2.2.2 ≤ 99) ∧ ∀ x ∈ s.1, pA P x < b
def mKp (σ σ' : zM) : Prop := (∀ c, c ≠ 57 → c ≠ 74 → c ≠ 75 → c ≠ 76 → ∀ i, σ' c i = σ c i) ∧ ∀ i : Int, i ≠ 28 → i ≠ 31 → σ' 57 i = σ 57 i
theorem mKp_rf {σ : zM} : mKp σ σ := ⟨fun _ _ _ _ _ _ => rfl, fun _ _ _ => rfl⟩
theorem mKp_tr {σ σ1 σ2 : zM} (h1 : mKp σ σ1) (h2 : mKp σ1 σ2) : mKp σ σ2 := ⟨fun c a b d e i => (h2.1 c a b d e i).trans (h1.1 c a b d e i), fun i a b => (h2.2 i a b).trans (h1.2 i a b)⟩
theorem mPlan_kp {σ σ' : zM} {b : Int} {P : zP} (h : mPlan σ b P) (hk : mKp σ σ') : mPlan σ' b P := mPlan_fr h (fun c hc => hk.1 c (by omega) (by omega) (by omega) (by omega) _) (fun c k _ _ _ => hk.1 c (by omega) (by omega) (by omega) (by omega) _) (mCr_fr h.2.2.1 (hk.1 68 (by omega) (by omega) (by omega) (by omega) _) (fun k _ _ => ⟨hk.1 69 (by omega) (by omega) (by omega) (by omega) _, hk.1 70 (by omega) (by omega) (by omega) (by omega) _⟩))
theorem mMd_kp {σ σ' : zM} {np : Nat} {md : zMd} (h : mMd σ np md) (hk : mKp σ σ') : mMd σ' np md := by
  unfold mMd
  rw [hk.2 25 (by omega) (by omega), hk.2 20 (by omega) (by omega), hk.2 26 (by omega) (by omega), hk.2 21 (by omega) (by omega), hk.2 22 (by omega) (by omega), hk.2 23 (by omega) (by omega), hk.2 24 (by omega) (by omega)]
  exact h
/-- one has ended -/
theorem mEnd_up {σ σ' : zM} {how whn : Int → Int} {np : Nat} (h : mEnd σ how whn np) (x v t : Int) (hv : 0 ≤ v ∧ v ≤ 3) (ht : 0 ≤ t ∧ t < 200) (hf : ∀ i, σ' 75 i = zup (zup σ 75 x v) 76 x t 75 i ∧ σ' 76 i = zup (zup σ 75 x v) 76 x t 76 i) : mEnd σ' (fun i => if i = x then v else how i) (fun i => if i = x then t else whn i) np := by
  intro i a b
  have h1 := h i a b
  rw [(hf i).1, (hf i).2]
  by_cases e : i = x
  · subst e
    rw [zup_eq, zup_ne (by omega), zup_eq]
    simp
    omega
  · rw [zup_nei e, zup_nei e, zup_nei e, zup_nei e]
    simp only [if_neg e]
    exact h1
/-- the first of the row goes -/
theorem mMs_out {σ σ1 σ2 : zM} {P : zP} {x : Int} {tl : List Int} {how whn : Int → Int} {r : Int × Int × Int} {b : Int} (h : mMs σ P (x :: tl, how, whn, r) b) (v t le : Int) (hv : 0 ≤ v ∧ v ≤ 3) (ht : 0 ≤ t ∧ t < 200) (hle : 0 ≤ le ∧ le ≤ 99) (h1 : σ1 = zup (zup σ 75 x v) 76 x t) (h2 : (∀ c, c ≠ 57 → c ≠ 74 → ∀ i, σ2 c i = σ1 c i) ∧ (∀ i : Int, i ≠ 28 → σ2 57 i = σ1 57 i) ∧ mRow σ2 tl P.1.length) : mKp σ σ2 ∧ mMs σ2 P (tl, (fun i => if i = x then v else how i), (fun i => if i = x then t else whn i), r.1, r.2.1, le) b := by
  subst h1
  obtain ⟨a1, a2, a3, a4, a5, a6⟩ := h
  refine ⟨⟨fun c c1 c2 c3 c4 i => ?_, fun i i1 i2 => ?_⟩, h2.2.2, mEnd_up a2 x v t hv ht (fun i => ⟨h2.1 75 (by omega) (by omega) i, h2.1 76 (by omega) (by omega) i⟩), ?_, a4, hle, fun y hy => a6 y (List.mem_cons_of_mem _ hy)⟩
  · rw [h2.1 c c1 c2, zup_ne c4, zup_ne c3]
  · rw [h2.2.1 i i1, zup_ne (by omega), zup_ne (by omega)]
  · rw [h2.2.1 31 (by omega), zup_ne (by omega), zup_ne (by omega)]; exact a3
