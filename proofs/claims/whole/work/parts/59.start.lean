/-- the memory behind both constructors -/
def s0 : zM := fun c i => match c with
  | 0 => if i = 7 then 39 else if i = 8 then 48 else if i = 9 then 1 else 0
  | 5 => if i = 6 then 12 else 0
  | 12 => if i = 7 then 1 else if i = 8 then 2 else if i = 9 then 99 else 0
  | 39 => if i = 5 then 3 else if i = 7 then 1 else if i = 8 then 2 else if i = 9 then 99 else 0
  | 40 => ((upd (upd (upd f0 0 (Int32.ofInt 0)) 1 (Int32.ofInt 0)) 2 (Int32.ofInt 0)) i.toNat).toInt
  | 41 => ((upd (upd (upd f0 0 (Int32.ofInt 0)) 1 (Int32.ofInt 0)) 2 (Int32.ofInt 1)) i.toNat).toInt
  | 42 => ((upd (upd (upd f0 0 (Int32.ofInt 50)) 1 (Int32.ofInt 50)) 2 (Int32.ofInt 50)) i.toNat).toInt
  | 43 => ((upd (upd (upd f0 0 (Int32.ofInt 0)) 1 (Int32.ofInt 1)) 2 (Int32.ofInt 2)) i.toNat).toInt
  | 44 => if i = 3 then 1 else 0
  | 45 => ((upd f0 0 (Int32.ofInt 2)) i.toNat).toInt
  | 46 => ((upd f0 0 (Int32.ofInt 1)) i.toNat).toInt
  | 47 => ((upd f0 1 (Int32.ofInt 1)) i.toNat).toInt
  | 48 => if i = 7 then 1 else if i = 8 then 2 else if i = 9 then 99 else 0
  | 59 => ((upd (upd f0 0 (Int32.ofInt 0)) 0 (Int32.ofInt 3)) i.toNat).toInt
  | 61 => ((upd f0 2 (Int32.ofInt 1)) i.toNat).toInt
  | 62 => ((upd (upd (upd f0 0 (Int32.ofInt 50)) 1 (Int32.ofInt 50)) 2 (Int32.ofInt 50)) i.toNat).toInt
  | 63 => ((upd f0 0 (Int32.ofInt 0)) i.toNat).toInt
  | 64 => ((upd f0 0 (Int32.ofInt 1)) i.toNat).toInt
  | 65 => ((upd f0 0 (Int32.ofInt 2)) i.toNat).toInt
  | 66 => ((upd f0 0 (Int32.ofInt 99)) i.toNat).toInt
  | 67 => ((upd f0 0 (Int32.ofInt 0)) i.toNat).toInt
  | 68 => ((upd (upd f0 0 (Int32.ofInt 0)) 0 (Int32.ofInt 1)) i.toNat).toInt
  | 69 => ((upd f0 0 (Int32.ofInt 2)) i.toNat).toInt
  | 70 => ((upd f0 0 (Int32.ofInt 1)) i.toNat).toInt
  | _ => 0
theorem s0_0 {c : Nat} (h : ∀ j : Nat, s0 c j = 0) : f0 = fun j : Nat => Int32.ofInt (s0 c j) := funext fun j => by
  rw [h]
  exact z32_0
theorem s0_F {c : Nat} {F : Nat → Int32} (h : ∀ j : Nat, s0 c j = (F j).toInt) : F = fun j : Nat => Int32.ofInt (s0 c j) := funext fun j => by
  rw [h]
  exact (z32_all _).symm
theorem s0_J {c : Nat} (h : ∀ j : Nat, s0 c j = 0) : g0 = fun j : Nat => Int64.ofInt (s0 c j) := funext fun j => by
  rw [h]
  show (0 : Int64) = Int64.ofInt 0
  decide
theorem e0_I (w : zW) (q ty n c : Nat) {F : Nat → Int32} (h : F = fun j : Nat => Int32.ofInt (s0 c j)) (ht : ty ≠ 2) (hq : w.2.2 c = q) : eI w q ty n F = (w.2.2 c, zce w s0 c (.inr (.inl (ty, n)))) := by
  subst hq
  show _ = (w.2.2 c, (if ty = 2 then _ else _ : va_E))
  rw [if_neg ht, ← h]
theorem e0_J (w : zW) (q n c : Nat) (h : g0 = fun j : Nat => Int64.ofInt (s0 c j)) (hq : w.2.2 c = q) : eJ w q n g0 = (w.2.2 c, zce w s0 c (.inr (.inl (2, n)))) := by
  subst hq
  rw [h]
  rfl
theorem e0_R (w : zW) (q a b c : Nat) (hq : w.2.2 c = q) (ha : w.2.2 31 = a) (hb : w.2.2 35 = b) : eR w q 2 (va_up (va_up (fun _ => none) 0 (some a)) 1 (some b)) = (w.2.2 c, zce w s0 c (.inr (.inr [31, 35]))) := by
  subst hq ha hb
  show (w.2.2 c, (.inl (w.2.1 4, 2, .inr (.inr (.inr (.inr _)))) : va_E)) = (w.2.2 c, .inl (w.2.1 4, 2, .inr (.inr (.inr (.inr _)))))
  have e : va_up (va_up (fun _ => none) 0 (some (w.2.2 31))) 1 (some (w.2.2 35)) = fun j : Nat => (([31, 35] : List Nat)[j]?).map w.2.2 := by
    funext j
    match j with
    | 0 => rfl
    | 1 => rfl
    | j + 2 => simp [va_up]
  rw [e]
theorem e0_c {x y : Nat × va_E} {l m : va_W} (h : x = y) (h2 : l = m) : x :: l = y :: m := by rw [h, h2]
set_option maxHeartbeats 16000000 in
set_option maxRecDepth 100000 in
theorem start_world (w : zW) : [eO (w.2.2 0) 7 [.ref (w.2.2 1), .ref (w.2.2 4), .ref (w.2.2 5), .ref (w.2.2 23), .ref (w.2.2 27), .ref (w.2.2 30), zi 0, .ref (w.2.2 39), .ref (w.2.2 48), zi 1], eO (w.2.2 1) 6 [.ref (w.2.2 2), .ref (w.2.2 3), zi 0, zi 0], eI w (w.2.2 2) 1 300 f0, eI w (w.2.2 3) 0 3 f0, eO (w.2.2 4) 5 [.ref (w.2.2 5), .ref (w.2.2 21), .ref (w.2.2 22), zi 0, zi 0, zi 0, zi 0, zi 0], eO (w.2.2 5) 1 [.ref (w.2.2 6), .ref (w.2.2 7), .ref (w.2.2 8), .ref (w.2.2 9), .ref (w.2.2 10), .ref (w.2.2 11), .ref (w.2.2 12), zi 0, zi 0, zi 0, zi 0, zi 0, zi 0, zi 0, zi 0, zi 0], eI w (w.2.2 6) 0 10 f0, eI w (w.2.2 7) 0 10 f0, eI w (w.2.2 8) 3 10 f0, eI w (w.2.2 9) 0 10 f0, eI w (w.2.2 10) 0 2 f0, eI w (w.2.2 11) 0 2 f0, eO (w.2.2 12) 4 [.ref (w.2.2 13), .ref (w.2.2 14), .ref (w.2.2 15), .ref (w.2.2 16), .ref (w.2.2 17), zi 0, zi 0, zi 1, zi 2, zi 99, zi 0], eI w (w.2.2 13) 0 10 f0, eI w (w.2.2 14) 0 10 f0, eI w (w.2.2 15) 0 10 f0, eI w (w.2.2 16) 0 10 f0, eO (w.2.2 17) 0 [.ref (w.2.2 18), .ref (w.2.2 19), .ref (w.2.2 20), zi 0], eI w (w.2.2 18) 0 8 f0, eI w (w.2.2 19) 0 8 f0, eI w (w.2.2 20) 0 100 f0, eI w (w.2.2 21) 0 144 f0, eI w (w.2.2 22) 0 144 f0, eO (w.2.2 23) 3 [.ref (w.2.2 24), .ref (w.2.2 25), .ref (w.2.2 26)], eJ w (w.2.2 24) 9 g0, eJ w (w.2.2 25) 9 g0, eJ w (w.2.2 26) 9 g0, eO (w.2.2 27) 2 [.ref (w.2.2 28), .ref (w.2.2 29), zi 0, zi 0, zi 0, zi 0], eI w (w.2.2 28) 0 9 f0, eI w (w.2.2 29) 0 9 f0, eR w (w.2.2 30) 2 (va_up (va_up (fun _ => none) 0 (some (w.2.2 31))) 1 (some (w.2.2 35))), eO (w.2.2 31) 0 [.ref (w.2.2 32), .ref (w.2.2 33), .ref (w.2.2 34), zi 0], eI w (w.2.2 32) 0 8 f0, eI w (w.2.2 33) 0 8 f0, eI w (w.2.2 34) 0 100 f0, eO (w.2.2 35) 0 [.ref (w.2.2 36), .ref (w.2.2 37), .ref (w.2.2 38), zi 0], eI w (w.2.2 36) 0 8 f0, eI w (w.2.2 37) 0 8 f0, eI w (w.2.2 38) 0 100 f0, eO (w.2.2 39) 4 [.ref (w.2.2 40), .ref (w.2.2 41), .ref (w.2.2 42), .ref (w.2.2 43), .ref (w.2.2 44), zi 3, zi 0, zi 1, zi 2, zi 99, zi 0], eI w (w.2.2 40) 0 10 (upd (upd (upd f0 0 (Int32.ofInt 0)) 1 (Int32.ofInt 0)) 2 (Int32.ofInt 0)), eI w (w.2.2 41) 0 10 (upd (upd (upd f0 0 (Int32.ofInt 0)) 1 (Int32.ofInt 0)) 2 (Int32.ofInt 1)), eI w (w.2.2 42) 0 10 (upd (upd (upd f0 0 (Int32.ofInt 50)) 1 (Int32.ofInt 50)) 2 (Int32.ofInt 50)), eI w (w.2.2 43) 0 10 (upd (upd (upd f0 0 (Int32.ofInt 0)) 1 (Int32.ofInt 1)) 2 (Int32.ofInt 2)), eO (w.2.2 44) 0 [.ref (w.2.2 45), .ref (w.2.2 46), .ref (w.2.2 47), zi 1], eI w (w.2.2 45) 0 8 (upd f0 0 (Int32.ofInt 2)), eI w (w.2.2 46) 0 8 (upd f0 0 (Int32.ofInt 1)), eI w (w.2.2 47) 0 100 (upd f0 1 (Int32.ofInt 1)), eO (w.2.2 48) 4 [.ref (w.2.2 49), .ref (w.2.2 50), .ref (w.2.2 51), .ref (w.2.2 52), .ref (w.2.2 53), zi 0, zi 0, zi 1, zi 2, zi 99, zi 0], eI w (w.2.2 49) 0 10 f0, eI w (w.2.2 50) 0 10 f0, eI w (w.2.2 51) 0 10 f0, eI w (w.2.2 52) 0 10 f0, eO (w.2.2 53) 0 [.ref (w.2.2 54), .ref (w.2.2 55), .ref (w.2.2 56), zi 0], eI w (w.2.2 54) 0 8 f0, eI w (w.2.2 55) 0 8 f0, eI w (w.2.2 56) 0 100 f0, eO (w.2.2 57) 8 [zi 0, .ref (w.2.2 58), .ref (w.2.2 59), .ref (w.2.2 60), .ref (w.2.2 61), .ref (w.2.2 62), .ref (w.2.2 63), .ref (w.2.2 64), .ref (w.2.2 65), .ref (w.2.2 66), .ref (w.2.2 67), .ref (w.2.2 68), .ref (w.2.2 69), .ref (w.2.2 70), zi 0, zi 0, .ref (w.2.2 71), .ref (w.2.2 72), zi 0, .ref (w.2.2 73), zi 0, zi 0, zi 0, zi 0, zi 0, zi 0, zi 0, .ref (w.2.2 74), zi 0, .ref (w.2.2 75), .ref (w.2.2 76), zi 0, .ref (w.2.2 77), .ref (w.2.2 78), .ref (w.2.2 79)], eI w (w.2.2 58) 0 300 f0, eI w (w.2.2 59) 0 2 (upd (upd f0 0 (Int32.ofInt 0)) 0 (Int32.ofInt 3)), eI w (w.2.2 60) 0 20 f0, eI w (w.2.2 61) 0 20 (upd f0 2 (Int32.ofInt 1)), eI w (w.2.2 62) 0 20 (upd (upd (upd f0 0 (Int32.ofInt 50)) 1 (Int32.ofInt 50)) 2 (Int32.ofInt 50)), eI w (w.2.2 63) 0 2 (upd f0 0 (Int32.ofInt 0)), eI w (w.2.2 64) 0 2 (upd f0 0 (Int32.ofInt 1)), eI w (w.2.2 65) 0 2 (upd f0 0 (Int32.ofInt 2)), eI w (w.2.2 66) 0 2 (upd f0 0 (Int32.ofInt 99)), eI w (w.2.2 67) 0 2 (upd f0 0 (Int32.ofInt 0)), eI w (w.2.2 68) 0 4 (upd (upd f0 0 (Int32.ofInt 0)) 0 (Int32.ofInt 1)), eI w (w.2.2 69) 0 32 (upd f0 0 (Int32.ofInt 2)), eI w (w.2.2 70) 0 32 (upd f0 0 (Int32.ofInt 1)), eI w (w.2.2 71) 0 2 f0, eI w (w.2.2 72) 0 18 f0, eI w (w.2.2 73) 0 3 f0, eI w (w.2.2 74) 0 10 f0, eI w (w.2.2 75) 0 10 f0, eI w (w.2.2 76) 0 10 f0, eI w (w.2.2 77) 0 144 f0, eI w (w.2.2 78) 0 144 f0, eJ w (w.2.2 79) 100 g0] = zwl w s0 := by
  refine e0_c (rfl) ?_
  refine e0_c (rfl) ?_
  refine e0_c (e0_I _ _ _ _ 2 (s0_0 (fun _ => rfl)) (by decide) rfl) ?_
  refine e0_c (e0_I _ _ _ _ 3 (s0_0 (fun _ => rfl)) (by decide) rfl) ?_
  refine e0_c (rfl) ?_
  refine e0_c (rfl) ?_
  refine e0_c (e0_I _ _ _ _ 6 (s0_0 (fun _ => rfl)) (by decide) rfl) ?_
  refine e0_c (e0_I _ _ _ _ 7 (s0_0 (fun _ => rfl)) (by decide) rfl) ?_
  refine e0_c (e0_I _ _ _ _ 8 (s0_0 (fun _ => rfl)) (by decide) rfl) ?_
  refine e0_c (e0_I _ _ _ _ 9 (s0_0 (fun _ => rfl)) (by decide) rfl) ?_
  refine e0_c (e0_I _ _ _ _ 10 (s0_0 (fun _ => rfl)) (by decide) rfl) ?_
  refine e0_c (e0_I _ _ _ _ 11 (s0_0 (fun _ => rfl)) (by decide) rfl) ?_
  refine e0_c (rfl) ?_
  refine e0_c (e0_I _ _ _ _ 13 (s0_0 (fun _ => rfl)) (by decide) rfl) ?_
  refine e0_c (e0_I _ _ _ _ 14 (s0_0 (fun _ => rfl)) (by decide) rfl) ?_
  refine e0_c (e0_I _ _ _ _ 15 (s0_0 (fun _ => rfl)) (by decide) rfl) ?_
  refine e0_c (e0_I _ _ _ _ 16 (s0_0 (fun _ => rfl)) (by decide) rfl) ?_
  refine e0_c (rfl) ?_
  refine e0_c (e0_I _ _ _ _ 18 (s0_0 (fun _ => rfl)) (by decide) rfl) ?_
  refine e0_c (e0_I _ _ _ _ 19 (s0_0 (fun _ => rfl)) (by decide) rfl) ?_
  refine e0_c (e0_I _ _ _ _ 20 (s0_0 (fun _ => rfl)) (by decide) rfl) ?_
  refine e0_c (e0_I _ _ _ _ 21 (s0_0 (fun _ => rfl)) (by decide) rfl) ?_
  refine e0_c (e0_I _ _ _ _ 22 (s0_0 (fun _ => rfl)) (by decide) rfl) ?_
  refine e0_c (rfl) ?_
  refine e0_c (e0_J _ _ _ 24 (s0_J (fun _ => rfl)) rfl) ?_
  refine e0_c (e0_J _ _ _ 25 (s0_J (fun _ => rfl)) rfl) ?_
  refine e0_c (e0_J _ _ _ 26 (s0_J (fun _ => rfl)) rfl) ?_
  refine e0_c (rfl) ?_
  refine e0_c (e0_I _ _ _ _ 28 (s0_0 (fun _ => rfl)) (by decide) rfl) ?_
  refine e0_c (e0_I _ _ _ _ 29 (s0_0 (fun _ => rfl)) (by decide) rfl) ?_
  refine e0_c (e0_R _ _ _ _ 30 rfl rfl rfl) ?_
  refine e0_c (rfl) ?_
  refine e0_c (e0_I _ _ _ _ 32 (s0_0 (fun _ => rfl)) (by decide) rfl) ?_
  refine e0_c (e0_I _ _ _ _ 33 (s0_0 (fun _ => rfl)) (by decide) rfl) ?_
  refine e0_c (e0_I _ _ _ _ 34 (s0_0 (fun _ => rfl)) (by decide) rfl) ?_
  refine e0_c (rfl) ?_
  refine e0_c (e0_I _ _ _ _ 36 (s0_0 (fun _ => rfl)) (by decide) rfl) ?_
  refine e0_c (e0_I _ _ _ _ 37 (s0_0 (fun _ => rfl)) (by decide) rfl) ?_
  refine e0_c (e0_I _ _ _ _ 38 (s0_0 (fun _ => rfl)) (by decide) rfl) ?_
  refine e0_c (rfl) ?_
  refine e0_c (e0_I _ _ _ _ 40 (s0_F (fun _ => rfl)) (by decide) rfl) ?_
  refine e0_c (e0_I _ _ _ _ 41 (s0_F (fun _ => rfl)) (by decide) rfl) ?_
  refine e0_c (e0_I _ _ _ _ 42 (s0_F (fun _ => rfl)) (by decide) rfl) ?_
  refine e0_c (e0_I _ _ _ _ 43 (s0_F (fun _ => rfl)) (by decide) rfl) ?_
  refine e0_c (rfl) ?_
  refine e0_c (e0_I _ _ _ _ 45 (s0_F (fun _ => rfl)) (by decide) rfl) ?_
  refine e0_c (e0_I _ _ _ _ 46 (s0_F (fun _ => rfl)) (by decide) rfl) ?_
  refine e0_c (e0_I _ _ _ _ 47 (s0_F (fun _ => rfl)) (by decide) rfl) ?_
  refine e0_c (rfl) ?_
  refine e0_c (e0_I _ _ _ _ 49 (s0_0 (fun _ => rfl)) (by decide) rfl) ?_
  refine e0_c (e0_I _ _ _ _ 50 (s0_0 (fun _ => rfl)) (by decide) rfl) ?_
  refine e0_c (e0_I _ _ _ _ 51 (s0_0 (fun _ => rfl)) (by decide) rfl) ?_
  refine e0_c (e0_I _ _ _ _ 52 (s0_0 (fun _ => rfl)) (by decide) rfl) ?_
  refine e0_c (rfl) ?_
  refine e0_c (e0_I _ _ _ _ 54 (s0_0 (fun _ => rfl)) (by decide) rfl) ?_
  refine e0_c (e0_I _ _ _ _ 55 (s0_0 (fun _ => rfl)) (by decide) rfl) ?_
  refine e0_c (e0_I _ _ _ _ 56 (s0_0 (fun _ => rfl)) (by decide) rfl) ?_
  refine e0_c (rfl) ?_
  refine e0_c (e0_I _ _ _ _ 58 (s0_0 (fun _ => rfl)) (by decide) rfl) ?_
  refine e0_c (e0_I _ _ _ _ 59 (s0_F (fun _ => rfl)) (by decide) rfl) ?_
  refine e0_c (e0_I _ _ _ _ 60 (s0_0 (fun _ => rfl)) (by decide) rfl) ?_
  refine e0_c (e0_I _ _ _ _ 61 (s0_F (fun _ => rfl)) (by decide) rfl) ?_
  refine e0_c (e0_I _ _ _ _ 62 (s0_F (fun _ => rfl)) (by decide) rfl) ?_
  refine e0_c (e0_I _ _ _ _ 63 (s0_F (fun _ => rfl)) (by decide) rfl) ?_
  refine e0_c (e0_I _ _ _ _ 64 (s0_F (fun _ => rfl)) (by decide) rfl) ?_
  refine e0_c (e0_I _ _ _ _ 65 (s0_F (fun _ => rfl)) (by decide) rfl) ?_
  refine e0_c (e0_I _ _ _ _ 66 (s0_F (fun _ => rfl)) (by decide) rfl) ?_
  refine e0_c (e0_I _ _ _ _ 67 (s0_F (fun _ => rfl)) (by decide) rfl) ?_
  refine e0_c (e0_I _ _ _ _ 68 (s0_F (fun _ => rfl)) (by decide) rfl) ?_
  refine e0_c (e0_I _ _ _ _ 69 (s0_F (fun _ => rfl)) (by decide) rfl) ?_
  refine e0_c (e0_I _ _ _ _ 70 (s0_F (fun _ => rfl)) (by decide) rfl) ?_
  refine e0_c (e0_I _ _ _ _ 71 (s0_0 (fun _ => rfl)) (by decide) rfl) ?_
  refine e0_c (e0_I _ _ _ _ 72 (s0_0 (fun _ => rfl)) (by decide) rfl) ?_
  refine e0_c (e0_I _ _ _ _ 73 (s0_0 (fun _ => rfl)) (by decide) rfl) ?_
  refine e0_c (e0_I _ _ _ _ 74 (s0_0 (fun _ => rfl)) (by decide) rfl) ?_
  refine e0_c (e0_I _ _ _ _ 75 (s0_0 (fun _ => rfl)) (by decide) rfl) ?_
  refine e0_c (e0_I _ _ _ _ 76 (s0_0 (fun _ => rfl)) (by decide) rfl) ?_
  refine e0_c (e0_I _ _ _ _ 77 (s0_0 (fun _ => rfl)) (by decide) rfl) ?_
  refine e0_c (e0_I _ _ _ _ 78 (s0_0 (fun _ => rfl)) (by decide) rfl) ?_
  refine e0_c (e0_J _ _ _ 79 (s0_J (fun _ => rfl)) rfl) ?_
  rfl
def S0 : zSt := ([], ([(0, 0, 50), (0, 0, 50), (0, 1, 50)], [(2, 1)], 0, 1, 2, 99, 0), 1, [], [], [])
theorem pok0 : zPok S0.2.1 := by
  refine ⟨by decide, ?_, ?_, by decide, by decide, by decide, by decide, by decide⟩
  · intro p hp
    simp [S0] at hp
    rcases hp with rfl | rfl <;> decide
  · intro p hp
    simp [S0] at hp
    subst hp
    decide
theorem cry0 {κ : Nat} (h3 : s0 κ 3 = 0) (h : ∀ m : Int, s0 (κ + 3) m = 0) : cCry s0 κ [] := ⟨h3, by decide, fun k p hp => by simp at hp, fun m _ _ => by rw [h]; rfl⟩
theorem cry1 : cCry s0 44 [(2, 1)] := by
  refine ⟨rfl, by decide, fun k p hp => ?_, fun m h1 h2 => ?_⟩
  · have hk := (List.getElem?_eq_some_iff.mp hp).1
    simp at hk
    subst hk
    simp at hp
    subst hp
    decide
  · show (upd f0 1 (Int32.ofInt 1) m.toNat).toInt = ((zbn [(2, 1)] m : Nat) : Int)
    by_cases e : m = 1
    · subst e
      decide
    · have e2 : m.toNat ≠ 1 := by omega
      have e3 : ¬ (1 = m) := fun z => e z.symm
      simp [upd, e2, zbn, e3, f0]
theorem cInv0 : cInv s0 S0 := by
  refine ⟨39, 48, ⟨Or.inl rfl, Or.inr rfl, by decide⟩, ⟨rfl, rfl⟩, ⟨rfl, by decide, fun k x hx => by simp [S0] at hx, fun k _ _ => by show -1 ≤ (0 : Int) ∧ (0 : Int) ≤ 99; decide⟩, ⟨rfl, fun k p hp => ?_, fun k x hx => ?_, cry1, ⟨rfl, rfl, rfl, rfl, rfl⟩, pok0⟩, ⟨[], cry0 rfl (fun _ => rfl)⟩, ⟨rfl, by decide⟩, ⟨rfl, by decide⟩, fun k l hl => by simp [S0] at hl, ⟨⟨[], cry0 rfl (fun _ => rfl)⟩, [], cry0 rfl (fun _ => rfl)⟩, ⟨rfl, by decide, rfl, by decide, fun k x hx => by simp [S0] at hx, fun k x hx => by simp [S0] at hx⟩, by decide⟩
  · have hk := (List.getElem?_eq_some_iff.mp hp).1
    have hk : k < 3 := hk
    rcases (show k = 0 ∨ k = 1 ∨ k = 2 by omega) with rfl | rfl | rfl <;> (cases hp; decide)
  · have e : zod S0.2.1.1 = [(0, 0), (0, 1), (0, 2)] := by decide
    rw [e] at hx
    have hk := (List.getElem?_eq_some_iff.mp hx).1
    have hk : k < 3 := hk
    rcases (show k = 0 ∨ k = 1 ∨ k = 2 by omega) with rfl | rfl | rfl <;> (cases hx; decide)
theorem mInv0 : mInv s0 S0 := by
  refine ⟨⟨rfl, by decide, fun k x hx => by simp [S0] at hx⟩, ⟨rfl, fun k p hp => ?_, ⟨rfl, by decide, fun k p hp => ?_⟩, ⟨rfl, rfl, rfl, rfl, rfl⟩, pok0⟩, ⟨by decide, rfl⟩, ⟨rfl, by decide⟩, fun k l hl => by simp [S0] at hl, ⟨rfl, by decide, rfl, by decide, fun k x hx => by simp [S0] at hx, fun k x hx => by simp [S0] at hx⟩, by decide⟩
  · have hk := (List.getElem?_eq_some_iff.mp hp).1
    have hk : k < 3 := hk
    rcases (show k = 0 ∨ k = 1 ∨ k = 2 by omega) with rfl | rfl | rfl <;> (cases hp; decide)
  · have hk := (List.getElem?_eq_some_iff.mp hp).1
    have hk : k < 1 := hk
    rcases (show k = 0 by omega) with rfl
    cases hp
    decide
