theorem nI_or (a b : Nat) : nI a ||| nI b = nI (a ||| b) := by
  apply Int32.toBitVec_inj.mp
  rw [Int32.toBitVec_or]
  exact BitVec.ofNat_or.symm
theorem pairL {kp n : Nat} {S T : St} {f p y : Int32} {K : Int32 → Option (Int32 × St)} (hPr : Pr kp S T) : ∀ (dd i fu : Nat), i + dd = kp → dd < fu → ∃ j, j ≤ kp ∧ fX9_pairOf_L2 n f p S (fun x6 => some (S.1 17)) fu (nI i) = some (nI j) ∧ fX11_share_L31 n f p y T K fu (nI i) = K (nI j) := by
  obtain ⟨p1, p2, p3, p4, p5⟩ := hPr
  intro dd
  induction dd with
  | zero =>
    intro i fu hi hfu
    obtain ⟨fu, rfl⟩ : ∃ g, fu = g + 1 := ⟨fu - 1, by omega⟩
    have e : i = kp := by omega
    subst e
    refine ⟨i, Nat.le_refl _, ?_, ?_⟩
    · rw [fX9_pairOf_L2, p2, if_pos (nI_le (Nat.le_refl _) (by omega))]
    · rw [fX11_share_L31, p3, if_pos (nI_le (Nat.le_refl _) (by omega))]
  | succ dd ihd =>
    intro i fu hi hfu
    obtain ⟨fu, rfl⟩ : ∃ g, fu = g + 1 := ⟨fu - 1, by omega⟩
    obtain ⟨a1, a2, a3, -⟩ := p4 i (by omega)
    have h := ihd (i + 1) fu (by omega) (by omega)
    have hk1 : ¬ S.1 17 ≤ nI i := by rw [p2]; exact nI_ge (show i < kp by omega) (by omega)
    have hk2 : ¬ T.1 29 ≤ nI i := by rw [p3]; exact nI_ge (show i < kp by omega) (by omega)
    rw [fX9_pairOf_L2, fX11_share_L31, if_neg hk1, if_neg hk2]
    simp only [cl (show i < 2 ^ 31 by omega), ih (show i < 60 by omega) h60, nI_1, a1, a2]
    by_cases c1 : T.2.1 30 i = f
    · rw [if_pos c1, if_pos c1]
      by_cases c2 : T.2.1 31 i = p
      · rw [if_pos c2, if_pos c2]; exact ⟨i, by omega, rfl, rfl⟩
      · rw [if_neg c2, if_neg c2]; exact h
    · rw [if_neg c1, if_neg c1]; exact h
theorem q13 {n : Nat} (hn : 5000 ≤ n) : Q13 n Rel := by
  intro S k Fn T a1 a2 a3 ⟨np, nf, nt, td, tl, kp, h⟩
  obtain ⟨hPe, hKi, hLa, hTr, hTa, hLw, hPr, hSl⟩ := id h
  have hR : Rel S k Fn T := ⟨np, nf, nt, td, tl, kp, h⟩
  have hno : (∃ (r : Int32) (S' T' : St), some ((-1 : Int32), S) = some (r, S') ∧ some ((-1 : Int32), T) = some (r, T') ∧ Rel S' k Fn T') := ⟨-1, S, T, rfl, rfl, hR⟩
  unfold fX10_share fX11_share
  rcases fld_rng hLa a1 with ⟨e1, e2⟩ | ⟨f, hf, rfl, e1, e2⟩
  · rw [e1, e2]; exact hno
  rw [e1, e2, ob_s, ob_s, i10, i10]
  rcases has_rng hPe a2 with ⟨e3, e4⟩ | ⟨p, hp, rfl, e3, e4⟩
  · rw [e3, e4]; exact hno
  rw [e3, e4, ob_s, ob_s, i10, i10]
  rcases rng a3 30 (y := 30) (z := 29) (by omega) rfl (by decide) with ⟨e1, e2⟩ | ⟨y, hy, rfl, e1, e2⟩
  · rw [e1, e2]; exact hno
  rw [e1, e2, ob_s, ob_s, i10, i10]
  obtain ⟨p1, p2, p3, p4, p5⟩ := id hPr
  unfold fX9_tell fX9_pairOf
  obtain ⟨j, hj, x1, m1⟩ := pairL (n := n) (f := nI f) (p := nI p) (y := nI y) (K := (fun x12 => if x12 = 60 then (some ((-1), T)) else (if x12 = (T.1 29) then (if x12 < 0 ∨ 60 ≤ Int32.toNatClampNeg x12 then none else lt_ (sA T 30 (Int32.toNatClampNeg x12) (nI f)) fun S21 => if x12 < 0 ∨ 60 ≤ Int32.toNatClampNeg x12 then none else lt_ (sA S21 31 (Int32.toNatClampNeg x12) (nI p)) fun S23 => lt_ (sS S23 29 ((S23.1 29) + 1)) fun S24 => if x12 < 0 ∨ 60 ≤ Int32.toNatClampNeg x12 then none else if x12 < 0 ∨ 60 ≤ Int32.toNatClampNeg x12 then none else lt_ (sA S24 32 (Int32.toNatClampNeg x12) ((S24.2.1 32 (Int32.toNatClampNeg x12)) ||| ((1 : Int32) <<< (nI y &&& 31)))) fun S27 => if x12 < 0 ∨ 60 ≤ Int32.toNatClampNeg x12 then none else ob (fX11_bits n (S27.2.1 32 (Int32.toNatClampNeg x12))) fun r29 => some (r29, S27)) else (if x12 < 0 ∨ 60 ≤ Int32.toNatClampNeg x12 then none else if x12 < 0 ∨ 60 ≤ Int32.toNatClampNeg x12 then none else lt_ (sA T 32 (Int32.toNatClampNeg x12) ((T.2.1 32 (Int32.toNatClampNeg x12)) ||| ((1 : Int32) <<< (nI y &&& 31)))) fun S17 => if x12 < 0 ∨ 60 ≤ Int32.toNatClampNeg x12 then none else ob (fX11_bits n (S17.2.1 32 (Int32.toNatClampNeg x12))) fun r19 => some (r19, S17))))) hPr kp 0 n (by omega) (by omega)
  rw [show fX9_pairOf_L2 n (nI f) (nI p) S (fun x6 => some (S.1 17)) n 0 = some (nI j) from x1, show fX11_share_L31 n (nI f) (nI p) (nI y) T _ n 0 = _ from m1, ob_s, p2, p3, shl1 (by omega)]
  have hy30 : 2 ^ y < 2 ^ 30 := Nat.pow_lt_pow_right (by omega) hy
  have hy0 : 0 < 2 ^ y := Nat.two_pow_pos y
  rcases Nat.lt_or_ge j 60 with hj60 | hj60
  · rw [if_pos (show nI j < 60 from nI_lt (b := 60) hj60 (by omega)), if_neg (show ¬ nI j = 60 from nI_ne (b := 60) (by omega) (by omega) (by omega))]
    by_cases c : j = kp
    · subst c
      rw [if_pos rfl, if_pos rfl]
      simp only [lt_, cl (show j < 2 ^ 31 by omega), ih hj60 h60, nI_1, sA_1, p2, p3]
      have v1 : (sS (sA (sA (sA S 16 j (nI f)) 17 j (nI p)) 18 j 0) 17 (nI (j + 1))).2.1 18 j = 0 := by simp [sS_2, sA_2]
      have v2 : (sS (sA (sA T 30 j (nI f)) 31 j (nI p)) 29 (nI (j + 1))).2.1 32 j = 0 := by simp [sS_2, sA_2]; exact p5 j (Nat.le_refl _) hj60
      rw [v1, v2, show (0 : Int32) ||| nI (2 ^ y) = nI (2 ^ y) by rw [show (0 : Int32) = nI 0 from rfl, nI_or, Nat.zero_or]]
      have w1 : ∀ (U : St) (v : Int32), (sA U 18 j v).2.1 18 j = v := fun U v => by simp [sA_2]
      have w2 : ∀ (U : St) (v : Int32), (sA U 32 j v).2.1 32 j = v := fun U v => by simp [sA_2]
      rw [w1, w2, bitCount_nI (by omega), bits_nI hn (by omega), ob_s, ob_s]
      refine ⟨_, _, _, rfl, rfl, np, nf, nt, td, tl, j + 1, hPe, hKi, hLa, hTr.cg rfl rfl rfl rfl rfl rfl rfl rfl rfl rfl rfl rfl, hTa, hLw, ⟨by omega, rfl, rfl, fun i hi => ?_, fun i hi hi2 => ?_⟩, hSl⟩
      · by_cases e : i = j
        · subst e
          simp [sA_2, sS_2]
          exact ⟨2 ^ y, hy0, hy30, rfl⟩
        · simp [sA_2, sS_2, e]
          exact p4 i (by omega)
      · have e : ¬ i = j := by omega
        simp [sA_2, sS_2, e]
        exact p5 i (by omega) hi2
    · rw [if_neg (nI_ne (by omega) (by omega) c), if_neg (nI_ne (by omega) (by omega) c)]
      obtain ⟨a1, a2, a3, v, v0, v30, ev⟩ := p4 j (by omega)
      have o1 : v ||| 2 ^ y < 2 ^ 30 := Nat.or_lt_two_pow v30 hy30
      have o2 : v ≤ v ||| 2 ^ y := Nat.left_le_or
      simp only [lt_, cl (show j < 2 ^ 31 by omega), ih hj60 h60, a3, ev, nI_or]
      have w1 : ∀ (U : St) (v : Int32), (sA U 18 j v).2.1 18 j = v := fun U v => by simp [sA_2]
      have w2 : ∀ (U : St) (v : Int32), (sA U 32 j v).2.1 32 j = v := fun U v => by simp [sA_2]
      rw [w1, w2, bitCount_nI (by omega), bits_nI hn (by omega), ob_s, ob_s]
      refine ⟨_, _, _, rfl, rfl, np, nf, nt, td, tl, kp, hPe, hKi, hLa, hTr.cg rfl rfl rfl rfl rfl rfl rfl rfl rfl rfl rfl rfl, hTa, hLw, ⟨p1, p2, p3, fun i hi => ?_, fun i hi hi2 => ?_⟩, hSl⟩
      · by_cases e : i = j
        · subst e
          simp [sA_2]
          exact ⟨a1, a2, v ||| 2 ^ y, by omega, o1, rfl⟩
        · simp [sA_2, e]
          exact p4 i (by omega)
      · have e : ¬ i = j := by omega
        simp [sA_2, e]
        exact p5 i (by omega) hi2
  · have e : j = 60 := by omega
    subst e
    rw [if_neg (by decide), if_pos (by decide)]
    exact hno
