theorem i10 {α : Type} {a b : α} : (if (1 : Int32) = 0 then a else b) = b := if_neg (by decide)
theorem i00 {α : Type} {a b : α} : (if (0 : Int32) = 0 then a else b) = a := if_pos rfl
theorem nI_ne {a b : Nat} (ha : a < 2 ^ 31) (hb : b < 2 ^ 31) (h : a ≠ b) : ¬ nI a = nI b := fun q => h ((nI_eq ha hb).mp q)
theorem q2 {n : Nat} : Q2 n Rel := by
  intro S k Fn T a1 a2 a3 a4 a5 ⟨np, nf, nt, td, tl, kp, h⟩
  obtain ⟨hPe, hKi, hLa, hTr, hTa, hLw, hPr, hSl⟩ := id h
  obtain ⟨h1, h2, h3, h4⟩ := id hLa
  have hR : Rel S k Fn T := ⟨np, nf, nt, td, tl, kp, h⟩
  have hno : (∃ (r : Int32) (S' T' : St), some ((-1 : Int32), S) = some (r, S') ∧ some ((-1 : Int32), T) = some (r, T') ∧ Rel S' k Fn T') := ⟨-1, S, T, rfl, rfl, hR⟩
  unfold fX10_field fX11_field
  rcases rng a1 100 (y := 100) (z := 99) (by omega) rfl (by decide) with ⟨e1, e2⟩ | ⟨j1, hj1, rfl, e1, e2⟩
  · rw [e1, e2]; exact hno
  rw [e1, e2, ob_s, ob_s, i10, i10]
  by_cases c1 : a2 < 1
  · rw [if_pos c1, isI_lo c1]; exact hno
  rw [if_neg c1]
  by_cases c2 : 100 < a2
  · rw [if_pos c2, isI_hi c2]; exact hno
  rw [if_neg c2, isI_ok c1 c2, ob_s, i10]
  obtain ⟨j2, hj2, rfl⟩ := nI_of2 (x := a2) (M := 100) (n := 100) (by decide) (fun q => c1 (by
      rw [Int32.lt_iff_toInt_lt] at q ⊢
      have e0 : (0 : Int32).toInt = 0 := by decide
      have e1 : (1 : Int32).toInt = 1 := by decide
      omega)) (Int32.not_lt.mp c2)
  have hj2' : 1 ≤ j2 := by
    rcases Nat.eq_zero_or_pos j2 with q | q
    · subst q; exact absurd (by decide) c1
    · exact q
  rcases rng a3 4 (y := 4) (z := 3) (by omega) rfl (by decide) with ⟨e3, e4⟩ | ⟨j3, hj3, rfl, e3, e4⟩
  · rw [e3, e4]; exact hno
  rw [e3, e4, ob_s, ob_s, i10, i10]
  rcases rng a4 10 (y := 10) (z := 9) (by omega) rfl (by decide) with ⟨e3, e4⟩ | ⟨j4, hj4, rfl, e3, e4⟩
  · rw [e3, e4]; exact hno
  rw [e3, e4, ob_s, ob_s, i10, i10]
  rcases has_rng hPe a5 with ⟨e3, e4⟩ | ⟨j5, hj5, rfl, e3, e4⟩
  · rw [e3, e4]; exact hno
  rw [e3, e4, ob_s, ob_s, i10, i10]
  unfold fX2_add
  rcases Nat.lt_or_ge nf 60 with hnf | hnf
  · have hN : nf < 2 ^ 31 := by omega
    have h60 : (60 : Nat) < 2 ^ 31 := by omega
    refine ⟨nI nf, sS (sA (sA (sA (sA (sA (sA S 2 nf (nI j1)) 3 nf (nI j2)) 4 nf (nI j3)) 5 nf (nI j4)) 6 nf (nI j5)) 7 nf (nI j5)) 3 (nI (nf + 1)), sS (sA (sA (sA (sA (sA T 8 nf (nI j1)) 9 nf (nI j2)) 10 nf (nI j3)) 11 nf (nI j4)) 12 nf (nI j5)) 2 (nI (nf + 1)), ?_, ?_, np, nf + 1, nt, td, tl, kp, hPe, hKi, ?_, ?_, hTa, hLw, hPr, hSl⟩
    · rw [if_pos (by rw [h2]; exact nI_lt hnf (by omega))]
      simp only [lt_, sA_1, h2, ih hnf h60, cl hN, ob_s, sS_1, nI_1, if_true, nI_pred]
    · rw [if_neg (by rw [h3]; exact nI_ne (b := 60) hN (by omega) (by omega))]
      simp only [lt_, sA_1, h3, ih hnf h60, cl hN, ob_s, sS_1, nI_1, if_true, nI_pred]
    · refine ⟨by omega, rfl, rfl, fun i hi => ?_⟩
      by_cases e : i = nf
      · subst e
        simp [sS_2, sA_2]
        exact ⟨⟨j1, hj1, rfl⟩, ⟨j2, hj2', hj2, rfl⟩, ⟨j3, hj3, rfl⟩, ⟨j4, hj4, rfl⟩, j5, hj5, rfl⟩
      · simp [sS_2, sA_2, e]
        have := h4 i (by omega)
        exact this
    · obtain ⟨t1, t2, t3, t4, t5, t6, t7, t8, t9⟩ := hTr
      refine ⟨t1, t2, t3, t4, t5, t6, fun i hi => ?_, t8, fun f hf => ?_⟩
      · obtain ⟨b1, b2, b3, ⟨q, hq, e⟩, b5, b6⟩ := t7 i hi
        exact ⟨b1, b2, b3, ⟨q, by omega, e⟩, b5, b6⟩
      · have hown : ∀ t, t ≤ nt → own (sS (sA (sA (sA (sA (sA T 8 nf (nI j1)) 9 nf (nI j2)) 10 nf (nI j3)) 11 nf (nI j4)) 12 nf (nI j5)) 2 (nI (nf + 1))) f t = if f = nf then nI j5 else own T f t := by
          intro t ht
          induction t with
          | zero => simp [own, sS_2, sA_2]
          | succ t iht =>
            unfold own
            rw [iht (by omega)]
            obtain ⟨-, -, -, ⟨q, hq, e⟩, -⟩ := t7 t (by omega)
            simp only [sS_2, sA_2]
            simp only [if_neg (show ¬ (13 : Nat) = 12 by omega), if_neg (show ¬ (13 : Nat) = 11 by omega), if_neg (show ¬ (13 : Nat) = 10 by omega), if_neg (show ¬ (13 : Nat) = 9 by omega), if_neg (show ¬ (13 : Nat) = 8 by omega), if_neg (show ¬ (14 : Nat) = 12 by omega), if_neg (show ¬ (14 : Nat) = 11 by omega), if_neg (show ¬ (14 : Nat) = 10 by omega), if_neg (show ¬ (14 : Nat) = 9 by omega), if_neg (show ¬ (14 : Nat) = 8 by omega)]
            by_cases ef : f = nf
            · rw [if_pos ef, if_neg (by rw [e, ef]; exact nI_ne (by omega) (by omega) (by omega)), if_pos ef]
            · rw [if_neg ef, if_neg ef]
        rw [hown nt (Nat.le_refl _)]
        by_cases e : f = nf
        · subst e; simp [sS_2, sA_2]
        · rw [if_neg e]
          simp [sS_2, sA_2, e]
          exact t9 f (by omega)
  · have e : nf = 60 := by omega
    subst e
    rw [if_neg (by rw [h2]; decide), if_pos (by rw [h3]; decide)]
    exact hno
theorem kin_at {np : Nat} {S T : St} (hPe : Pe np S T) (hKi : Ki S T) {a b : Nat} (ha : a < np) (hb : b < np) : (fX4_areKin S (nI a) (nI b) = some 1 ∧ T.2.1 7 (40 * a + b) = 1) ∨ (fX4_areKin S (nI a) (nI b) = some 0 ∧ T.2.1 7 (40 * a + b) = 0) := by
  have h40 := hPe.1
  unfold fX4_areKin
  have e1 : fX4_has S (nI a) = some 1 := by
    rcases has_rng hPe (nI a) with ⟨q, -⟩ | ⟨-, -, -, q, -⟩
    · unfold fX4_has at q; rw [hPe.2.1, isB_ok (nI_pos (by omega)) (nI_ge ha (by omega))] at q; cases q
    · exact q
  have e2 : fX4_has S (nI b) = some 1 := by
    rcases has_rng hPe (nI b) with ⟨q, -⟩ | ⟨-, -, -, q, -⟩
    · unfold fX4_has at q; rw [hPe.2.1, isB_ok (nI_pos (by omega)) (nI_ge hb (by omega))] at q; cases q
    · exact q
  rw [e1, ob_s, i10, e2, ob_s, i10, ig (show a < 40 by omega) (by omega), cl (by omega), bitL _ (show b < 64 by omega)]
  rcases hKi.2 a b (by omega) (by omega) with ⟨k1, k2⟩ | ⟨k1, k2⟩
  · left; refine ⟨?_, k2⟩
    have : bl (S.2.2 a) b = true := k1
    rw [this]; rfl
  · right; refine ⟨?_, k2⟩
    have : bl (S.2.2 a) b = false := k1
    rw [this]; rfl
theorem ix40 {a b : Nat} (ha : a < 40) (hb : b < 40) : (((40 : Int32) * nI a) + nI b) = nI (40 * a + b) := by
  rw [show (40 : Int32) = nI 40 from rfl, pk_mul, nI_add]
theorem q1 {n : Nat} : Q1 n Rel := by
  intro S k Fn T a1 a2 ⟨np, nf, nt, td, tl, kp, h⟩
  obtain ⟨hPe, hKi, hLa, hTr, hTa, hLw, hPr, hSl⟩ := id h
  have hR : Rel S k Fn T := ⟨np, nf, nt, td, tl, kp, h⟩
  have h40 := hPe.1
  unfold fX10_akin fX11_akin fX4_bind
  rcases has_rng hPe a1 with ⟨e1, e2⟩ | ⟨a, ha, rfl, e1, e2⟩
  · rw [e1, e2]; exact ⟨0, S, T, rfl, rfl, hR⟩
  rw [e1, e2, ob_s, ob_s, i10, i10]
  rcases has_rng hPe a2 with ⟨e3, e4⟩ | ⟨b, hb, rfl, e3, e4⟩
  · rw [e3, e4]; exact ⟨0, S, T, rfl, rfl, hR⟩
  rw [e3, e4, ob_s, ob_s, i10, i10]
  by_cases c1 : nI a = nI b
  · rw [if_pos c1, if_pos c1]; exact ⟨0, S, T, rfl, rfl, hR⟩
  rw [if_neg c1, if_neg c1, ix40 (by omega) (by omega), ix40 (by omega) (by omega), ig (show 40 * a + b < 1600 by omega) (by omega), cl (show 40 * a + b < 2 ^ 31 by omega)]
  have hab : a ≠ b := fun q => c1 (by rw [q])
  rcases kin_at hPe hKi ha hb with ⟨k1, k2⟩ | ⟨k1, k2⟩
  · rw [k1, k2, ob_s, i10, i10]; exact ⟨0, S, T, rfl, rfl, hR⟩
  · rw [k1, k2, ob_s, i00, i00]
    simp only [lt_, ih (show 40 * a + b < 1600 by omega) (show 1600 < 2 ^ 31 by omega), ih (show 40 * b + a < 1600 by omega) (show 1600 < 2 ^ 31 by omega), ih (show a < 40 by omega) (show 40 < 2 ^ 31 by omega), ih (show b < 40 by omega) (show 40 < 2 ^ 31 by omega), cl (show 40 * b + a < 2 ^ 31 by omega), cl (show a < 2 ^ 31 by omega), cl (show b < 2 ^ 31 by omega)]
    refine ⟨1, _, _, rfl, rfl, np, nf, nt, td, tl, kp, hPe, ⟨?_, fun c d hc hd => ?_⟩, hLa, hTr.cg rfl rfl rfl rfl rfl rfl rfl rfl rfl rfl rfl rfl, hTa, hLw, hPr, hSl⟩
    · show S.1 2 + 1 = T.1 4 + 1
      rw [hKi.1]
    · have eb : (vp_nar .boolean 1 : Int32) = 1 := by decide
      have hT : ∀ x, (sA (sA T 7 (40 * a + b) (vp_nar .boolean 1)) 7 (40 * b + a) (vp_nar .boolean 1)).2.1 7 x = if x = 40 * b + a then 1 else if x = 40 * a + b then 1 else T.2.1 7 x := by
        intro x; rw [sA_2, if_pos rfl, sA_2, if_pos rfl, eb]
      show (((sJ (sJ S a (S.2.2 a ||| ((1 : Int64) <<< (Int32.toInt64 (nI b) &&& 63)))) b ((sJ S a (S.2.2 a ||| ((1 : Int64) <<< (Int32.toInt64 (nI b) &&& 63)))).2.2 b ||| ((1 : Int64) <<< (Int32.toInt64 (nI a) &&& 63)))).2.2 c).toBitVec.getLsbD d = true ∧ (sA (sA T 7 (40 * a + b) (vp_nar .boolean 1)) 7 (40 * b + a) (vp_nar .boolean 1)).2.1 7 (40 * c + d) = 1) ∨ (((sJ (sJ S a (S.2.2 a ||| ((1 : Int64) <<< (Int32.toInt64 (nI b) &&& 63)))) b ((sJ S a (S.2.2 a ||| ((1 : Int64) <<< (Int32.toInt64 (nI b) &&& 63)))).2.2 b ||| ((1 : Int64) <<< (Int32.toInt64 (nI a) &&& 63)))).2.2 c).toBitVec.getLsbD d = false ∧ (sA (sA T 7 (40 * a + b) (vp_nar .boolean 1)) 7 (40 * b + a) (vp_nar .boolean 1)).2.1 7 (40 * c + d) = 0)
      rw [hT, sJ_3, sJ_3, sJ_3, if_neg (show ¬ b = a from fun q => hab q.symm)]
      have o1 : (S.2.2 a ||| ((1 : Int64) <<< (Int32.toInt64 (nI b) &&& 63))).toBitVec.getLsbD d = (bl (S.2.2 a) d || decide (d = b)) := orL (S.2.2 a) (show d < 64 by omega) (show b < 64 by omega)
      have o2 : (S.2.2 b ||| ((1 : Int64) <<< (Int32.toInt64 (nI a) &&& 63))).toBitVec.getLsbD d = (bl (S.2.2 b) d || decide (d = a)) := orL (S.2.2 b) (show d < 64 by omega) (show a < 64 by omega)
      by_cases ecb : c = b
      · subst ecb
        rw [if_pos rfl, o2]
        by_cases eda : d = a
        · subst eda; left; simp
        · rw [if_neg (show ¬ 40 * c + d = 40 * c + a by omega), if_neg (show ¬ 40 * c + d = 40 * a + c by omega)]
          have := hKi.2 c d hc hd
          simp only [decide_eq_false eda, Bool.or_false]
          exact this
      · rw [if_neg ecb]
        by_cases eca : c = a
        · subst eca
          rw [if_pos rfl, o1]
          by_cases edb : d = b
          · subst edb; left; simp
          · rw [if_neg (show ¬ 40 * c + d = 40 * b + c by omega), if_neg (show ¬ 40 * c + d = 40 * c + b by omega)]
            have := hKi.2 c d hc hd
            simp only [decide_eq_false edb, Bool.or_false]
            exact this
        · rw [if_neg eca, if_neg (show ¬ 40 * c + d = 40 * b + a by omega), if_neg (show ¬ 40 * c + d = 40 * a + b by omega)]
          exact hKi.2 c d hc hd
