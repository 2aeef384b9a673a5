theorem ih {α : Type} {j N : Nat} {y : Option α} (h : j < N) (hN : N < 2 ^ 31) : (if nI j < 0 ∨ N ≤ j then none else y) = y := if_neg (fun q => q.elim (nI_pos (by omega)) (by omega))
theorem La.mono {np np' nf : Nat} {S T : St} (h : La np nf S T) (hn : np ≤ np') : La np' nf S T := by
  obtain ⟨h1, h2, h3, h4⟩ := h
  refine ⟨h1, h2, h3, fun i hi => ?_⟩
  obtain ⟨a1, a2, a3, a4, a5, a6, a7, a8, a9, q, hq, e⟩ := h4 i hi
  exact ⟨a1, a2, a3, a4, a5, a6, a7, a8, a9, q, by omega, e⟩
theorem Tr.mono {np np' nf nf' nt td : Nat} {S T : St} (h : Tr np nf nt td S T) (hn : np ≤ np') (hf : nf' = nf) : Tr np' nf' nt td S T := by
  subst hf
  obtain ⟨h1, h2, h3, h4, h5, h6, h7, h8, h9⟩ := h
  refine ⟨h1, h2, h3, h4, h5, h6, fun i hi => ?_, h8, h9⟩
  obtain ⟨a1, a2, a3, a4, ⟨q, hq, e⟩, a6⟩ := h7 i hi
  exact ⟨a1, a2, a3, a4, ⟨q, by omega, e⟩, a6⟩
theorem Tr.cg {np nf nt td : Nat} {S S' T T' : St} (h : Tr np nf nt td S T) (e1 : S'.1 4 = S.1 4) (e2 : S'.1 5 = S.1 5) (e3 : S'.2.1 7 = S.2.1 7) (e4 : S'.2.1 8 = S.2.1 8) (e5 : S'.2.1 9 = S.2.1 9) (e6 : S'.2.1 10 = S.2.1 10) (e7 : T'.1 3 = T.1 3) (e8 : T'.1 0 = T.1 0) (e9 : T'.2.1 12 = T.2.1 12) (e10 : T'.2.1 13 = T.2.1 13) (e11 : T'.2.1 14 = T.2.1 14) (e12 : T'.2.1 15 = T.2.1 15) : Tr np nf nt td S' T' := by
  unfold Tr at h ⊢
  rw [e1, e2, e3, e4, e5, e6, e7, e8, e10, e11, e12]
  obtain ⟨h1, h2, h3, h4, h5, h6, h7, h8, h9⟩ := h
  exact ⟨h1, h2, h3, h4, h5, h6, h7, h8, fun f hf => (h9 f hf).trans (own_congr e9 e10 e11 f nt).symm⟩
theorem q0 {n : Nat} : Q0 n Rel := by
  intro S k Fn T a b ⟨np, nf, nt, td, tl, kp, h⟩
  obtain ⟨hPe, hKi, hLa, hTr, hTa, hLw, hPr, hSl⟩ := id h
  obtain ⟨h1, h2, h3, h4⟩ := hPe
  have hR : Rel S k Fn T := ⟨np, nf, nt, td, tl, kp, h⟩
  unfold fX10_person fX11_person
  rcases rng a 20 (y := 20) (z := 19) (by omega) rfl (by decide) with ⟨e1, e2⟩ | ⟨ja, hja, rfl, e1, e2⟩
  · rw [e1, e2]; exact ⟨-1, S, T, rfl, rfl, hR⟩
  rcases rng b 100 (y := 100) (z := 99) (by omega) rfl (by decide) with ⟨e3, e4⟩ | ⟨jb, hjb, rfl, e3, e4⟩
  · rw [e1, e2, e3, e4]; exact ⟨-1, S, T, rfl, rfl, hR⟩
  rw [e1, e2, ob_s, ob_s, if_neg (by decide), if_neg (by decide), e3, e4, ob_s, ob_s, if_neg (by decide), if_neg (by decide)]
  unfold fX4_add
  rcases Nat.lt_or_ge np 40 with hnp | hnp
  · have hN : np < 2 ^ 31 := by omega
    have h40 : (40 : Nat) < 2 ^ 31 := by omega
    refine ⟨nI np, sS (sA (sA S 0 np (nI ja)) 1 np (nI jb)) 1 (nI (np + 1)), sS (sA (sA T 5 np (nI ja)) 6 np (nI jb)) 1 (nI (np + 1)), ?_, ?_, np + 1, nf, nt, td, tl, kp, ?_, hKi, La.mono hLa (Nat.le_succ np), Tr.mono (hTr.cg rfl rfl rfl rfl rfl rfl rfl rfl rfl rfl rfl rfl) (Nat.le_succ np) rfl, hTa, hLw, hPr, hSl⟩
    · rw [if_pos (by rw [h2]; exact nI_lt hnp (by omega))]
      simp only [lt_, sA_1, h2, ih hnp h40, cl hN, ob_s, sS_1, nI_1, if_true, nI_pred]
    · rw [if_neg (by rw [h3]; exact fun q => by have := (nI_eq (a := np) (b := 40) hN (by omega)).mp q; omega)]
      simp only [lt_, sA_1, h3, ih hnp h40, cl hN, ob_s, sS_1, nI_1, if_true, nI_pred]
    · refine ⟨by omega, rfl, rfl, fun i hi => ?_⟩
      simp only [sS_2, sA_2]
      by_cases e : i = np
      · subst e
        simp only [if_true, if_neg (show ¬ (0 : Nat) = 1 by omega), if_neg (show ¬ (5 : Nat) = 6 by omega)]
        exact ⟨trivial, trivial, ⟨ja, hja, rfl⟩, jb, hjb, rfl⟩
      · simp only [if_neg e, if_true, if_neg (show ¬ (0 : Nat) = 1 by omega), if_neg (show ¬ (5 : Nat) = 6 by omega), if_neg (show ¬ (6 : Nat) = 5 by omega), if_neg (show ¬ (1 : Nat) = 0 by omega)]
        exact h4 i (by omega)
  · have e : np = 40 := by omega
    subst e
    refine ⟨-1, S, T, ?_, ?_, hR⟩
    · rw [if_neg (by rw [h2]; decide)]; rfl
    · rw [if_pos (by rw [h3]; decide)]
theorem q3 {n : Nat} : Q3 n Rel := by
  intro S k Fn T a ⟨np, nf, nt, td, tl, kp, h⟩
  obtain ⟨hPe, hKi, hLa, hTr, hTa, hLw, hPr, hSl⟩ := id h
  obtain ⟨h1, h2, h3, h4, h5, h6, h7, h8, h9⟩ := hTr
  have hR : Rel S k Fn T := ⟨np, nf, nt, td, tl, kp, h⟩
  unfold fX10_day fX11_day
  rw [h5, h6]
  by_cases c1 : a ≤ nI td
  · rw [if_pos c1, if_pos c1]; exact ⟨0, S, T, rfl, rfl, hR⟩
  rw [if_neg c1, if_neg c1]
  by_cases c2 : a ≤ 1000
  · rw [if_pos c2, if_pos c2]
    obtain ⟨j, hj, rfl⟩ := nI_of2 (x := a) (M := 1000) (n := 1000) (by decide) (fun q => c1 (by
      have := Int32.lt_iff_toInt_lt.mp q
      rw [Int32.le_iff_toInt_le, nI_toInt (by omega)]
      have e0 : (0 : Int32).toInt = 0 := by decide
      omega)) c2
    have hlt : td < j := by
      rcases Nat.lt_or_ge td j with q | q
      · exact q
      · exact absurd (nI_le q (by omega)) c1
    refine ⟨1, sS S 5 (nI j), sS T 0 (nI j), rfl, rfl, np, nf, nt, j, tl, kp, hPe, hKi, hLa, ?_, hTa, hLw, hPr, hSl⟩
    refine ⟨h1, h2, h3, hj, rfl, rfl, fun i hi => ?_, h8, fun f hf => (h9 f hf).trans (own_congr (T := T) (T' := sS T 0 (nI j)) rfl rfl rfl f nt).symm⟩
    obtain ⟨a1, a2, a3, a4, a5, q, hq, e⟩ := h7 i hi
    exact ⟨a1, a2, a3, a4, a5, q, by omega, e⟩
  · rw [if_neg c2, if_neg c2]; exact ⟨0, S, T, rfl, rfl, hR⟩
theorem q7 {n : Nat} : Q7 n Rel := by
  intro S k Fn T ⟨np, nf, nt, td, tl, kp, h⟩
  refine ⟨S.1 10, rfl, ?_, np, nf, nt, td, tl, kp, h⟩
  have e : S.1 10 = T.1 23 := h.2.2.2.2.1.2.2.2.1
  rw [e]; rfl
theorem q20 {n : Nat} : Q20 n Rel := by
  intro S k Fn T a ⟨np, nf, nt, td, tl, kp, h⟩
  obtain ⟨hPe, hKi, hLa, hTr, hTa, hLw, hPr, hSl⟩ := id h
  have e0 : S.1 5 = T.1 0 := hTr.2.2.2.2.1.trans hTr.2.2.2.2.2.1.symm
  have e1 : S.1 1 = T.1 1 := hPe.2.1.trans hPe.2.2.1.symm
  have e2 : S.1 3 = T.1 2 := hLa.2.1.trans hLa.2.2.1.symm
  have e3 : S.1 4 = T.1 3 := hTr.2.1.trans hTr.2.2.1.symm
  have e4 : S.1 28 = T.1 17 := hLw.2.2.2.2.2.2.1
  have e5 : S.1 0 = T.1 38 := hSl.2.1.trans hSl.2.2.1.symm
  have e6 : S.1 6 = T.1 20 := hTa.2.1.trans hTa.2.2.1.symm
  have e7 : S.1 2 = T.1 4 := hKi.1
  have key : fX10_count S a = fX11_count T a := by
    unfold fX10_count fX11_count
    rw [e0, e1, e2, e3, e4, e5, e6, e7]
  obtain ⟨r, hr⟩ : ∃ r, fX11_count T a = some r := by
    unfold fX11_count
    repeat' split
    all_goals exact ⟨_, rfl⟩
  exact ⟨r, key.trans hr, hr, np, nf, nt, td, tl, kp, h⟩
