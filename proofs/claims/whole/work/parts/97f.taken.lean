theorem sR_sR (T : St) (a : Nat) (g g' : Nat → Int32) : sR (sR T a g) a g' = sR T a g' := by
  apply Prod.ext
  · rfl
  · apply Prod.ext
    · funext c
      show (sR (sR T a g) a g').2.1 c = (sR T a g').2.1 c
      rw [sR_2, sR_2, sR_2]
      split <;> rfl
    · rfl
theorem keepsX {np nf nt : Nat} {h : Int32} {S T : St} (hG : Gat np nf nt h S T) {j : Nat} (hj : j < ncf T nt h nf) (hm : ncf T nt h nf ≤ 12) : fX1_keeps S (nI j) = some (if bt (S.1 15) j then 1 else 0) := by
  unfold fX1_keeps
  rw [hG.1, isB_ok (nI_pos (by omega)) (nI_ge hj (by omega)), ob_s, i10, bitI _ (by omega)]
  cases bt (S.1 15) j
  · rfl
  · rfl
theorem q11 {n : Nat} (hn : 5000 ≤ n) : Q11 n Rel := by
  intro S k Fn T a1 a2 ⟨np, nf, nt, td, tl, kp, h⟩
  have hR : Rel S k Fn T := ⟨np, nf, nt, td, tl, kp, h⟩
  unfold fX10_kept fX11_kept
  rcases hou_rng a1 with ⟨e1, e2⟩ | ⟨j, hj, -, e1, e2⟩
  · rw [e1, e2]; exact ⟨-1, S, T, rfl, rfl, hR⟩
  have h60' := h.2.2.1.1
  have hnc := ncf_le (T := T) (nt := nt) (h := a1) nf
  rw [e1, e2, ob_s, ob_s, i10, i10]
  obtain ⟨S', x1, x2, hG⟩ := gatX a1 hn h
  obtain ⟨g, m1, m2⟩ := countsM a1 hn h
  have hR2 : ∀ U g, RelP np nf nt td tl kp U k Fn T → RelP np nf nt td tl kp U k Fn (sR T 26 g) := fun U g q => q.congr (eqX.rf U) (eqM_sR (by omega))
  have hR3 : ∀ U g, RelP np nf nt td tl kp U k Fn T → Rel U k Fn (sR T 26 g) := fun U g q => ⟨np, nf, nt, td, tl, kp, hR2 U g q⟩
  rw [m1, ob_s, x1]
  simp only [lt_, ob_s, hG.1]
  by_cases c1 : (-1 : Int32) ≤ a2
  · rw [if_pos c1]
    by_cases c2 : nI (ncf T nt a1 nf) ≤ a2
    · rw [if_pos c2, isI_hi (nI_sub1 (by omega) c2), ob_s, i00]
      refine ⟨-1, S', sR T 26 g, rfl, ?_, hR3 _ _ x2⟩
      split <;> rfl
    · rw [if_neg c2]
      rcases Nat.lt_or_ge 12 (ncf T nt a1 nf) with q | q
      · unfold fX1_choose
        rw [hG.1, if_neg (show ¬ nI (ncf T nt a1 nf) ≤ 12 from nI_ge (a := 12) q (by omega)), if_pos (show (12 : Int32) < nI (ncf T nt a1 nf) from nI_lt (a := 12) q (by omega))]
        exact ⟨-1, S', sR T 26 g, rfl, rfl, hR3 _ _ x2⟩
      · obtain ⟨S2, y1, y2, y3, y4, y5⟩ := chooseX hn x2 hG q
        obtain ⟨T2, z1, z2, z3, z4, z5⟩ := keepsM (lim := alw T a1 np) hn h q m2
        have hz : RelP np nf nt td tl kp S2 k Fn T2 := by
          refine (hR2 S2 g y2).congr (eqX.rf S2) ?_
          exact ⟨fun i hi => z3.2 i (by omega) (by omega), fun a ha => by rw [z3.1], fun j hj => by rw [z3.1]⟩
        have hRz : Rel S2 k Fn T2 := ⟨np, nf, nt, td, tl, kp, hz⟩
        have c2' : ¬ nI (ncf T nt a1 nf) - 1 < a2 := by
          rcases pk_ix a2 (n := ncf T nt a1 nf) (by omega) with u | u | ⟨i, hi, ei⟩
          · intro v
            have v1 := Int32.lt_iff_toInt_lt.mp u
            have v2 := Int32.lt_iff_toInt_lt.mp v
            have v3 := Int32.le_iff_toInt_le.mp c1
            have e0 : (0 : Int32).toInt = 0 := by decide
            have e3 : (-1 : Int32).toInt = -1 := by decide
            have v4 : (-1 : Int) ≤ (nI (ncf T nt a1 nf) - 1).toInt := by
              have := pk_sub_toInt (a := ncf T nt a1 nf) (b := 1) (by omega) (by omega)
              rw [show nI (ncf T nt a1 nf) - 1 = nI (ncf T nt a1 nf) - nI 1 from rfl, this]; omega
            omega
          · exact absurd u c2
          · rw [ei]; exact nI_le1 hi (by omega)
        rw [y1, ob_s, if_neg (show ¬ (12 : Int32) < nI (ncf T nt a1 nf) from Int32.not_lt.mpr (nI_le (b := 12) q (by omega))), isI_ok (Int32.not_lt.mpr c1) c2', ob_s, i10, mayM a1 hn (hR2 S g h).1, ob_s, alw_sR, z1, ob_s]
        simp only [i10]
        by_cases c3 : a2 = -1
        · rw [if_pos c3, if_pos c3]
          exact ⟨_, _, _, rfl, by rw [z5, y5], hRz⟩
        · rw [if_neg c3, if_neg c3]
          rcases pk_ix a2 (n := ncf T nt a1 nf) (by omega) with u | u | ⟨i, hi, ei⟩
          · exfalso
            apply c3
            apply Int32.toInt_inj.mp
            have v1 := Int32.lt_iff_toInt_lt.mp u
            have v3 := Int32.le_iff_toInt_le.mp c1
            have e0 : (0 : Int32).toInt = 0 := by decide
            have e3 : (-1 : Int32).toInt = -1 := by decide
            omega
          · exact absurd u c2
          · subst ei
            rw [keepsX y3 hi q, ob_s, bitI _ (by omega), y4, z4]
            cases bt (bst (gst T nt nf a1) (gar T nt nf a1) (ncf T nt a1 nf) (alw T a1 np) (2 ^ ncf T nt a1 nf)).1 i
            · exact ⟨0, S2, T2, rfl, rfl, hRz⟩
            · exact ⟨1, S2, T2, rfl, rfl, hRz⟩
  · rw [if_neg c1, isI_lo (Int32.not_le.mp c1), ob_s, i00]
    refine ⟨-1, S, sR T 26 g, rfl, ?_, hR3 _ _ h⟩
    split <;> rfl
