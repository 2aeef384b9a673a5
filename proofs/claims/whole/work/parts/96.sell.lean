/-- a field's area as standard land -/
def std (T : St) (f : Nat) : Int32 := T.2.1 9 f * T.2.1 16 (6 + (T.2.1 10 f).toNatClampNeg) / 10
theorem stdM {T : St} {f : Nat} (hf : f < 60) (hs : ∃ h, h < 4 ∧ T.2.1 10 f = nI h) : fX11_standard T (nI f) = some (std T f) := by
  obtain ⟨h, hh, e⟩ := hs
  unfold fX11_standard std
  rw [cl (show f < 2 ^ 31 by omega), ih hf (by omega), ih hf (by omega), e, show ((6 : Int32) + nI h) = nI (6 + h) from nI_add 6 h, ig (show 6 + h < 40 by omega) (by omega), cl (show 6 + h < 2 ^ 31 by omega), cl (show h < 2 ^ 31 by omega)]
theorem areaX {np nf f : Nat} {S T : St} (hLa : La np nf S T) (hf : f < nf) : fX2_areaOf S (nI f) = some (T.2.1 9 f) := by
  have h60' := hLa.1
  unfold fX2_areaOf
  rw [(fld1 hLa hf).1, ob_s, i10, ig (show f < 60 by omega) (by omega), cl (by omega), (hLa.2.2.2 f hf).2.1]
theorem soilX {np nf f : Nat} {S T : St} (hLa : La np nf S T) (hf : f < nf) : fX2_soilOf S (nI f) = some (T.2.1 10 f) := by
  have h60' := hLa.1
  unfold fX2_soilOf
  rw [(fld1 hLa hf).1, ob_s, i10, ig (show f < 60 by omega) (by omega), cl (by omega), (hLa.2.2.2 f hf).2.2.1]
theorem stdX {np nf f : Nat} {S T : St} (hLa : La np nf S T) (hLw : Lw S T) (hf : f < nf) : fX2_standardOf S (nI f) = some (std T f) := by
  have h60' := hLa.1
  unfold fX2_standardOf fX3_soilIs std
  obtain ⟨-, -, -, -, -, -, -, ⟨h, hh, e⟩, -⟩ := hLa.2.2.2 f hf
  rw [areaX hLa hf, ob_s, soilX hLa hf, ob_s, e, isB_ok (y := 4) (nI_pos (by omega)) (nI_ge (b := 4) hh (by omega)), ob_s, i10, ig hh (by omega), ob_s, cl (by omega), hLw.2.2.2.2.2.2.2.1 h hh]
theorem stdM' {np nf f : Nat} {S T : St} (hLa : La np nf S T) (hf : f < nf) : fX11_standard T (nI f) = some (std T f) := by
  have h60' := hLa.1
  obtain ⟨-, -, -, -, -, -, -, hs, -⟩ := hLa.2.2.2 f hf
  exact stdM (by omega) hs
theorem q17 {n : Nat} : Q17 n Rel := by
  intro S k Fn T a1 a2 ⟨np, nf, nt, td, tl, kp, h⟩
  obtain ⟨hPe, hKi, hLa, hTr, hTa, hLw, hPr, hSl⟩ := id h
  have hR : Rel S k Fn T := ⟨np, nf, nt, td, tl, kp, h⟩
  have hno : (∃ (r : Int32) (S' : St) (k' : Nat) (F' : Nat → Nat → Int32) (T' : St), some ((-1 : Int32), S, k, Fn) = some (r, S', k', F') ∧ some ((-1 : Int32), T) = some (r, T') ∧ Rel S' k' F' T') := ⟨-1, S, k, Fn, T, rfl, rfl, hR⟩
  have h60' := hLa.1
  unfold fX10_sell fX11_sell
  rcases fld_rng hLa a1 with ⟨e1, e2⟩ | ⟨f, hf, rfl, e1, e2⟩
  · rw [e1, e2]; exact hno
  rw [e1, e2, ob_s, ob_s, i10, i10]
  rcases has_rng hPe a2 with ⟨e3, e4⟩ | ⟨p, hp, rfl, e3, e4⟩
  · rw [e3, e4]; exact hno
  rw [e3, e4, ob_s, ob_s, i10, i10]
  obtain ⟨l1, l2, l3, l4, l5⟩ := id hSl
  obtain ⟨w1, w2, w3, w4, w5, w6, w7, w8, w9, y, y1, y2, w10⟩ := id hLw
  rcases Nat.lt_or_ge k 20 with hk | hk
  · rw [l2, l3, if_pos (show nI k < 20 from nI_lt (b := 20) hk (by omega)), if_neg (show ¬ nI k = 20 from nI_ne (b := 20) (by omega) (by omega) (by omega)), stdX hLa hLw hf]
    have hst := stdM (T := sA (sA T 39 k (nI f)) 40 k (nI p)) (f := f) (by omega) (by
      obtain ⟨-, -, -, -, -, -, -, hs, -⟩ := hLa.2.2.2 f hf
      simpa [sA_2] using hs)
    have hst2 : std (sA (sA T 39 k (nI f)) 40 k (nI p)) f = std T f := by unfold std; simp [sA_2]
    simp only [lt_, sA_1, l3, cl (show k < 2 ^ 31 by omega), ih hk h20, hst, hst2, ob_s, if_true, not_true, if_false, ih hk h20]
    have y1' : (if (1 : Int32) < S.1 26 then S.1 26 else 1) = nI y := by
      rw [w5, w10]
      rcases Nat.lt_or_ge 1 y with q | q
      · rw [if_pos (show (1 : Int32) < nI y from nI_lt (a := 1) q (by omega))]
      · have : y = 1 := by omega
        subst this; rfl
    simp only [fX7_init, lt_, sS_1, y1', if_true, if_false, show ¬ (7 : Nat) = 6 by omega, show ¬ (6 : Nat) = 7 by omega, if_neg (nI_ne0 (show 0 < y by omega) (by omega)), ob_s]
    have hr : ((nI k : Int32) + 1) - 1 = nI k := by rw [nI_1, nI_pred]
    simp only [hr]
    refine ⟨nI k, _, k + 1, _, _, rfl, rfl, np, nf, nt, td, tl, kp, hPe, hKi, hLa, hTr.cg rfl rfl rfl rfl rfl rfl rfl rfl rfl rfl rfl rfl, hTa, hLw, hPr, by omega, nI_1 k, nI_1 k, fun i hi => ?_, fun i hi hi2 => ?_⟩
    · by_cases e : i = k
      · subst e
        have c3 := (l5 i (Nat.le_refl _) hk).1
        have c5 := (l5 i (Nat.le_refl _) hk).2
        simp [upF, sS_1, sS_2, sA_2, w4, w10, zSt, c3, c5, show Int32.toNatClampNeg 3 = 3 by decide, show Int32.toNatClampNeg 4 = 4 by decide]
        exact nI_ne0 (by omega) (by omega)
      · simp [upF, sS_2, sA_2, e]
        exact l4 i (by omega)
    · have e : ¬ i = k := by omega
      simp [sS_2, sA_2, e]
      exact l5 i (by omega) hi2
  · have e : k = 20 := by omega
    subst e
    rw [l2, l3, if_neg (by decide), if_pos (by decide)]
    exact hno
