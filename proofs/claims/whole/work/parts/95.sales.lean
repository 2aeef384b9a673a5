theorem h20 : (20 : Nat) < 2 ^ 31 := by omega
theorem sl_rng {S T : St} {k : Nat} {Fn : Nat → Nat → Int32} (h : Sl S k Fn T) (x : Int32) : (fX10_isBelow x (S.1 0) = some 0 ∧ fX11_isIn x 0 (T.1 38 - 1) = some 0) ∨ ∃ j, j < k ∧ x = nI j ∧ fX10_isBelow x (S.1 0) = some 1 ∧ fX11_isIn x 0 (T.1 38 - 1) = some 1 :=
  rng x k (by have := h.1; omega) h.2.1 (by rw [h.2.2.1])
theorem q19 {n : Nat} : Q19 n Rel := by
  intro S k Fn T a1 a2 ⟨np, nf, nt, td, tl, kp, h⟩
  have hSl := h.2.2.2.2.2.2.2
  have hR : Rel S k Fn T := ⟨np, nf, nt, td, tl, kp, h⟩
  have hk := hSl.1
  unfold fX10_sale fX11_sale
  rcases sl_rng hSl a1 with ⟨e1, e2⟩ | ⟨j, hj, rfl, e1, e2⟩
  · rw [e1, e2]; exact ⟨-1, rfl, rfl, hR⟩
  rw [e1, e2, ob_s, ob_s, i10, i10]
  obtain ⟨s0, s1, s2, s3, s4, s5, s6, s7, s8, -⟩ := hSl.2.2.2.1 j hj
  simp only [cl (show j < 2 ^ 31 by omega), ih (show j < 20 by omega) h20, if_neg (show ¬ k ≤ j by omega), s0, s1, s2, s5, s6, s8]
  have hsome : ∀ (o : Option Int32), (∃ r, o = some r) → ∃ r, o = some r ∧ o = some r ∧ Rel S k Fn T := fun o ⟨r, hr⟩ => ⟨r, hr, hr, hR⟩
  apply hsome
  repeat' split
  all_goals exact ⟨_, rfl⟩
theorem upF_self {F : Nat → Nat → Int32} {j : Nat} : upF F j (Fs F j).1 = F := by
  funext f i
  unfold upF Fs
  by_cases e : i = j
  · simp [e]
  · simp [e]
theorem q18 {n : Nat} : Q18 n Rel := by
  intro S k Fn T a1 a2 ha2 ⟨np, nf, nt, td, tl, kp, h⟩
  obtain ⟨hPe, hKi, hLa, hTr, hTa, hLw, hPr, hSl⟩ := id h
  have hR : Rel S k Fn T := ⟨np, nf, nt, td, tl, kp, h⟩
  have hk := hSl.1
  unfold fX10_year fX11_year
  rcases sl_rng hSl a1 with ⟨e1, e2⟩ | ⟨j, hj, rfl, e1, e2⟩
  · rw [e1, e2]; exact ⟨-1, Fn, T, rfl, rfl, hR⟩
  rw [e1, e2, ob_s, ob_s, i10, i10]
  obtain ⟨s0, s1, s2, s3, s4, s5, s6, s7, s8, s9⟩ := hSl.2.2.2.1 j hj
  simp only [lt_, cl (show j < 2 ^ 31 by omega), ih (show j < 20 by omega) h20, if_neg (show ¬ k ≤ j by omega)]
  unfold fX7_pass
  have f6 : (Fs Fn j).1 6 = T.2.1 44 j := s6
  have f7 : (Fs Fn j).1 7 = T.2.1 46 j := s7
  rw [f6, f7]
  by_cases c1 : T.2.1 44 j = 0
  · rw [if_pos c1, if_pos c1, ob_s]
    refine ⟨-1, Fn, T, ?_, rfl, hR⟩
    show some ((-1 : Int32), upF Fn j (Fs Fn j).1) = _
    rw [upF_self]
  rw [if_neg c1, if_neg c1]
  simp only [lt_]
  have fin : ∀ (r r2 : Int32) (Q T' : St), r = r2 → (∀ f, f < 5 → Q.1 f = Fn f j) → Q.1 5 = T'.2.1 43 j → Q.1 6 = T'.2.1 44 j → Q.1 7 = T'.2.1 46 j → Q.1 8 = T'.2.1 45 j → T'.1 = T.1 → (∀ a, a < 43 → T'.2.1 a = T.2.1 a) → (∀ a i, 43 ≤ a → a < 47 → i ≠ j → T'.2.1 a i = T.2.1 a i) → ∃ (r' : Int32) (F' : Nat → Nat → Int32) (T'' : St), (ob (some (r, Q)) fun q => some (q.1, upF Fn j q.2.1)) = some (r', F') ∧ some (r2, T') = some (r', T'') ∧ Rel S k F' T'' := by
    intro r r2 Q T' g0 g1 g2 g3 g4 g5 t1 t2 t3
    subst g0
    refine ⟨r, upF Fn j Q.1, T', rfl, rfl, np, nf, nt, td, tl, kp, ?_, ?_, ?_, ?_, ?_, ?_, ?_, ?_⟩
    · unfold Pe at hPe ⊢; rw [t1, t2 5 (by omega), t2 6 (by omega)]; exact hPe
    · unfold Ki at hKi ⊢; rw [t1, t2 7 (by omega)]; exact hKi
    · unfold La at hLa ⊢; rw [t1, t2 8 (by omega), t2 9 (by omega), t2 10 (by omega), t2 11 (by omega), t2 12 (by omega)]; exact hLa
    · exact hTr.cg rfl rfl rfl rfl rfl rfl (by rw [t1]) (by rw [t1]) (t2 12 (by omega)) (t2 13 (by omega)) (t2 14 (by omega)) (t2 15 (by omega))
    · unfold Ta at hTa ⊢; rw [t1, t2 18 (by omega)]; exact hTa
    · unfold Lw at hLw ⊢; rw [t1, t2 16 (by omega)]; exact hLw
    · unfold Pr at hPr ⊢; rw [t1, t2 30 (by omega), t2 31 (by omega), t2 32 (by omega)]; exact hPr
    · obtain ⟨l1, l2, l3, l4, l5⟩ := hSl
      refine ⟨l1, l2, by rw [t1]; exact l3, fun i hi => ?_, fun i hi hi2 => ?_⟩
      · rw [t2 39 (by omega), t2 40 (by omega), t2 41 (by omega), t2 42 (by omega)]
        by_cases e : i = j
        · subst e
          simp only [upF, if_true]
          rw [g1 0 (by omega), g1 1 (by omega), g1 2 (by omega), g1 3 (by omega), g1 4 (by omega)]
          exact ⟨s0, s1, s2, s3, s4, g2, g3, g4, g5, s9⟩
        · simp only [upF, if_neg e]
          rw [t3 43 i (by omega) (by omega) e, t3 44 i (by omega) (by omega) e, t3 45 i (by omega) (by omega) e, t3 46 i (by omega) (by omega) e]
          exact l4 i hi
      · rw [t3 43 i (by omega) (by omega) (by omega), t3 45 i (by omega) (by omega) (by omega)]
        exact l5 i hi hi2
  have fa : ∀ (U : St) (b v : Nat) (x : Int32) (a : Nat), a ≠ b → (sA U b v x).2.1 a = U.2.1 a := fun U b v x a hne => by
    funext i; rw [sA_2, if_neg hne]
  have fb : ∀ (U : St) (b : Nat) (x : Int32) (a i : Nat), i ≠ j → (sA U b j x).2.1 a i = U.2.1 a i := fun U b x a i hne => by
    rw [sA_2, if_neg hne]; split
    · rename_i q; rw [q]
    · rfl
  by_cases c2 : T.2.1 46 j = 0
  · rw [if_pos c2, if_pos c2]
    by_cases c3 : a2 = 0
    · rw [if_pos c3, if_pos c3]
      refine fin _ _ _ _ ?_ ?_ ?_ ?_ ?_ ?_ rfl ?_ ?_
      · simp [sS_1, sA_2, Fs, s3, s4]
      · intro f hf; simp only [sS_1]; rw [if_neg (by omega), if_neg (by omega), if_neg (by omega)]; rfl
      · simp [sS_1, sA_2, Fs, s5]
      · simp [sS_1, sA_2, Fs, s6]
      · simp [sS_1, sA_2, Fs, s6]
      · simp [sS_1, sA_2, Fs, s8]
      · intro a ha; rw [fa _ _ _ _ _ (by omega), fa _ _ _ _ _ (by omega), fa _ _ _ _ _ (by omega)]
      · intro a i h1 h2 hne; simp only [fb _ _ _ _ _ hne]
    · rw [if_neg c3, if_neg c3]
      rw [show ∀ v, (sA T 46 j v).2.1 42 j = T.2.1 42 j from fun v => by rw [sA_2, if_neg (by omega)], if_neg s9]
      refine fin _ _ _ _ ?_ ?_ ?_ ?_ ?_ ?_ rfl ?_ ?_
      · simp [sS_1, sA_2, Fs, s3, s4]
      · intro f hf; simp only [sS_1]; rw [if_neg (by omega), if_neg (by omega), if_neg (by omega)]; rfl
      · simp [sS_1, sA_2, Fs, s5, s4]
      · simp [sS_1, sA_2, Fs, s6]
      · simp [sS_1, sA_2, Fs, s7]
      · simp [sS_1, sA_2, Fs, s8]
      · intro a ha; rw [fa _ _ _ _ _ (by omega), fa _ _ _ _ _ (by omega), fa _ _ _ _ _ (by omega)]
      · intro a i h1 h2 hne; simp only [fb _ _ _ _ _ hne]
  · rw [if_neg c2, if_neg c2]
    by_cases c3 : a2 = 0
    · rw [if_pos c3, if_pos c3]
      refine fin _ _ _ _ ?_ ?_ ?_ ?_ ?_ ?_ rfl ?_ ?_
      · simp [sS_1, sA_2, Fs, s3, s4]
      · intro f hf; simp only [sS_1]; rw [if_neg (by omega), if_neg (by omega)]; rfl
      · simp [sS_1, sA_2, Fs, s5]
      · simp [sS_1, sA_2, Fs, s6]
      · simp [sS_1, sA_2, Fs, s7]
      · simp [sS_1, sA_2, Fs, s8]
      · intro a ha; rw [fa _ _ _ _ _ (by omega), fa _ _ _ _ _ (by omega)]
      · intro a i h1 h2 hne; simp only [fb _ _ _ _ _ hne]
    · rw [if_neg c3, if_neg c3]
      rw [show ∀ v, (sA T 46 j v).2.1 42 j = T.2.1 42 j from fun v => by rw [sA_2, if_neg (by omega)], if_neg s9]
      refine fin _ _ _ _ ?_ ?_ ?_ ?_ ?_ ?_ rfl ?_ ?_
      · simp [sS_1, sA_2, Fs, s3, s4]
      · intro f hf; simp only [sS_1]; rw [if_neg (by omega), if_neg (by omega), if_neg (by omega)]; rfl
      · simp [sS_1, sA_2, Fs, s5, s3]
      · simp [sS_1, sA_2, Fs, s6]
      · simp [sS_1, sA_2, Fs, s7]
      · simp [sS_1, sA_2, Fs, s8]
      · intro a ha; rw [fa _ _ _ _ _ (by omega), fa _ _ _ _ _ (by omega), fa _ _ _ _ _ (by omega)]
      · intro a i h1 h2 hne; simp only [fb _ _ _ _ _ hne]
