/-! the beginning, and the whole -/
theorem filL_s {n i fu : Nat} {x1 : Int32} {S : St} {K : Int32 → St → Option St} (hi : i < 4) : fJ7_fill_53178L_L5 n x1 4 K (fu + 1) (nI i) S = fJ7_fill_53178L_L5 n x1 4 K fu (nI (i + 1)) (sA S 0 i x1) := by
  rw [fJ7_fill_53178L_L5, if_neg (show ¬ (4 : Int32) ≤ nI i from nI_ge (b := 4) hi (by omega)), ig (show i < 4 by omega) (by omega), cl (by omega), lt1, nI_1]
theorem clrL {n : Nat} (hn : 25 ≤ n) (S : St) : ∃ S', fX3_clearL n S = some S' ∧ S'.1 0 = 100 ∧ S'.1 1 = 0 ∧ S'.1 2 = 1000 ∧ S'.1 3 = 0 ∧ S'.1 4 = 1 ∧ S'.1 5 = 10 ∧ S'.1 6 = 2 ∧ S'.1 7 = 0 ∧ ∀ j, j < 4 → S'.2.1 0 j = 10 := by
  obtain ⟨m, rfl⟩ : ∃ m, n = m + 1 + 1 + 1 + 1 + 1 := ⟨n - 5, by omega⟩
  unfold fX3_clearL fJ7_fill_53178L
  rw [show fJ7_fill_53178L_L5 (m + 1 + 1 + 1 + 1 + 1) 10 4 (fun x4 S5 => some S5) (m + 1 + 1 + 1 + 1 + 1) 0 S = _ from filL_s (i := 0) (by omega), filL_s (by omega), filL_s (by omega), filL_s (by omega), fJ7_fill_53178L_L5, if_pos (by decide), ob_s]
  refine ⟨_, rfl, rfl, rfl, rfl, rfl, rfl, rfl, rfl, rfl, fun j hj => ?_⟩
  simp only [sS_2, sA_2, if_true]
  rcases (show j = 0 ∨ j = 1 ∨ j = 2 ∨ j = 3 by omega) with e | e | e | e <;> subst e <;> rfl
theorem rel0 {n : Nat} (hn : 25 ≤ n) : ∃ SL SM, fX3_clearL n zSt = some SL ∧ fX11_begins n S0m 0 = some SM ∧ Rel (S0x SL) 0 (fun _ _ => 0) SM := by
  obtain ⟨SL, x0, x1, x2, x3, x4, x5, x6, x7, x8, x9⟩ := clrL hn zSt
  obtain ⟨SM, g1, g2, g3⟩ := begM (o := 0) S0m hn (by omega)
  have m : ∀ j, j < 20 → SM.2.1 16 j = bgv j := fun j hj => by rw [g3 j, if_pos (by omega), Nat.sub_zero]
  have z : ∀ a, ¬ a = 16 → SM.2.1 a = fun _ => 0 := fun a ha => g2.2.2 a ha
  have zs : ∀ j, ¬ j = 23 → SM.1 j = 0 := fun j hj => by
    rw [g2.1]
    show (if j = 23 then (-1 : Int32) else 0) = 0
    rw [if_neg hj]
  refine ⟨SL, SM, x0, g1, 0, 0, 0, 0, 0, 0, ?_, ?_, ?_, ?_, ?_, ?_, ?_, ?_⟩
  · exact ⟨by omega, rfl, zs 1 (by omega), fun i hi => by omega⟩
  · refine ⟨(zs 4 (by omega)).symm, fun a b _ _ => Or.inr ⟨?_, ?_⟩⟩
    · show ((0 : Int64).toBitVec).getLsbD b = false
      rw [show (0 : Int64).toBitVec = 0#64 from rfl, BitVec.getLsbD_zero]
    · rw [z 7 (by omega)]
  · exact ⟨by omega, rfl, zs 2 (by omega), fun i hi => by omega⟩
  · exact ⟨by omega, rfl, zs 3 (by omega), by omega, rfl, zs 0 (by omega), fun i hi => by omega, fun i j _ hj => by omega, fun f hf => by omega⟩
  · exact ⟨by omega, rfl, zs 20 (by omega), by rw [g2.1]; rfl, fun i hi => by omega⟩
  · refine ⟨?_, ?_, ?_, ?_, ?_, ?_, ?_, fun j hj => ?_, fun j hj => Or.inr ⟨?_, ?_⟩, 10, by omega, by omega, m 4 (by omega)⟩
    · exact x1.trans (m 0 (by omega)).symm
    · exact x2.trans (m 1 (by omega)).symm
    · exact x3.trans (m 2 (by omega)).symm
    · exact x5.trans (m 3 (by omega)).symm
    · exact x6.trans (m 4 (by omega)).symm
    · exact x7.trans (m 5 (by omega)).symm
    · exact x8.trans (zs 17 (by omega)).symm
    · rw [m (6 + j) (by omega)]
      refine (x9 j hj).trans ?_
      rcases (show j = 0 ∨ j = 1 ∨ j = 2 ∨ j = 3 by omega) with e | e | e | e <;> subst e <;> rfl
    · show ((SL.1 3).toBitVec).getLsbD j = false
      rw [x4, show (0 : Int32).toBitVec = 0#32 from rfl, BitVec.getLsbD_zero]
    · rw [m (10 + j) (by omega)]
      unfold bgv
      rw [if_neg (by omega), if_neg (by omega), if_neg (by omega), if_neg (by omega), if_neg (by omega), if_neg (by omega)]
  · exact ⟨by omega, rfl, zs 29 (by omega), fun i hi => by omega, fun i _ _ => by rw [z 32 (by omega)]⟩
  · exact ⟨by omega, rfl, zs 38 (by omega), fun i hi => by omega, fun i _ _ => ⟨by rw [z 43 (by omega)], by rw [z 45 (by omega)]⟩⟩
theorem qAll {n : Nat} (hn : 5000 ≤ n) : QAll n Rel := ⟨q0, q1, q2, q3, q4 hn, q5 hn, q6 hn, q7, q8 hn, q9 hn, q10 hn, q11 hn, q12 hn, q13 hn, q14 hn, q15 hn, q16 hn, q17, q18, q19, q20⟩
theorem whole_start {p : Program} {e : Env} {s : State} {m : MethodId} {below : List Frame} {meth : Method} {c : Code} (l : Launch) {b L : Nat} {xs : Nat → Int32} (hL : L ≤ 3072) (C0 : lw_At p s m meth c b L xs) : W p l e room_1 s m #[Value.ref b] below meth c s.heap [] 0 0 (lw_Z below #[Value.ref b] s) (entryFrame m ([Value.ref b] : List Value).toArray 4) := by
  obtain ⟨SL, SM, h1, h2, h3⟩ := rel0 (n := 5000) (by omega)
  exact whole_of l (qAll (Nat.le_refl _)) h1 h2 h3 hL C0
