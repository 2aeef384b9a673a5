/-! act: the call -/
theorem dw_fresh {S T : St} (e1 : S.1 29 = 100) (e2 : S.1 30 = 0) (e3 : S.1 31 = 1000) (e4 : S.1 32 = 0) (e5 : S.1 33 = 1) (e6 : S.1 34 = 10) (e7 : S.1 35 = 2) (e8 : S.1 36 = 0) (e9 : ∀ j, j < 4 → S.2.1 31 j = 10) (m : ∀ j, j < 20 → T.2.1 16 (20 + j) = bgv j) : Dw 0 S T := by
  refine ⟨?_, ?_, ?_, ?_, ?_, ?_, e8, fun j hj => ?_, fun j hj => ?_, 10, by omega, by omega, m 4 (by omega)⟩
  · rw [e1]; exact (m 0 (by omega)).symm
  · rw [e2]; exact (m 1 (by omega)).symm
  · rw [e3]; exact (m 2 (by omega)).symm
  · rw [e5]; exact (m 3 (by omega)).symm
  · rw [e6]; exact (m 4 (by omega)).symm
  · rw [e7]; exact (m 5 (by omega)).symm
  · rw [e9 j hj, show 26 + j = 20 + (6 + j) by omega, m (6 + j) (by omega)]
    rcases (show j = 0 ∨ j = 1 ∨ j = 2 ∨ j = 3 by omega) with e | e | e | e <;> subst e <;> rfl
  · right
    rw [e4, show 30 + j = 20 + (10 + j) by omega, m (10 + j) (by omega)]
    refine ⟨?_, ?_⟩
    · unfold bt; rw [show (0 : Int32).toBitVec = 0#32 from rfl, BitVec.getLsbD_zero]
    · unfold bgv
      rw [if_neg (by omega), if_neg (by omega), if_neg (by omega), if_neg (by omega), if_neg (by omega), if_neg (by omega)]
theorem lw_sw {c : Nat} {S T T' : St} (h : Dw c S T) (e3 : ∀ j, j < 20 → T'.2.1 16 j = T.2.1 16 (20 + j)) (e4 : T'.1 17 = nI c) : Lw (sW S) T' := by
  obtain ⟨d1, d2, d3, d4, d5, d6, d7, d8, d9, y, y1, y2, y3⟩ := h
  refine ⟨?_, ?_, ?_, ?_, ?_, ?_, ?_, fun j hj => ?_, fun j hj => ?_, y, y1, y2, ?_⟩
  · rw [e3 _ (by omega)]; exact d1
  · rw [e3 _ (by omega)]; exact d2
  · rw [e3 _ (by omega)]; exact d3
  · rw [e3 _ (by omega)]; exact d4
  · rw [e3 _ (by omega)]; exact d5
  · rw [e3 _ (by omega)]; exact d6
  · rw [e4]; exact d7
  · rw [e3 _ (by omega), show 20 + (6 + j) = 26 + j by omega]; exact d8 j hj
  · rw [e3 _ (by omega), show 20 + (10 + j) = 30 + j by omega]; exact d9 j hj
  · rw [e3 _ (by omega)]; exact y3
theorem q6 {n : Nat} (hn : 5000 ≤ n) : Q6 n Rel := by
  intro S k Fn T a1 ⟨np, nf, nt, td, tl, kp, h⟩
  have hR : Rel S k Fn T := ⟨np, nf, nt, td, tl, kp, h⟩
  obtain ⟨t1, t2, t3, t4, t5⟩ := id h.2.2.2.2.1
  have hLw := h.2.2.2.2.2.1
  rw [actM_eq]
  unfold fX10_act
  rw [t2, t3]
  by_cases h0 : a1 < 0
  · rw [if_pos h0, isI_lo h0, ob_s, if_pos rfl]
    exact ⟨-2, S, 0, T, rfl, rfl, hR⟩
  rw [if_neg h0]
  by_cases h1 : a1 ≤ nI tl
  · obtain ⟨N, hN, rfl⟩ := nI_of2 (M := nI tl) (n := tl) (nI_toInt (by omega)) h0 h1
    rw [if_pos h1, isI_ok h0 (Int32.not_lt.mpr h1), ob_s, if_neg (show ¬ (1 : Int32) = 0 by decide)]
    obtain ⟨S5, x1, x2, x3, x4, x5, x6, x7, x8, x9, x10, x11, x12, x13, x14, x15⟩ := rdX (n := n) (N := N) (by omega) S (by omega)
    obtain ⟨T1, m1, m2, m3⟩ := cpyM (n := n) (N := N) (T0 := T) (by omega) (fun i hi => (t5 i (by omega)).2) N 0 n T (by omega) (by omega) ⟨rfl, rfl, fun _ _ => rfl⟩ (fun j hj => by omega)
    rw [x1, show ∀ K : Int32 → St → Option (Int32 × St), fX11_act_L17 n (nI N) K n 0 T = K (nI N) T1 from m1, lt1, lt1, lt1]
    obtain ⟨T2, g1, g2, g3⟩ := begM (n := n) (o := 20) (sS (sS (sS T1 21 (nI N)) 20 0) 22 0) (by omega) (by omega)
    rw [show fX11_begins n (sS (sS (sS T1 21 (nI N)) 20 0) 22 0) 20 = some T2 from g1, ob_s]
    have k1 : ∀ k, ¬ (20 ≤ k ∧ k ≤ 22) → T2.1 k = T.1 k := fun k hk => by
      rw [g2.1, sS_1, if_neg (by omega), sS_1, if_neg (by omega), sS_1, if_neg (by omega), m2.1]
    have k20 : T2.1 20 = 0 := by rw [g2.1]; rfl
    have k21 : T2.1 21 = nI N := by rw [g2.1]; rfl
    have k22 : T2.1 22 = nI 0 := by rw [g2.1]; rfl
    have k3 : ∀ a, ¬ a = 16 → ¬ a = 19 → T2.2.1 a = T.2.1 a := fun a ha hb => by
      rw [g2.2.2 a ha]; exact m2.2.2 a hb
    have k16 : ∀ j, j < 20 → T2.2.1 16 j = T.2.1 16 j := fun j hj => by
      rw [g3 j, if_neg (by omega)]; exact congrFun (m2.2.2 16 (by omega)) j
    have htm : TxM (T.2.1 18) N T2 := ⟨by omega, k21, fun i hi => by
      rw [g2.2.2 19 (by omega)]; exact m3 i hi⟩
    have ht : Txt (T.2.1 18) N S5 := ⟨by omega, x5, fun i hi => by rw [x4 11 (by omega)]; exact (t5 i (by omega)).1⟩
    have hD : Dw 0 S5 T2 := dw_fresh x7 x8 x9 x10 x11 x12 x13 x14 x15 (fun j hj => by rw [g3 (20 + j), if_pos (by omega), Nat.add_sub_cancel_left])
    have e2 : ct T2 (nI 0) (T2.1 24) (T2.1 25) = T2 := by rw [← k22]; exact ct_self T2
    rw [show fX11_blanks n T2 = _ from (congrArg (fX11_blanks n) e2).symm.trans (blaM hn htm (by omega)), ob_s]
    rcases actL (kX := fun x17 S18 => some (0, S18)) (kM := actK n) hn 16 0 0 n n S5 T2 (S5.1 8) (T2.1 24) (T2.1 25) rfl (by omega) (by omega) ht htm (by omega) hD with ⟨q', e', S', i', T', w', v', b1, b2, b3, b4⟩ | ⟨s', e', S', i', z', T', w', v', b1, b2, b3, b4, b5⟩
    · rw [b1, lt2, show fX11_act_L69 n (actK n) n 0 1 (ct T2 (nI (skN isBl (T.2.1 18) N 0)) (T2.1 24) (T2.1 25)) = _ from b2, lt1, if_pos rfl]
      refine ⟨-1, sS (sS (cx S' (nI q') e') 10 (nI q')) 6 0, 0, sS (ct T' (nI q') w' v') 23 (nI q'), rfl, rfl, np, nf, nt, td, 0, kp, rel_keep h ?_ ?_ ?_ ?_ ?_ ?_ ?_ ?_ ?_⟩
      · intro j h1 h2
        rw [sS_1, if_neg (by omega), sS_1, if_neg (by omega), cx_o _ _ _ (by omega) (by omega), b3.1 j (by omega), x2 j (by omega) (by omega)]
      · exact b3.2.1.trans x3
      · intro a h1 h2
        exact (b3.2.2 a h2).trans (x4 a h2)
      · intro j h1 h2
        rw [sS_1, if_neg (by omega), ct_o _ _ _ _ (by omega) (by omega) (by omega), b4.1, k1 j (by omega)]
      · intro a h1 h2
        exact (b4.2.2.1 a h1).trans (k3 a h1 h2)
      · rfl
      · show T'.1 20 = 0
        rw [b4.1]; exact k20
      · rfl
      · refine hLw.cg (fun j h1 h2 => ?_) ?_ (fun j hj => ?_) ?_
        · rw [sS_1, if_neg (by omega), sS_1, if_neg (by omega), cx_o _ _ _ (by omega) (by omega), b3.1 j (by omega), x2 j (by omega) (by omega)]
        · exact (b3.2.2 30 (by omega)).trans (x4 30 (by omega))
        · exact (b4.2.2.2 j hj).trans (k16 j hj)
        · show T'.1 17 = T.1 17
          rw [b4.1]; exact k1 17 (by omega)
    · rw [b1, lt2, show fX11_act_L69 n (actK n) n 0 1 (ct T2 (nI (skN isBl (T.2.1 18) N 0)) (T2.1 24) (T2.1 25)) = _ from b2, lt1, if_neg (show ¬ (1 : Int32) = 0 by decide), lt1]
      obtain ⟨T3, p1, p2, p3⟩ := putM (n := n) (x2 := nI i') (T0 := sS (ct T' z' w' v') 23 (-1)) 20 0 n (sS (ct T' z' w' v') 23 (-1)) rfl (by omega) ⟨rfl, rfl, fun _ _ => rfl⟩ (fun j => by rw [if_neg (by omega)])
      have eM : actK n (nI i') 1 (ct T' z' w' v') = some (nI i', sS T3 17 (nI i')) := by
        unfold actK
        rw [if_neg (show ¬ (1 : Int32) = 0 by decide), lt1, if_neg (show ¬ (1 : Int32) = 0 by decide)]
        exact p1 _
      rw [eM]
      have p0 : ∀ j, ¬ j = 23 → ¬ j = 22 → ¬ j = 24 → ¬ j = 25 → T3.1 j = T2.1 j := fun j h1 h2 h3 h4 => by
        rw [p2.1, sS_1, if_neg h1, ct_o _ _ _ _ h2 h3 h4, b4.1]
      refine ⟨nI i', sW (sS (cx S' s' e') 6 0), 1, sS T3 17 (nI i'), ?_, rfl, np, nf, nt, td, 0, kp, rel_keep h ?_ ?_ ?_ ?_ ?_ ?_ ?_ ?_ ?_⟩
      · rw [show (sW (sS (cx S' s' e') 6 0)).1 28 = S'.1 36 from rfl, b5.2.2.2.2.2.2.1]
      · intro j h1 h2
        show (if 21 ≤ j ∧ j < 29 then _ else if 29 ≤ j ∧ j < 37 then _ else (sS (cx S' s' e') 6 0).1 j) = S.1 j
        rw [if_neg (by omega), if_neg (by omega), sS_1, if_neg (by omega), cx_o _ _ _ (by omega) (by omega), b3.1 j (by omega), x2 j (by omega) (by omega)]
      · exact b3.2.1.trans x3
      · intro a h1 h2
        show (if a = 30 then _ else if a = 31 then _ else S'.2.1 a) = S.2.1 a
        rw [if_neg h1, if_neg h2]
        exact (b3.2.2 a h2).trans (x4 a h2)
      · intro j h1 h2
        rw [sS_1, if_neg h1, p0 j (by omega) (by omega) (by omega) (by omega), k1 j (by omega)]
      · intro a h1 h2
        exact (p2.2.2 a h1).trans ((b4.2.2.1 a h1).trans (k3 a h1 h2))
      · rfl
      · exact (p0 20 (by omega) (by omega) (by omega) (by omega)).trans k20
      · show S'.1 10 = T3.1 23
        rw [b3.1 10 (by omega), x6, p2.1]
        rfl
      · refine lw_sw (c := i') (S := sS (cx S' s' e') 6 0) (T := T') b5 (fun j hj => ?_) rfl
        exact p3 j hj
  · rw [if_neg h1, isI_hi (Int32.not_le.mp h1), ob_s, if_pos rfl]
    exact ⟨-2, S, 0, T, rfl, rfl, hR⟩
