theorem push_rel {np nf nt td tl kp k : Nat} {S T : St} {Fn : Nat → Nat → Int32} (h : RelP np nf nt td tl kp S k Fn T) (ht : tl < 400) {b : Int32} (hb : vp_nar .byte b = b) : RelP np nf nt td (tl + 1) kp (sS (sA S 11 tl b) 6 (nI (tl + 1))) k Fn (sS (sA T 18 tl b) 20 (nI (tl + 1))) := by
  obtain ⟨hPe, hKi, hLa, hTr, hTa, hLw, hPr, hSl⟩ := h
  obtain ⟨a1, a2, a3, a4, a5⟩ := hTa
  refine ⟨hPe, hKi, hLa, hTr.cg rfl rfl rfl rfl rfl rfl rfl rfl rfl rfl rfl rfl, ⟨by omega, rfl, rfl, a4, fun i hi => ?_⟩, hLw, hPr, hSl⟩
  simp only [sS_2, sA_2, if_true]
  by_cases e : i = tl
  · rw [if_pos e, if_pos e]; exact ⟨rfl, hb⟩
  · rw [if_neg e, if_neg e]; exact a5 i (by omega)
theorem nar_byte (x : Int32) : vp_nar .byte (vp_nar .byte (Int8.toInt32 (Int32.toInt8 x))) = vp_nar .byte (Int8.toInt32 (Int32.toInt8 x)) := by rw [pk_vb, pk_vb]
theorem apX_s {n tl fu : Nat} {x x2 : Int32} {S : St} {K : Int32 → St → Option St} (h2 : ¬ x2 < 0) (hS : S.1 6 = nI tl) (ht : tl < 400) : fX8_append_L3 n x K (fu + 1) x2 S = fX8_append_L3 n x K fu (x2 + (-8)) (sS (sA S 11 tl (vp_nar .byte (Int8.toInt32 (Int32.toInt8 (x >>> (x2 &&& 31)))))) 6 (nI (tl + 1))) := by
  rw [fX8_append_L3, if_neg h2, hS, if_neg (show ¬ (400 : Int32) ≤ nI tl from nI_ge (b := 400) ht (by omega)), ig ht (by omega), cl (by omega)]
  simp only [lt_, sA_1, hS, nI_1]
theorem apM_s {n tl fu : Nat} {x x2 : Int32} {T : St} {K : Int32 → St → Option St} (h2 : ¬ x2 < 0) (hT : T.1 20 = nI tl) (ht : tl < 400) : fX11_four_L3 n x K (fu + 1) x2 T = fX11_four_L3 n x K fu (x2 + (-8)) (sS (sA T 18 tl (vp_nar .byte (Int8.toInt32 (Int32.toInt8 (x >>> (x2 &&& 31)))))) 20 (nI (tl + 1))) := by
  rw [fX11_four_L3, if_neg h2, hT, ig ht (by omega), cl (by omega)]
  simp only [lt_, sA_1, hT, nI_1]
theorem feed1 {np nf nt td tl kp k n : Nat} (hn : 5000 ≤ n) {S T : St} {Fn : Nat → Nat → Int32} (h : RelP np nf nt td tl kp S k Fn T) (ht : tl + 4 ≤ 400) (x : Int32) : ∃ S' T', fX8_append n S x = some S' ∧ fX11_four n T x = some T' ∧ RelP np nf nt td (tl + 4) kp S' k Fn T' := by
  obtain ⟨m, rfl⟩ : ∃ m, n = m + 1 + 1 + 1 + 1 + 1 := ⟨n - 5, by omega⟩
  have r1 := push_rel h (by omega) (nar_byte (x >>> (24 &&& 31)))
  have r2 := push_rel r1 (by omega) (nar_byte (x >>> ((24 + -8) &&& 31)))
  have r3 := push_rel r2 (by omega) (nar_byte (x >>> ((24 + -8 + -8) &&& 31)))
  have r4 := push_rel r3 (by omega) (nar_byte (x >>> ((24 + -8 + -8 + -8) &&& 31)))
  refine ⟨_, _, ?_, ?_, r4⟩
  · unfold fX8_append
    rw [apX_s (by decide) h.2.2.2.2.1.2.1 (by omega), apX_s (by decide) r1.2.2.2.2.1.2.1 (by omega), apX_s (by decide) r2.2.2.2.2.1.2.1 (by omega), apX_s (by decide) r3.2.2.2.2.1.2.1 (by omega), fX8_append_L3, if_pos (by decide)]
  · unfold fX11_four
    rw [apM_s (by decide) h.2.2.2.2.1.2.2.1 (by omega), apM_s (by decide) r1.2.2.2.2.1.2.2.1 (by omega), apM_s (by decide) r2.2.2.2.2.1.2.2.1 (by omega), apM_s (by decide) r3.2.2.2.2.1.2.2.1 (by omega), fX11_four_L3, if_pos (by decide)]
theorem q5 {n : Nat} (hn : 5000 ≤ n) : Q5 n Rel := by
  intro S k Fn T a1 a2 a3 a4 a5 ⟨np, nf, nt, td, tl, kp, h⟩
  have hR : Rel S k Fn T := ⟨np, nf, nt, td, tl, kp, h⟩
  have hTa := h.2.2.2.2.1
  have t1 := hTa.1
  unfold fX10_feed fX11_feed fX8_room
  rw [ob_s, hTa.2.1, hTa.2.2.1, show (400 : Int32) - nI tl = nI (400 - tl) from pk_sub t1, show nI tl + 20 = nI (tl + 20) from nI_add tl 20]
  rcases Nat.lt_or_ge 380 tl with q | q
  · rw [if_neg (show ¬ (20 : Int32) ≤ nI (400 - tl) from nI_ge (b := 20) (by omega) (by omega)), if_neg (show ¬ nI (tl + 20) ≤ 400 from nI_ge (a := 400) (by omega) (by omega))]
    exact ⟨-1, S, T, rfl, rfl, hR⟩
  · rw [if_pos (show (20 : Int32) ≤ nI (400 - tl) from nI_le (a := 20) (by omega) (by omega)), if_pos (show nI (tl + 20) ≤ 400 from nI_le (b := 400) (by omega) (by omega))]
    obtain ⟨S1, T1, x1, m1, r1⟩ := feed1 hn h (by omega) a1
    obtain ⟨S2, T2, x2, m2, r2⟩ := feed1 hn r1 (by omega) a2
    obtain ⟨S3, T3, x3, m3, r3⟩ := feed1 hn r2 (by omega) a3
    obtain ⟨S4, T4, x4, m4, r4⟩ := feed1 hn r3 (by omega) a4
    obtain ⟨S5, T5, x5, m5, r5⟩ := feed1 hn r4 (by omega) a5
    rw [x1, m1, ob_s, ob_s, x2, m2, ob_s, ob_s, x3, m3, ob_s, ob_s, x4, m4, ob_s, ob_s, x5, m5, ob_s, ob_s, r5.2.2.2.2.1.2.1, r5.2.2.2.2.1.2.2.1]
    exact ⟨_, _, _, rfl, rfl, np, nf, nt, td, _, kp, r5⟩
