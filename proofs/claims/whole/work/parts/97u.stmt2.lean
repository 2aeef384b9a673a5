/-! statements, each by its word -/
theorem cne {α : Type} {a b : α} (h : ¬ a = b) : (a = b) = False := eq_false h
theorem rule_ceiling (S : St) (e1 e2 q v : Int32) : fX3_rule (cx S e1 e2) 0 q v = some (cx (sS (sS S 29 v) 36 (S.1 36 + 1)) e1 e2) := by
  unfold fX3_rule
  rw [ if_pos rfl]
  show some (sS (sS (cx S e1 e2) 29 v) 36 (S.1 36 + 1)) = _
  rw [cx_sS _ _ _ (by decide) (by decide), cx_sS _ _ _ (by decide) (by decide)]
theorem rule_family (S : St) (e1 e2 q v : Int32) : fX3_rule (cx S e1 e2) 1 q v = some (cx (sS (sS S 30 v) 36 (S.1 36 + 1)) e1 e2) := by
  unfold fX3_rule
  rw [if_neg (by decide), if_pos rfl]
  show some (sS (sS (cx S e1 e2) 30 v) 36 (S.1 36 + 1)) = _
  rw [cx_sS _ _ _ (by decide) (by decide), cx_sS _ _ _ (by decide) (by decide)]
theorem rule_day (S : St) (e1 e2 q v : Int32) : fX3_rule (cx S e1 e2) 2 q v = some (cx (sS (sS S 31 v) 36 (S.1 36 + 1)) e1 e2) := by
  unfold fX3_rule
  rw [if_neg (by decide), if_neg (by decide), if_pos rfl]
  show some (sS (sS (cx S e1 e2) 31 v) 36 (S.1 36 + 1)) = _
  rw [cx_sS _ _ _ (by decide) (by decide), cx_sS _ _ _ (by decide) (by decide)]
theorem rule_price (S : St) (e1 e2 q v : Int32) : fX3_rule (cx S e1 e2) 5 q v = some (cx (sS (sS S 33 v) 36 (S.1 36 + 1)) e1 e2) := by
  unfold fX3_rule
  rw [if_neg (by decide), if_neg (by decide), if_neg (by decide), if_neg (by decide), if_neg (by decide), if_pos rfl]
  show some (sS (sS (cx S e1 e2) 33 v) 36 (S.1 36 + 1)) = _
  rw [cx_sS _ _ _ (by decide) (by decide), cx_sS _ _ _ (by decide) (by decide)]
theorem rule_years (S : St) (e1 e2 q v : Int32) : fX3_rule (cx S e1 e2) 6 q v = some (cx (sS (sS S 34 v) 36 (S.1 36 + 1)) e1 e2) := by
  unfold fX3_rule
  rw [if_neg (by decide), if_neg (by decide), if_neg (by decide), if_neg (by decide), if_neg (by decide), if_neg (by decide), if_pos rfl]
  show some (sS (sS (cx S e1 e2) 34 v) 36 (S.1 36 + 1)) = _
  rw [cx_sS _ _ _ (by decide) (by decide), cx_sS _ _ _ (by decide) (by decide)]
theorem rule_shares (S : St) (e1 e2 q v : Int32) : fX3_rule (cx S e1 e2) 7 q v = some (cx (sS (sS S 35 v) 36 (S.1 36 + 1)) e1 e2) := by
  unfold fX3_rule
  rw [if_neg (by decide), if_neg (by decide), if_neg (by decide), if_neg (by decide), if_neg (by decide), if_neg (by decide), if_neg (by decide), if_pos rfl]
  show some (sS (sS (cx S e1 e2) 35 v) 36 (S.1 36 + 1)) = _
  rw [cx_sS _ _ _ (by decide) (by decide), cx_sS _ _ _ (by decide) (by decide)]
theorem rule_exempt (S : St) (e1 e2 q : Int32) {V : Nat} (hV : V < 10) : fX3_rule (cx S e1 e2) 3 q (nI V) = some (cx (sS (sS S 32 (S.1 32 ||| ((1 : Int32) <<< (nI V &&& 31)))) 36 (S.1 36 + 1)) e1 e2) := by
  unfold fX3_rule fX3_exemptCrop
  rw [if_neg (by decide), if_neg (by decide), if_neg (by decide), if_pos rfl, show fX10_isBelow (nI V) 10 = some 1 from isB_ok (nI_pos (by omega)) (nI_ge (b := 10) hV (by omega)), ob_s, if_neg (by decide)]
  show some (sS (sS (cx S e1 e2) 32 (S.1 32 ||| ((1 : Int32) <<< (nI V &&& 31)))) 36 (S.1 36 + 1)) = _
  rw [cx_sS _ _ _ (by decide) (by decide), cx_sS _ _ _ (by decide) (by decide)]
theorem rule_exempt2 (S : St) (e1 e2 q : Int32) {V : Nat} (hV : 10 ≤ V) (hV2 : V < 10000) : fX3_rule (cx S e1 e2) 3 q (nI V) = some (cx (sS S 36 (S.1 36 + 1)) e1 e2) := by
  unfold fX3_rule fX3_exemptCrop
  rw [if_neg (by decide), if_neg (by decide), if_neg (by decide), if_pos rfl, show fX10_isBelow (nI V) 10 = some 0 from isB_hi (nI_le (a := 10) hV (by omega)), ob_s, if_pos rfl]
  show some (sS (cx S e1 e2) 36 (S.1 36 + 1)) = _
  rw [cx_sS _ _ _ (by decide) (by decide)]
theorem rule_soil (S : St) (e1 e2 v : Int32) {q : Nat} (hq : q < 4) : fX3_rule (cx S e1 e2) 4 (nI q) v = some (cx (sS (sA S 31 q v) 36 (S.1 36 + 1)) e1 e2) := by
  unfold fX3_rule fX3_setSoil
  rw [if_neg (by decide), if_neg (by decide), if_neg (by decide), if_neg (by decide), if_pos rfl, show fX10_isBelow (nI q) 4 = some 1 from isB_ok (nI_pos (by omega)) (nI_ge (b := 4) hq (by omega)), ob_s, if_neg (by decide), ig (show q < 4 by omega) (by omega), cl (by omega)]
  show some (sS (sA (cx S e1 e2) 31 q v) 36 (S.1 36 + 1)) = _
  rw [cx_sA, cx_sS _ _ _ (by decide) (by decide)]
theorem lt2 {α β γ : Type} (a : α) (s : β) (F : α → β → Option γ) : (ob (some (a, s)) fun q => lt_ q.1 fun r => lt_ q.2 fun S => F r S) = F a s := rfl
theorem lt1 {α β : Type} (x : α) (f : α → Option β) : lt_ x f = f x := rfl
theorem stX {n : Nat} {U : St} {kd : Int32} (hk : fX5_keyword n U = some kd) (h1 : ¬ kd = -1) (h4 : ¬ kd = 4) (h6 : ¬ kd = 6) : fX5_readStatement n U = tlX n U (nI 0) (nI 9999) (fun S10 r7 => fX3_rule S10 kd 0 r7) := by
  unfold fX5_readStatement tlX
  rw [hk, ob_s, if_neg h1, if_neg h4]
  simp only [if_neg h6]
  rfl
theorem stX6 {n : Nat} {U : St} (hk : fX5_keyword n U = some 6) : fX5_readStatement n U = tlX n U (nI 1) (nI 40) (fun S10 r7 => fX3_rule S10 6 0 r7) := by
  unfold fX5_readStatement tlX
  rw [hk, ob_s, if_neg (by decide), if_neg (by decide)]
  rfl
theorem stX4 {n : Nat} {U : St} (hk : fX5_keyword n U = some 4) : fX5_readStatement n U = ob (fX5_nextToken n U) fun S24 => ob (fX5_number n S24 (nI 0) (nI 3)) fun r25 => if r25 = (-1) then (some (0, S24)) else (ob (fX5_nextToken n S24) fun S28 => ob (fX5_spells n S28 0) fun r29 => if r29 = 0 then (some (0, S28)) else tlX n S28 (nI 0) (nI 9999) (fun S10 r7 => fX3_rule S10 4 r25 r7)) := by
  unfold fX5_readStatement tlX
  rw [hk, ob_s, if_neg (by decide), if_pos rfl]
  simp only [if_neg (show ¬ (4 : Int32) = 6 by decide)]
  rfl
theorem stXm {n : Nat} {U : St} (hk : fX5_keyword n U = some (-1)) : fX5_readStatement n U = some (0, U) := by
  unfold fX5_readStatement
  rw [hk, ob_s, if_pos rfl]
theorem simM {n j : Nat} {J : Int32} {T : St} {z w' x : Int32} (h0 : ¬ (J < 0 ∨ 40 ≤ Int32.toNatClampNeg J)) (hj : Int32.toNatClampNeg J = j) : (if J < 0 ∨ 40 ≤ Int32.toNatClampNeg J then none else lt_ (sA (ct T z w' x) 16 (Int32.toNatClampNeg J) ((ct T z w' x).1 25)) fun S42 => endE n S42) = endE n (ct (sA T 16 j x) z w' x) := by
  rw [if_neg h0, hj]
  rfl
theorem stmt {b : Nat → Int32} {N n s c : Nat} {S T : St} {w v : Int32} (hn : 5000 ≤ n) (ht : Txt b N S) (htm : TxM b N T) (hs : s ≤ N) (hfix : skN isBl b N s = s) (hD : Dw c S T) : Outc N c S T (fX5_readStatement n (cx S (nI s) (nI (tke b N s)))) (fX11_statement n (ct T (nI s) w v)) := by
  have hT : ∀ w v C, C < 2 ^ 63 → fX11_takes n (ct T (nI s) w v) (lN C) = if wdv b N s = C then some (1, ct T (nI (skN isLe b N s)) (nI (skN isLe b N s)) v) else some (0, ct T (nI s) (nI (skN isLe b N s)) v) := fun w v C hC => by
    have := takM (w := w) (v := v) hn htm hs hC
    rw [hfix] at this
    exact this
  have hle := skN_le (P := isLe) (b := b) hs
  have hkey := keyX hn ht hs
  have htk : ¬ wdv b N s = 0 → tke b N s = skN isLe b N s := wdv_tke
  unfold fX11_statement
  rw [show ∀ w v, fX11_takes n (ct T (nI s) w v) 1936681324 = _ from fun w v => hT w v 1936681324 (by decide)]
  by_cases h0 : wdv b N s = 1936681324
  · rw [if_pos h0, lt2, if_neg (by decide), stX4 (by rw [hkey, h0]; rfl), htk (by rw [h0]; decide), tokX hn ht hle.2, ob_s]
    have hp := skN_le (P := isBl) (b := b) hle.2
    rw [numX hn ht hp.2 (by decide) (by decide), ob_s]
    rcases tknM (lo := 0) (hi := 3) (w := nI (skN isLe b N s)) (v := v) hn htm hle.2 (by decide) (by decide) with ⟨V, e1, e2, e3, e4⟩ | ⟨e1, v', e4⟩
    · have hk := num_tke hp.2 e1
      have hd := skN_le (P := isDi) (b := b) hp.2
      have h2 := skN_le (P := isBl) (b := b) hd.2
      have htl := tke_le (b := b) h2.2
      rw [e1, show fX11_takesNumber n (ct T (nI (skN isLe b N s)) (nI (skN isLe b N s)) v) 0 3 = _ from e4, hk, lt2, if_neg (show ¬ (1 : Int32) = 0 by decide), lt1, ct_25]
      rw [if_neg (show ¬ encN (some V) = -1 from fun q => nI_pos (show V < 2 ^ 31 by omega) (by rw [show nI V = -1 from q]; decide)), tokX hn ht hd.2, ob_s, splX hn ht htl.1 htl.2, ob_s, kw_eq h2.2 (by decide) (by decide), kcs.1]
      rw [show ∀ w v, fX11_takes n (ct T (nI (skN isDi b N (skN isBl b N (skN isLe b N s)))) w v) 26995 = _ from fun w v => takM (C := 26995) hn htm hd.2 (by decide)]
      generalize skN isBl b N (skN isDi b N (skN isBl b N (skN isLe b N s))) = p2 at *
      by_cases c2 : wdv b N p2 = 26995
      · have hl2 := skN_le (P := isLe) (b := b) h2.2
        rw [if_pos c2, lt2, decide_eq_true c2, wdv_tke (show ¬ wdv b N p2 = 0 by rw [c2]; decide)]
        simp only [if_true]
        rw [if_neg (show ¬ (1 : Int32) = 0 by decide), if_neg (show ¬ (1 : Int32) = 0 by decide)]
        refine tail (lo := 0) (hi := 9999) (a := skN isLe b N p2) (R := fun S10 r7 => fX3_rule S10 4 (encN (some V)) r7) (UM := fun V' => sA T 16 (26 + V) (nI V')) hn ht htm hl2.2 (by decide) (by decide) ?_ ?_ ?_
        · intro V' x1 x2 _ _
          exact ⟨_, rule_soil S x1 x2 (nI V') (show V < 4 by omega), eqS_sA.tr (eqS_sS (by omega)), dw_so hD (by omega)⟩
        · intro V' _ _
          exact eqT_sA (by omega)
        · intro V' z w' _ _
          exact simM (J := (26 : Int32) + nI V) (by rw [show (26 : Int32) + nI V = nI (26 + V) from nI_add 26 V]; exact gdn (show 26 + V < 40 by omega) (by omega)) (by rw [show (26 : Int32) + nI V = nI (26 + V) from nI_add 26 V]; exact cl (by omega))
      · rw [if_neg c2, lt2, decide_eq_false c2]
        left
        exact ⟨_, _, T, _, _, rfl, rfl, h2.2, eqT.rf T⟩
    · rw [e1, show fX11_takesNumber n (ct T (nI (skN isLe b N s)) (nI (skN isLe b N s)) v) 0 3 = _ from e4, lt2, if_pos rfl]
      left
      exact ⟨_, _, T, _, _, rfl, rfl, hp.2, eqT.rf T⟩
  rw [if_neg h0, lt2, if_pos rfl, show ∀ w v, fX11_takes n (ct T (nI s) w v) 111567772151924 = _ from fun w v => hT w v 111567772151924 (by decide)]
  by_cases h1 : wdv b N s = 111567772151924
  · rw [if_pos h1, lt2, if_neg (by decide), stX (kd := 3) (by rw [hkey, h1]; rfl) (by decide) (by decide) (by decide), htk (by rw [h1]; decide)]
    refine tail (lo := 0) (hi := 9999) (a := skN isLe b N s) (R := fun S10 r7 => fX3_rule S10 3 0 r7) (UM := fun V => if V < 10 then sA T 16 (30 + V) 1 else T) hn ht htm hle.2 (by decide) (by decide) ?_ ?_ ?_
    · intro V e1 e2 _ hV
      show ∃ S', _ ∧ _ ∧ Dw (c + 1) S' (if V < 10 then sA T 16 (30 + V) 1 else T)
      by_cases q : V < 10
      · rw [if_pos q]
        exact ⟨_, rule_exempt S e1 e2 0 q, eqS_two (by omega), dw_ex hD q⟩
      · rw [if_neg q]
        exact ⟨_, rule_exempt2 S e1 e2 0 (by omega) (by omega), eqS_sS (by omega), dw_no hD⟩
    · intro V _ _
      show eqT T (if V < 10 then sA T 16 (30 + V) 1 else T)
      by_cases q : V < 10
      · rw [if_pos q]
        exact eqT_sA (by omega)
      · rw [if_neg q]
        exact eqT.rf T
    · intro V z w' _ hV
      show _ = endE n (ct (if V < 10 then sA T 16 (30 + V) 1 else T) z w' (nI V))
      by_cases q : V < 10
      · rw [if_pos q]
        refine (if_neg (show ¬ (10 : Int32) ≤ nI V from nI_ge (b := 10) q (by omega))).trans ?_
        show (if ((30 : Int32) + nI V) < 0 ∨ 40 ≤ Int32.toNatClampNeg ((30 : Int32) + nI V) then none else lt_ (sA (ct T z w' (nI V)) 16 (Int32.toNatClampNeg ((30 : Int32) + nI V)) 1) fun S136 => endE n S136) = _
        rw [show (30 : Int32) + nI V = nI (30 + V) from nI_add 30 V, if_neg (gdn (show 30 + V < 40 by omega) (by omega)), cl (by omega)]
        rfl
      · rw [if_neg q]
        exact if_pos (show (10 : Int32) ≤ nI V from nI_le (a := 10) (by omega) (by omega))
  rw [if_neg h1, lt2, if_pos rfl, show ∀ w v, fX11_takes n (ct T (nI s) w v) 27977526159175271 = _ from fun w v => hT w v 27977526159175271 (by decide)]
  by_cases h2 : wdv b N s = 27977526159175271
  · rw [if_pos h2, lt2, if_neg (by decide), stX (kd := 0) (by rw [hkey, h2]; rfl) (by decide) (by decide) (by decide), htk (by rw [h2]; decide)]
    refine tail (lo := 0) (hi := 9999) (a := skN isLe b N s) (R := fun S10 r7 => fX3_rule S10 0 0 r7) (UM := fun V => sA T 16 20 (nI V)) hn ht htm hle.2 (by decide) (by decide) ?_ ?_ ?_
    · intro V e1 e2 hlo hhi
      exact ⟨_, rule_ceiling S e1 e2 0 (nI V), eqS_two (by omega), dw_simple (k := 29) (j := 20) hD (by omega)⟩
    · intro V _ _
      exact eqT_sA (by omega)
    · intro V z w' _ _
      exact simM (J := (20 : Int32) + 0) (by decide) (by decide)
  rw [if_neg h2, lt2, if_pos rfl, show ∀ w v, fX11_takes n (ct T (nI s) w v) 112568633486457 = _ from fun w v => hT w v 112568633486457 (by decide)]
  by_cases h3 : wdv b N s = 112568633486457
  · rw [if_pos h3, lt2, if_neg (by decide), stX (kd := 1) (by rw [hkey, h3]; rfl) (by decide) (by decide) (by decide), htk (by rw [h3]; decide)]
    refine tail (lo := 0) (hi := 9999) (a := skN isLe b N s) (R := fun S10 r7 => fX3_rule S10 1 0 r7) (UM := fun V => sA T 16 21 (nI V)) hn ht htm hle.2 (by decide) (by decide) ?_ ?_ ?_
    · intro V e1 e2 hlo hhi
      exact ⟨_, rule_family S e1 e2 0 (nI V), eqS_two (by omega), dw_simple (k := 30) (j := 21) hD (by omega)⟩
    · intro V _ _
      exact eqT_sA (by omega)
    · intro V z w' _ _
      exact simM (J := (20 : Int32) + 1) (by decide) (by decide)
  rw [if_neg h3, lt2, if_pos rfl, show ∀ w v, fX11_takes n (ct T (nI s) w v) 6578553 = _ from fun w v => hT w v 6578553 (by decide)]
  by_cases h4 : wdv b N s = 6578553
  · rw [if_pos h4, lt2, if_neg (by decide), stX (kd := 2) (by rw [hkey, h4]; rfl) (by decide) (by decide) (by decide), htk (by rw [h4]; decide)]
    refine tail (lo := 0) (hi := 9999) (a := skN isLe b N s) (R := fun S10 r7 => fX3_rule S10 2 0 r7) (UM := fun V => sA T 16 22 (nI V)) hn ht htm hle.2 (by decide) (by decide) ?_ ?_ ?_
    · intro V e1 e2 hlo hhi
      exact ⟨_, rule_day S e1 e2 0 (nI V), eqS_two (by omega), dw_simple (k := 31) (j := 22) hD (by omega)⟩
    · intro V _ _
      exact eqT_sA (by omega)
    · intro V z w' _ _
      exact simM (J := (20 : Int32) + 2) (by decide) (by decide)
  rw [if_neg h4, lt2, if_pos rfl, show ∀ w v, fX11_takes n (ct T (nI s) w v) 482955846501 = _ from fun w v => hT w v 482955846501 (by decide)]
  by_cases h5 : wdv b N s = 482955846501
  · rw [if_pos h5, lt2, if_neg (by decide), stX (kd := 5) (by rw [hkey, h5]; rfl) (by decide) (by decide) (by decide), htk (by rw [h5]; decide)]
    refine tail (lo := 0) (hi := 9999) (a := skN isLe b N s) (R := fun S10 r7 => fX3_rule S10 5 0 r7) (UM := fun V => sA T 16 23 (nI V)) hn ht htm hle.2 (by decide) (by decide) ?_ ?_ ?_
    · intro V e1 e2 hlo hhi
      exact ⟨_, rule_price S e1 e2 0 (nI V), eqS_two (by omega), dw_simple (k := 33) (j := 23) hD (by omega)⟩
    · intro V _ _
      exact eqT_sA (by omega)
    · intro V z w' _ _
      exact simM (J := (20 : Int32) + 3) (by decide) (by decide)
  rw [if_neg h5, lt2, if_pos rfl, show ∀ w v, fX11_takes n (ct T (nI s) w v) 521391927923 = _ from fun w v => hT w v 521391927923 (by decide)]
  by_cases h6 : wdv b N s = 521391927923
  · rw [if_pos h6, lt2, if_neg (by decide), stX6 (by rw [hkey, h6]; rfl), htk (by rw [h6]; decide)]
    refine tail (lo := 1) (hi := 40) (a := skN isLe b N s) (R := fun S10 r7 => fX3_rule S10 6 0 r7) (UM := fun V => sA T 16 24 (nI V)) hn ht htm hle.2 (by decide) (by decide) ?_ ?_ ?_
    · intro V e1 e2 hlo hhi
      exact ⟨_, rule_years S e1 e2 0 (nI V), eqS_two (by omega), dw_simple (k := 34) (j := 24) hD (by omega)⟩
    · intro V _ _
      exact eqT_sA (by omega)
    · intro V z w' _ _
      exact simM (J := (20 : Int32) + 4) (by decide) (by decide)
  rw [if_neg h6, lt2, if_pos rfl, show ∀ w v, fX11_takes n (ct T (nI s) w v) 126892148680051 = _ from fun w v => hT w v 126892148680051 (by decide)]
  by_cases h7 : wdv b N s = 126892148680051
  · rw [if_pos h7, lt2, if_neg (by decide), stX (kd := 7) (by rw [hkey, h7]; rfl) (by decide) (by decide) (by decide), htk (by rw [h7]; decide)]
    refine tail (lo := 0) (hi := 9999) (a := skN isLe b N s) (R := fun S10 r7 => fX3_rule S10 7 0 r7) (UM := fun V => sA T 16 25 (nI V)) hn ht htm hle.2 (by decide) (by decide) ?_ ?_ ?_
    · intro V e1 e2 hlo hhi
      exact ⟨_, rule_shares S e1 e2 0 (nI V), eqS_two (by omega), dw_simple (k := 35) (j := 25) hD (by omega)⟩
    · intro V _ _
      exact eqT_sA (by omega)
    · intro V z w' _ _
      exact simM (J := (20 : Int32) + 5) (by decide) (by decide)
  rw [if_neg h7, lt2, if_pos rfl, stXm (by rw [hkey]; unfold kind; rw [if_neg h2, if_neg h3, if_neg h4, if_neg h1, if_neg h0, if_neg h5, if_neg h6, if_neg h7])]
  left
  exact ⟨_, _, T, _, _, rfl, rfl, hs, eqT.rf T⟩
