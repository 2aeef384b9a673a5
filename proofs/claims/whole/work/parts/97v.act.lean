/-! act: from the first letter to the last -/
theorem skN_id {P : Int32 → Bool} {b : Nat → Int32} {N p : Nat} (hp : p ≤ N) : skN P b N (skN P b N p) = skN P b N p := by
  obtain ⟨d1, d2, d3, d4⟩ := skN_spec (P := P) (b := b) (N - p) p rfl hp
  rcases Nat.lt_or_ge (skN P b N p) N with q | q
  · rw [skN_s q, d4 q]; rfl
  · exact skN_e q
theorem cxs7 {b : Nat → Int32} {N : Nat} {S : St} (h : Txt b N S) (s e : Int32) : (cx S s e).1 7 = nI N := h.2.1
theorem ct21 {b : Nat → Int32} {N : Nat} {T : St} (h : TxM b N T) (a w v : Int32) : (ct T a w v).1 21 = nI N := h.2.1
theorem actL {b : Nat → Int32} {N n : Nat} {kX : Int32 → St → Option (Int32 × St)} {kM : Int32 → Int32 → St → Option (Int32 × St)} (hn : 5000 ≤ n) : ∀ (dd i q fuX fuM : Nat) (S T : St) (x w v : Int32), i + dd = 16 → dd < fuX → dd + 1 < fuM → Txt b N S → TxM b N T → q ≤ N → Dw i S T → (∃ q' e' S' i' T' w' v', fX5_readAct_L29 n kX fuX (nI i) (cx S x (nI q)) = some (0, sS (cx S' (nI q') e') 10 (nI q')) ∧ fX11_act_L69 n kM fuM (nI i) 1 (ct T (nI (skN isBl b N q)) w v) = kM i' 0 (ct T' (nI q') w' v') ∧ eqS S S' ∧ eqT T T') ∨ ∃ s' e' S' i' z' T' w' v', fX5_readAct_L29 n kX fuX (nI i) (cx S x (nI q)) = some (1, cx S' s' e') ∧ fX11_act_L69 n kM fuM (nI i) 1 (ct T (nI (skN isBl b N q)) w v) = kM (nI i') 1 (ct T' z' w' v') ∧ eqS S S' ∧ eqT T T' ∧ Dw i' S' T' := by
  intro dd
  induction dd with
  | zero =>
    intro i q fuX fuM S T x w v hi hfX hfM ht htm hq hD
    obtain ⟨fuX, rfl⟩ : ∃ g, fuX = g + 1 := ⟨fuX - 1, by omega⟩
    obtain ⟨fuM, rfl⟩ : ∃ g, fuM = g + 1 + 1 := ⟨fuM - 2, by omega⟩
    obtain rfl : i = 16 := by omega
    have hl := skN_le (P := isBl) (b := b) hq
    have h400 := ht.1
    rw [fX5_readAct_L29, if_neg (by decide), tokX hn ht hq, ob_s, cx_8, cxs7 ht, fX11_act_L69, if_neg (show ¬ (1 : Int32) = 0 by decide), ct_22, ct21 htm]
    generalize skN isBl b N q = s at *
    rcases Nat.lt_or_ge s N with z | z
    · left
      rw [if_pos (nI_lt z (by omega)), if_pos (show nI 16 = 16 from rfl), if_neg (nI_ge z (by omega)), if_pos (show (16 : Int32) ≤ nI 16 by decide), fX11_act_L69, if_pos rfl]
      exact ⟨s, _, S, _, T, _, _, rfl, rfl, eqS.rf S, eqT.rf T⟩
    · right
      rw [if_neg (nI_nlt z (by omega)), if_pos (nI_le z (by omega))]
      exact ⟨_, _, S, 16, _, T, _, _, rfl, rfl, eqS.rf S, eqT.rf T, hD⟩
  | succ dd ihd =>
    intro i q fuX fuM S T x w v hi hfX hfM ht htm hq hD
    obtain ⟨fuX, rfl⟩ : ∃ g, fuX = g + 1 := ⟨fuX - 1, by omega⟩
    obtain ⟨fuM, rfl⟩ : ∃ g, fuM = g + 1 := ⟨fuM - 1, by omega⟩
    have hl := skN_le (P := isBl) (b := b) hq
    have hfix := skN_id (P := isBl) (b := b) hq
    have h400 := ht.1
    rw [fX5_readAct_L29, if_neg (show ¬ (16 : Int32) < nI i from nI_nlt (a := 16) (by omega) (by omega)), tokX hn ht hq, ob_s, cx_8, cxs7 ht, fX11_act_L69, if_neg (show ¬ (1 : Int32) = 0 by decide), ct_22, ct21 htm]
    generalize skN isBl b N q = s at *
    rcases Nat.lt_or_ge s N with z | z
    · rw [if_pos (nI_lt z (by omega)), if_neg (show ¬ nI i = 16 from nI_ne (b := 16) (by omega) (by omega) (by omega)), if_neg (nI_ge z (by omega)), if_neg (show ¬ (16 : Int32) ≤ nI i from nI_ge (b := 16) (by omega) (by omega))]
      rcases stmt (w := w) (v := v) hn ht htm hl.2 hfix hD with ⟨q', e', T', w', v', a1, a2, a3, a4⟩ | ⟨S', q', s', T', w', v', a1, a2, a3, a4, a5, a6⟩
      · left
        obtain ⟨fuM, rfl⟩ : ∃ g, fuM = g + 1 := ⟨fuM - 1, by omega⟩
        rw [a1, a2, lt2, lt2, if_pos rfl, if_pos rfl, fX11_act_L69, if_pos rfl]
        exact ⟨q', e', S, _, T', _, _, rfl, rfl, eqS.rf S, a4⟩
      · rw [a1, a2, lt2, lt2, if_neg (by decide), if_neg (by decide), blaM hn (htm.eqT a5) a3, ob_s, nI_1]
        rcases ihd (i + 1) q' fuX fuM S' T' s' w' v' (by omega) (by omega) (by omega) (ht.eqS a4) (htm.eqT a5) a3 a6 with ⟨q2, e2, S2, i2, T2, w2, v2, b1, b2, b3, b4⟩ | ⟨s2, e2, S2, i2, z2, T2, w2, v2, b1, b2, b3, b4, b5⟩
        · left
          exact ⟨q2, e2, S2, i2, T2, w2, v2, b1, b2, a4.tr b3, a5.tr b4⟩
        · right
          exact ⟨s2, e2, S2, i2, z2, T2, w2, v2, b1, b2, a4.tr b3, a5.tr b4, b5⟩
    · right
      rw [if_neg (nI_nlt z (by omega)), if_pos (nI_le z (by omega))]
      exact ⟨_, _, S, i, _, T, _, _, rfl, rfl, eqS.rf S, eqT.rf T, hD⟩
/-! what a fresh law says -/
def bgv (i : Nat) : Int32 := if i = 0 then 100 else if i = 2 then 1000 else if i = 3 then 1 else if i = 5 then 2 else if i = 4 then 10 else if 6 ≤ i ∧ i ≤ 9 then 10 else 0
theorem beg_s {n o i fu : Nat} {T : St} {K : Int32 → St → Option St} (hi : i < 20) (ho : o ≤ 20) : fX11_begins_L2 n (nI o) K (fu + 1) (nI i) T = fX11_begins_L2 n (nI o) K fu (nI (i + 1)) (sA T 16 (o + i) (bgv i)) := by
  rw [fX11_begins_L2, if_neg (show ¬ (20 : Int32) ≤ nI i from nI_ge (b := 20) hi (by omega)), nI_add, nI_1, cl (show o + i < 2 ^ 31 by omega)]
  have e : ∀ j : Nat, j < 20 → ((nI i = nI j) ↔ i = j) := fun j hj => nI_eq (by omega) (by omega)
  unfold bgv
  by_cases c0 : i = 0
  · rw [if_pos (show nI i = 0 from (e 0 (by omega)).mpr c0), if_pos c0, ih (show o + i < 40 by omega) (by omega)]; rfl
  rw [if_neg (show ¬ nI i = 0 from fun q => c0 ((e 0 (by omega)).mp q)), if_neg c0]
  by_cases c2 : i = 2
  · rw [if_pos (show nI i = 2 from (e 2 (by omega)).mpr c2), if_pos c2, ih (show o + i < 40 by omega) (by omega)]; rfl
  rw [if_neg (show ¬ nI i = 2 from fun q => c2 ((e 2 (by omega)).mp q)), if_neg c2]
  by_cases c3 : i = 3
  · rw [if_pos (show nI i = 3 from (e 3 (by omega)).mpr c3), if_pos c3, ih (show o + i < 40 by omega) (by omega)]; rfl
  rw [if_neg (show ¬ nI i = 3 from fun q => c3 ((e 3 (by omega)).mp q)), if_neg c3]
  by_cases c5 : i = 5
  · rw [if_pos (show nI i = 5 from (e 5 (by omega)).mpr c5), if_pos c5, ih (show o + i < 40 by omega) (by omega)]; rfl
  rw [if_neg (show ¬ nI i = 5 from fun q => c5 ((e 5 (by omega)).mp q)), if_neg c5]
  by_cases c4 : i = 4
  · rw [if_pos (show nI i = 4 from (e 4 (by omega)).mpr c4), if_pos c4, ih (show o + i < 40 by omega) (by omega)]; rfl
  rw [if_neg (show ¬ nI i = 4 from fun q => c4 ((e 4 (by omega)).mp q)), if_neg c4]
  rcases Nat.lt_or_ge i 6 with q | q
  · rw [isI_lo (show nI i < 6 from nI_lt (b := 6) q (by omega)), ob_s, if_pos rfl, if_neg (show ¬ (6 ≤ i ∧ i ≤ 9) by omega), ih (show o + i < 40 by omega) (by omega)]; rfl
  · rcases Nat.lt_or_ge 9 i with q2 | q2
    · rw [isI_hi (show (9 : Int32) < nI i from nI_lt (a := 9) q2 (by omega)), ob_s, if_pos rfl, if_neg (show ¬ (6 ≤ i ∧ i ≤ 9) by omega), ih (show o + i < 40 by omega) (by omega)]; rfl
    · rw [isI_ok (show ¬ nI i < 6 from nI_nlt (b := 6) q (by omega)) (show ¬ (9 : Int32) < nI i from nI_nlt (a := 9) q2 (by omega)), ob_s, if_neg (by decide), if_pos (show 6 ≤ i ∧ i ≤ 9 from ⟨q, q2⟩), ih (show o + i < 40 by omega) (by omega)]; rfl
def fr16 (T T' : St) : Prop := T'.1 = T.1 ∧ T'.2.2 = T.2.2 ∧ ∀ a, ¬ a = 16 → T'.2.1 a = T.2.1 a
theorem fr16_sA {T T' : St} (h : fr16 T T') {i : Nat} {v : Int32} : fr16 T (sA T' 16 i v) := ⟨h.1, h.2.1, fun a ha => by funext j; rw [sA_2, if_neg ha, h.2.2 a ha]⟩
theorem beg_l {n o : Nat} {K : Int32 → St → Option St} {T0 : St} (ho : o ≤ 20) : ∀ (dd i fu : Nat) (T : St), i + dd = 20 → dd < fu → fr16 T0 T → (∀ j, T.2.1 16 j = if o ≤ j ∧ j < o + i then bgv (j - o) else T0.2.1 16 j) → ∃ T', fX11_begins_L2 n (nI o) K fu (nI i) T = K (nI 20) T' ∧ fr16 T0 T' ∧ ∀ j, T'.2.1 16 j = if o ≤ j ∧ j < o + 20 then bgv (j - o) else T0.2.1 16 j := by
  intro dd
  induction dd with
  | zero =>
    intro i fu T hi hfu hf hT
    obtain ⟨fu, rfl⟩ : ∃ g, fu = g + 1 := ⟨fu - 1, by omega⟩
    obtain rfl : i = 20 := by omega
    exact ⟨T, by rw [fX11_begins_L2, if_pos (by decide)], hf, hT⟩
  | succ dd ihd =>
    intro i fu T hi hfu hf hT
    obtain ⟨fu, rfl⟩ : ∃ g, fu = g + 1 := ⟨fu - 1, by omega⟩
    rw [beg_s (by omega) ho]
    refine ihd (i + 1) fu _ (by omega) (by omega) (fr16_sA hf) (fun j => ?_)
    rw [sA_2, if_pos rfl, hT j]
    by_cases e : j = o + i
    · rw [if_pos e, if_pos (by omega), e, Nat.add_sub_cancel_left]
    · rw [if_neg e]
      by_cases c : o ≤ j ∧ j < o + i
      · rw [if_pos c, if_pos (by omega)]
      · rw [if_neg c, if_neg (by omega)]
theorem begM {n o : Nat} (T : St) (hn : 25 ≤ n) (ho : o ≤ 20) : ∃ T', fX11_begins n T (nI o) = some T' ∧ fr16 T T' ∧ ∀ j, T'.2.1 16 j = if o ≤ j ∧ j < o + 20 then bgv (j - o) else T.2.1 16 j :=
  beg_l (n := n) (K := fun x23 S24 => some S24) (T0 := T) ho 20 0 n T rfl (by omega) ⟨rfl, rfl, fun _ _ => rfl⟩ (fun j => by rw [if_neg (by omega)])
theorem cpyM {n N : Nat} {T0 : St} (hN : N ≤ 400) (hb : ∀ i, i < N → vp_nar .byte (T0.2.1 18 i) = T0.2.1 18 i) : ∀ (dd i fu : Nat) (T : St), i + dd = N → dd < fu → (T.1 = T0.1 ∧ T.2.2 = T0.2.2 ∧ ∀ a, ¬ a = 19 → T.2.1 a = T0.2.1 a) → (∀ j, j < i → T.2.1 19 j = T0.2.1 18 j) → ∃ T', (∀ K : Int32 → St → Option (Int32 × St), fX11_act_L17 n (nI N) K fu (nI i) T = K (nI N) T') ∧ (T'.1 = T0.1 ∧ T'.2.2 = T0.2.2 ∧ ∀ a, ¬ a = 19 → T'.2.1 a = T0.2.1 a) ∧ ∀ j, j < N → T'.2.1 19 j = T0.2.1 18 j := by
  intro dd
  induction dd with
  | zero =>
    intro i fu T hi hfu hf hT
    obtain ⟨fu, rfl⟩ : ∃ g, fu = g + 1 := ⟨fu - 1, by omega⟩
    obtain rfl : i = N := by omega
    exact ⟨T, fun K => by rw [fX11_act_L17, if_pos (nI_le (Nat.le_refl _) (by omega))], hf, hT⟩
  | succ dd ihd =>
    intro i fu T hi hfu hf hT
    obtain ⟨fu, rfl⟩ : ∃ g, fu = g + 1 := ⟨fu - 1, by omega⟩
    obtain ⟨T', g1, g2, g3⟩ := ihd (i + 1) fu (sA T 19 i (T0.2.1 18 i)) (by omega) (by omega) ⟨hf.1, hf.2.1, fun a ha => by funext j; rw [sA_2, if_neg ha, hf.2.2 a ha]⟩ (fun j hj => by
      rw [sA_2, if_pos rfl]
      by_cases e : j = i
      · rw [if_pos e, e]
      · rw [if_neg e]; exact hT j (by omega))
    refine ⟨T', fun K => ?_, g2, g3⟩
    rw [fX11_act_L17, if_neg (nI_ge (show i < N by omega) (by omega)), ig (show i < 400 by omega) (by omega), ig (show i < 400 by omega) (by omega), cl (show i < 2 ^ 31 by omega), lt1, nI_1, hf.2.2 18 (by omega), hb i (by omega)]
    exact g1 K
theorem putM {n : Nat} {x2 : Int32} {T0 : St} : ∀ (dd i fu : Nat) (T : St), i + dd = 20 → dd < fu → fr16 T0 T → (∀ j, T.2.1 16 j = if j < i then T0.2.1 16 (20 + j) else T0.2.1 16 j) → ∃ T', (∀ K : Int32 → St → Option (Int32 × St), fX11_act_L142 n x2 K fu (nI i) T = K (nI 20) T') ∧ fr16 T0 T' ∧ ∀ j, j < 20 → T'.2.1 16 j = T0.2.1 16 (20 + j) := by
  intro dd
  induction dd with
  | zero =>
    intro i fu T hi hfu hf hT
    obtain ⟨fu, rfl⟩ : ∃ g, fu = g + 1 := ⟨fu - 1, by omega⟩
    obtain rfl : i = 20 := by omega
    exact ⟨T, fun K => by rw [fX11_act_L142, if_pos (by decide)], hf, fun j hj => by rw [hT j, if_pos hj]⟩
  | succ dd ihd =>
    intro i fu T hi hfu hf hT
    obtain ⟨fu, rfl⟩ : ∃ g, fu = g + 1 := ⟨fu - 1, by omega⟩
    obtain ⟨T', g1, g2, g3⟩ := ihd (i + 1) fu (sA T 16 i (T0.2.1 16 (20 + i))) (by omega) (by omega) (fr16_sA hf) (fun j => by
      rw [sA_2, if_pos rfl, hT j]
      by_cases e : j = i
      · rw [if_pos e, if_pos (by omega), e]
      · rw [if_neg e]
        by_cases c : j < i
        · rw [if_pos c, if_pos (by omega)]
        · rw [if_neg c, if_neg (by omega)])
    refine ⟨T', fun K => ?_, g2, g3⟩
    rw [fX11_act_L142, if_neg (show ¬ (20 : Int32) ≤ nI i from nI_ge (b := 20) (by omega) (by omega)), show (20 : Int32) + nI i = nI (20 + i) from nI_add 20 i, ig (show 20 + i < 40 by omega) (by omega), ig (show i < 40 by omega) (by omega), cl (show i < 2 ^ 31 by omega), cl (show 20 + i < 2 ^ 31 by omega), lt1, nI_1, hT (20 + i), if_neg (by omega)]
    exact g1 K
theorem fil_s {n i fu : Nat} {x1 : Int32} {S : St} {K : Int32 → St → Option St} (hi : i < 4) : fJ7_fill_53178_L5 n x1 4 K (fu + 1) (nI i) S = fJ7_fill_53178_L5 n x1 4 K fu (nI (i + 1)) (sA S 31 i x1) := by
  rw [fJ7_fill_53178_L5, if_neg (show ¬ (4 : Int32) ≤ nI i from nI_ge (b := 4) hi (by omega)), ig (show i < 4 by omega) (by omega), cl (by omega), lt1, nI_1]
theorem clrX {n : Nat} (hn : 25 ≤ n) (S : St) : ∃ S', fX3_clear n S = some S' ∧ eqS S S' ∧ S'.1 29 = 100 ∧ S'.1 30 = 0 ∧ S'.1 31 = 1000 ∧ S'.1 32 = 0 ∧ S'.1 33 = 1 ∧ S'.1 34 = 10 ∧ S'.1 35 = 2 ∧ S'.1 36 = 0 ∧ ∀ j, j < 4 → S'.2.1 31 j = 10 := by
  obtain ⟨m, rfl⟩ : ∃ m, n = m + 1 + 1 + 1 + 1 + 1 := ⟨n - 5, by omega⟩
  unfold fX3_clear fJ7_fill_53178
  rw [show fJ7_fill_53178_L5 (m + 1 + 1 + 1 + 1 + 1) 10 4 (fun x4 S5 => some S5) (m + 1 + 1 + 1 + 1 + 1) 0 S = _ from fil_s (i := 0) (by omega), fil_s (by omega), fil_s (by omega), fil_s (by omega), fJ7_fill_53178_L5, if_pos (by decide), ob_s]
  refine ⟨_, rfl, ?_, rfl, rfl, rfl, rfl, rfl, rfl, rfl, rfl, fun j hj => ?_⟩
  · refine eqS.tr ?_ (eqS_sS (by omega))
    refine eqS.tr ?_ (eqS_sS (by omega))
    refine eqS.tr ?_ (eqS_sS (by omega))
    refine eqS.tr ?_ (eqS_sS (by omega))
    refine eqS.tr ?_ (eqS_sS (by omega))
    refine eqS.tr ?_ (eqS_sS (by omega))
    refine eqS.tr ?_ (eqS_sS (by omega))
    refine eqS.tr ?_ (eqS_sS (by omega))
    refine eqS.tr ?_ eqS_sA
    refine eqS.tr ?_ eqS_sA
    refine eqS.tr ?_ eqS_sA
    exact eqS_sA
  · simp only [sS_2, sA_2, if_true]
    rcases (show j = 0 ∨ j = 1 ∨ j = 2 ∨ j = 3 by omega) with e | e | e | e <;> subst e <;> rfl
theorem rdX {n N : Nat} (hn : 25 ≤ n) (S : St) (hN : N ≤ 400) : ∃ S5, fX5_readAct n S (nI N) = fX5_readAct_L29 n (fun x17 S18 => some (0, S18)) n (nI 0) (cx S5 (S5.1 8) (nI 0)) ∧ (∀ k, ¬ (7 ≤ k ∧ k ≤ 10) → ¬ (29 ≤ k ∧ k ≤ 36) → S5.1 k = S.1 k) ∧ S5.2.2 = S.2.2 ∧ (∀ a, ¬ a = 31 → S5.2.1 a = S.2.1 a) ∧ S5.1 7 = nI N ∧ S5.1 10 = -1 ∧ S5.1 29 = 100 ∧ S5.1 30 = 0 ∧ S5.1 31 = 1000 ∧ S5.1 32 = 0 ∧ S5.1 33 = 1 ∧ S5.1 34 = 10 ∧ S5.1 35 = 2 ∧ S5.1 36 = 0 ∧ ∀ j, j < 4 → S5.2.1 31 j = 10 := by
  obtain ⟨S', c1, c2, c3⟩ := clrX hn (sS (sS (sS S 7 (nI N)) 9 0) 10 (-1))
  have h9 : S'.1 9 = nI 0 := c2.1 9 (by omega)
  refine ⟨S', ?_, fun k h1 h2 => ?_, c2.2.1, fun a ha => c2.2.2 a ha, c2.1 7 (by omega), c2.1 10 (by omega), c3⟩
  · unfold fX5_readAct
    rw [if_neg (show ¬ (400 : Int32) < nI N from nI_nlt (a := 400) hN (by omega)), lt1, lt1, lt1, c1, ob_s, ← h9, cx_self, h9]
    rfl
  · rw [c2.1 k h2, sS_1, if_neg (by omega), sS_1, if_neg (by omega), sS_1, if_neg (by omega)]
def actK (n : Nat) : Int32 → Int32 → St → Option (Int32 × St) := fun x28 x29 S30 => if x29 = 0 then (lt_ (sS S30 23 (S30.1 22)) fun S32 => if x29 = 0 then (some ((-1), S32)) else (fX11_act_L142 n x28 (fun x38 S39 => lt_ (sS S39 17 x28) fun S40 => some ((S40.1 17), S40)) n 0 S32)) else (lt_ (sS S30 23 (-1)) fun S41 => if x29 = 0 then (some ((-1), S41)) else (fX11_act_L142 n x28 (fun x43 S44 => lt_ (sS S44 17 x28) fun S45 => some ((S45.1 17), S45)) n 0 S41))
theorem actM_eq (n : Nat) (S : St) (x1 : Int32) : fX11_act n S x1 = ob (fX11_isIn x1 0 (S.1 20)) fun r1 => if r1 = 0 then (some ((-2), S)) else (fX11_act_L17 n x1 (fun x7 S8 => lt_ (sS S8 21 x1) fun S9 => lt_ (sS S9 20 0) fun S10 => lt_ (sS S10 22 0) fun S11 => ob (fX11_begins n S11 20) fun S13 => ob (fX11_blanks n S13) fun S15 => fX11_act_L69 n (actK n) n 0 1 S15) n 0 S) := rfl
theorem Lw.cg {S S' T T' : St} (h : Lw S T) (e1 : ∀ k, 21 ≤ k → k ≤ 28 → S'.1 k = S.1 k) (e2 : S'.2.1 30 = S.2.1 30) (e3 : ∀ j, j < 20 → T'.2.1 16 j = T.2.1 16 j) (e4 : T'.1 17 = T.1 17) : Lw S' T' := by
  obtain ⟨d1, d2, d3, d4, d5, d6, d7, d8, d9, y, y1, y2, y3⟩ := h
  refine ⟨?_, ?_, ?_, ?_, ?_, ?_, ?_, fun j hj => ?_, fun j hj => ?_, y, y1, y2, ?_⟩
  · rw [e1 _ (by omega) (by omega), e3 _ (by omega)]; exact d1
  · rw [e1 _ (by omega) (by omega), e3 _ (by omega)]; exact d2
  · rw [e1 _ (by omega) (by omega), e3 _ (by omega)]; exact d3
  · rw [e1 _ (by omega) (by omega), e3 _ (by omega)]; exact d4
  · rw [e1 _ (by omega) (by omega), e3 _ (by omega)]; exact d5
  · rw [e1 _ (by omega) (by omega), e3 _ (by omega)]; exact d6
  · rw [e1 _ (by omega) (by omega), e4]; exact d7
  · rw [e2, e3 _ (by omega)]; exact d8 j hj
  · rw [e1 _ (by omega) (by omega), e3 _ (by omega)]; exact d9 j hj
  · rw [e3 _ (by omega)]; exact y3
theorem rel_keep {np nf nt td tl kp k : Nat} {S T S' T' : St} {Fn : Nat → Nat → Int32} (h : RelP np nf nt td tl kp S k Fn T) (s1 : ∀ k, ¬ (6 ≤ k ∧ k ≤ 10) → ¬ (21 ≤ k ∧ k ≤ 36) → S'.1 k = S.1 k) (s2 : S'.2.2 = S.2.2) (s3 : ∀ a, ¬ a = 30 → ¬ a = 31 → S'.2.1 a = S.2.1 a) (m1 : ∀ k, ¬ k = 17 → ¬ (20 ≤ k ∧ k ≤ 25) → T'.1 k = T.1 k) (m3 : ∀ a, ¬ a = 16 → ¬ a = 19 → T'.2.1 a = T.2.1 a) (h6 : S'.1 6 = 0) (h20 : T'.1 20 = 0) (h10 : S'.1 10 = T'.1 23) (hL : Lw S' T') : RelP np nf nt td 0 kp S' k Fn T' := by
  obtain ⟨hPe, hKi, hLa, hTr, hTa, hLw, hPr, hSl⟩ := h
  refine ⟨?_, ?_, ?_, ?_, ?_, hL, ?_, ?_⟩
  · unfold Pe at hPe ⊢
    rw [s1 1 (by omega) (by omega), m1 1 (by omega) (by omega), s3 0 (by omega) (by omega), s3 1 (by omega) (by omega), m3 5 (by omega) (by omega), m3 6 (by omega) (by omega)]
    exact hPe
  · unfold Ki at hKi ⊢
    rw [s1 2 (by omega) (by omega), m1 4 (by omega) (by omega), s2, m3 7 (by omega) (by omega)]
    exact hKi
  · unfold La at hLa ⊢
    rw [s1 3 (by omega) (by omega), m1 2 (by omega) (by omega), s3 2 (by omega) (by omega), s3 3 (by omega) (by omega), s3 4 (by omega) (by omega), s3 5 (by omega) (by omega), s3 6 (by omega) (by omega), m3 8 (by omega) (by omega), m3 9 (by omega) (by omega), m3 10 (by omega) (by omega), m3 11 (by omega) (by omega), m3 12 (by omega) (by omega)]
    exact hLa
  · exact hTr.cg (s1 _ (by omega) (by omega)) (s1 _ (by omega) (by omega)) (s3 _ (by omega) (by omega)) (s3 _ (by omega) (by omega)) (s3 _ (by omega) (by omega)) (s3 _ (by omega) (by omega)) (m1 _ (by omega) (by omega)) (m1 _ (by omega) (by omega)) (m3 _ (by omega) (by omega)) (m3 _ (by omega) (by omega)) (m3 _ (by omega) (by omega)) (m3 _ (by omega) (by omega))
  · exact ⟨by omega, h6, h20, h10, fun i hi => by omega⟩
  · unfold Pr at hPr ⊢
    rw [s1 17 (by omega) (by omega), m1 29 (by omega) (by omega), s3 16 (by omega) (by omega), s3 17 (by omega) (by omega), s3 18 (by omega) (by omega), m3 30 (by omega) (by omega), m3 31 (by omega) (by omega), m3 32 (by omega) (by omega)]
    exact hPr
  · unfold Sl at hSl ⊢
    rw [s1 0 (by omega) (by omega), m1 38 (by omega) (by omega), m3 39 (by omega) (by omega), m3 40 (by omega) (by omega), m3 41 (by omega) (by omega), m3 42 (by omega) (by omega), m3 43 (by omega) (by omega), m3 44 (by omega) (by omega), m3 45 (by omega) (by omega), m3 46 (by omega) (by omega)]
    exact hSl
