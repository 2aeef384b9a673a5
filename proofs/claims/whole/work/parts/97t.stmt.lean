/-! statements -/
def Dw (c : Nat) (S T : St) : Prop := S.1 29 = T.2.1 16 20 ∧ S.1 30 = T.2.1 16 21 ∧ S.1 31 = T.2.1 16 22 ∧ S.1 33 = T.2.1 16 23 ∧ S.1 34 = T.2.1 16 24 ∧ S.1 35 = T.2.1 16 25 ∧ S.1 36 = nI c ∧ (∀ j, j < 4 → S.2.1 31 j = T.2.1 16 (26 + j)) ∧ (∀ j, j < 10 → (bt (S.1 32) j = true ∧ T.2.1 16 (30 + j) = 1) ∨ (bt (S.1 32) j = false ∧ T.2.1 16 (30 + j) = 0)) ∧ ∃ y, 1 ≤ y ∧ y ≤ 40 ∧ T.2.1 16 24 = nI y
def eqS (S S' : St) : Prop := (∀ k, ¬ (29 ≤ k ∧ k ≤ 36) → S'.1 k = S.1 k) ∧ S'.2.2 = S.2.2 ∧ ∀ a, ¬ a = 31 → S'.2.1 a = S.2.1 a
def eqT (T T' : St) : Prop := T'.1 = T.1 ∧ T'.2.2 = T.2.2 ∧ (∀ a, ¬ a = 16 → T'.2.1 a = T.2.1 a) ∧ ∀ j, j < 20 → T'.2.1 16 j = T.2.1 16 j
theorem eqS.rf (S : St) : eqS S S := ⟨fun _ _ => rfl, rfl, fun _ _ => rfl⟩
theorem eqT.rf (T : St) : eqT T T := ⟨rfl, rfl, fun _ _ => rfl, fun _ _ => rfl⟩
theorem eqS.tr {S S' S'' : St} (h : eqS S S') (g : eqS S' S'') : eqS S S'' := ⟨fun k hk => (g.1 k hk).trans (h.1 k hk), g.2.1.trans h.2.1, fun a ha => (g.2.2 a ha).trans (h.2.2 a ha)⟩
theorem eqT.tr {T T' T'' : St} (h : eqT T T') (g : eqT T' T'') : eqT T T'' := ⟨g.1.trans h.1, g.2.1.trans h.2.1, fun a ha => (g.2.2.1 a ha).trans (h.2.2.1 a ha), fun j hj => (g.2.2.2 j hj).trans (h.2.2.2 j hj)⟩
theorem eqT_sA {T : St} {j : Nat} {v : Int32} (hj : 20 ≤ j) : eqT T (sA T 16 j v) := ⟨rfl, rfl, fun a ha => by funext i; rw [sA_2, if_neg ha], fun i hi => by rw [sA_2, if_pos rfl, if_neg (by omega)]⟩
theorem eqS_sS {S : St} {k : Nat} {v : Int32} (hk : 29 ≤ k ∧ k ≤ 36) : eqS S (sS S k v) := ⟨fun j hj => by rw [sS_1, if_neg (fun q => hj (by omega))], rfl, fun _ _ => rfl⟩
theorem eqS_sA {S : St} {i : Nat} {v : Int32} : eqS S (sA S 31 i v) := ⟨fun _ _ => rfl, rfl, fun a ha => by funext j; rw [sA_2, if_neg ha]⟩
theorem Txt.eqS {b : Nat → Int32} {N : Nat} {S S' : St} (h : Txt b N S) (q : eqS S S') : Txt b N S' := ⟨h.1, by rw [q.1 7 (by omega)]; exact h.2.1, fun i hi => by rw [q.2.2 11 (by omega)]; exact h.2.2 i hi⟩
theorem TxM.eqT {b : Nat → Int32} {N : Nat} {T T' : St} (h : TxM b N T) (q : eqT T T') : TxM b N T' := ⟨h.1, by rw [q.1]; exact h.2.1, fun i hi => by rw [q.2.2.1 19 (by omega)]; exact h.2.2 i hi⟩
def endE (n : Nat) (U : St) : Option (Int32 × St) := ob (fX11_blanks n U) fun S44 => if (S44.1 22) = (S44.1 21) then (some ((0 : Int32), S44)) else (if (S44.1 22) < 0 ∨ 400 ≤ Int32.toNatClampNeg (S44.1 22) then none else if (S44.2.1 19 (Int32.toNatClampNeg (S44.1 22))) = 59 then (lt_ (sS S44 22 ((S44.1 22) + 1)) fun S48 => some (1, S48)) else (some (0, S44)))
def tlX (n : Nat) (S0 : St) (lo hi : Int32) (R : St → Int32 → Option St) : Option (Int32 × St) := ob (fX5_nextToken n S0) fun S5 => ob (fX5_number n S5 lo hi) fun r7 => if r7 = (-1) then (some ((0 : Int32), S5)) else (ob (fX5_nextToken n S5) fun S10 => ob (fX5_spells n S10 1) fun r11 => if r11 = 0 then (some (0, S10)) else (ob (R S10 r7) fun S14 => some (1, S14)))
def tlM (n : Nat) (T0 : St) (lo hi : Int32) (M2 : St → Option (Int32 × St)) : Option (Int32 × St) := ob (fX11_takesNumber n T0 lo hi) fun q39 => lt_ q39.1 fun r37 => lt_ q39.2 fun S38 => if r37 = 0 then (some ((0 : Int32), S38)) else M2 S38
/-- how both sides come out of a statement -/
def Outc (N c : Nat) (S T : St) (rx rm : Option (Int32 × St)) : Prop := (∃ q e' T' w' v', rx = some (0, cx S (nI q) e') ∧ rm = some (0, ct T' (nI q) w' v') ∧ q ≤ N ∧ eqT T T') ∨ ∃ S' q s' T' w' v', rx = some (1, cx S' s' (nI q)) ∧ rm = some (1, ct T' (nI q) w' v') ∧ q ≤ N ∧ eqS S S' ∧ eqT T T' ∧ Dw (c + 1) S' T'
theorem num_tke {b : Nat → Int32} {N s lo hi V : Nat} (hs : s ≤ N) (h : numF b N s lo hi = some V) : tke b N s = skN isDi b N s := by
  unfold numF at h
  split at h
  · rename_i c
    obtain ⟨d1, d2, d3, d4⟩ := skN_spec (P := isDi) (b := b) (N - s) s rfl hs
    have hd := d3 s (Nat.le_refl _) (by omega)
    have hlt : s < N := by omega
    obtain ⟨x, x1, x2, ex⟩ := isDi_n hd
    unfold tke
    rw [if_pos hlt, if_neg (fun q => by
      rw [ex] at q
      have := (nI_eq (b := 59) (by omega) (by omega)).mp q
      omega)]
    cases hq : isLe (b s)
    · rfl
    · obtain ⟨y, y1, y2, ey⟩ := isLe_n hq
      rw [ex] at ey
      have := (nI_eq (by omega) (by omega)).mp ey
      omega
  · cases h
theorem spl1_tke {b : Nat → Int32} {N s : Nat} (h : splB b s (tke b N s) 1 = true) : tke b N s = s + 1 := by
  unfold splB at h
  rw [Bool.and_eq_true] at h
  exact of_decide_eq_true h.1
theorem tail {b : Nat → Int32} {N n a lo hi c : Nat} {S T : St} {x w v : Int32} {R : St → Int32 → Option St} {M2 : St → Option (Int32 × St)} {UM : Nat → St} (hn : 5000 ≤ n) (ht : Txt b N S) (htm : TxM b N T) (ha : a ≤ N) (hlo : lo < 10000) (hhi : hi < 10000) (hX : ∀ V e1 e2, lo ≤ V → V ≤ hi → ∃ S', R (cx S e1 e2) (nI V) = some (cx S' e1 e2) ∧ eqS S S' ∧ Dw (c + 1) S' (UM V)) (hU : ∀ V, lo ≤ V → V ≤ hi → eqT T (UM V)) (hM : ∀ V z w', lo ≤ V → V ≤ hi → M2 (ct T z w' (nI V)) = endE n (ct (UM V) z w' (nI V))) : Outc N c S T (tlX n (cx S x (nI a)) (nI lo) (nI hi) R) (tlM n (ct T (nI a) w v) (nI lo) (nI hi) M2) := by
  have hl := skN_le (P := isBl) (b := b) ha
  unfold tlX tlM
  rw [tokX hn ht ha, ob_s, numX hn ht hl.2 hlo hhi, ob_s]
  rcases tknM (w := w) (v := v) hn htm ha hlo hhi with ⟨V, e1, e2, e3, e4⟩ | ⟨e1, v', e4⟩
  · have hk := num_tke hl.2 e1
    have hd := skN_le (P := isDi) (b := b) hl.2
    have h2 := skN_le (P := isBl) (b := b) hd.2
    rw [e1, e4, hk, ob_s]
    simp only [lt_]
    rw [if_neg (show ¬ encN (some V) = -1 from fun q => nI_pos (show V < 2 ^ 31 by omega) (by rw [show nI V = -1 from q]; decide)), if_neg (show ¬ (1 : Int32) = 0 by decide), tokX hn ht hd.2, ob_s, hM V _ _ e2 e3]
    have htl := tke_le (b := b) h2.2
    rw [splX hn ht htl.1 htl.2, ob_s]
    unfold endE
    rw [endM hn (htm.eqT (hU V e2 e3)) hd.2]
    cases hsp : splB b (skN isBl b N (skN isDi b N (skN isBl b N a))) (tke b N (skN isBl b N (skN isDi b N (skN isBl b N a)))) 1
    · left
      exact ⟨_, _, UM V, _, _, rfl, rfl, h2.2, hU V e2 e3⟩
    · right
      obtain ⟨S', r1, r2, r3⟩ := hX V (nI (skN isBl b N (skN isDi b N (skN isBl b N a)))) (nI (tke b N (skN isBl b N (skN isDi b N (skN isBl b N a))))) e2 e3
      have hq := spl1_tke hsp
      simp only [if_true]
      rw [if_neg (show ¬ (1 : Int32) = 0 by decide), show encN (some V) = nI V from rfl, r1, ob_s, hq]
      exact ⟨S', _, _, UM V, _, _, rfl, rfl, by omega, r2, hU V e2 e3, r3⟩
  · left
    rw [e1, e4, ob_s]
    exact ⟨_, _, T, _, _, rfl, rfl, hl.2, eqT.rf T⟩
/-! what a statement rules -/
theorem dw_simple {c : Nat} {S T : St} (hD : Dw c S T) {k j : Nat} {V : Nat} (hkj : (k = 29 ∧ j = 20) ∨ (k = 30 ∧ j = 21) ∨ (k = 31 ∧ j = 22) ∨ (k = 33 ∧ j = 23) ∨ (k = 34 ∧ j = 24 ∧ 1 ≤ V ∧ V ≤ 40) ∨ (k = 35 ∧ j = 25)) : Dw (c + 1) (sS (sS S k (nI V)) 36 (S.1 36 + 1)) (sA T 16 j (nI V)) := by
  obtain ⟨d1, d2, d3, d4, d5, d6, d7, d8, d9, y, y1, y2, y3⟩ := hD
  have e7 : S.1 36 + 1 = nI (c + 1) := by rw [d7, nI_1]
  have hk : k < 36 ∧ ¬ k = 32 := by omega
  have hj : j < 26 := by omega
  refine ⟨?_, ?_, ?_, ?_, ?_, ?_, ?_, fun i hi => ?_, fun i hi => ?_, ?_⟩
  · rw [sS_1, if_neg (by omega), sS_1, sA_2, if_pos rfl, d1]
    by_cases e : 29 = k
    · rw [if_pos e, if_pos (by omega)]
    · rw [if_neg e, if_neg (by omega)]
  · rw [sS_1, if_neg (by omega), sS_1, sA_2, if_pos rfl, d2]
    by_cases e : 30 = k
    · rw [if_pos e, if_pos (by omega)]
    · rw [if_neg e, if_neg (by omega)]
  · rw [sS_1, if_neg (by omega), sS_1, sA_2, if_pos rfl, d3]
    by_cases e : 31 = k
    · rw [if_pos e, if_pos (by omega)]
    · rw [if_neg e, if_neg (by omega)]
  · rw [sS_1, if_neg (by omega), sS_1, sA_2, if_pos rfl, d4]
    by_cases e : 33 = k
    · rw [if_pos e, if_pos (by omega)]
    · rw [if_neg e, if_neg (by omega)]
  · rw [sS_1, if_neg (by omega), sS_1, sA_2, if_pos rfl, d5]
    by_cases e : 34 = k
    · rw [if_pos e, if_pos (by omega)]
    · rw [if_neg e, if_neg (by omega)]
  · rw [sS_1, if_neg (by omega), sS_1, sA_2, if_pos rfl, d6]
    by_cases e : 35 = k
    · rw [if_pos e, if_pos (by omega)]
    · rw [if_neg e, if_neg (by omega)]
  · rw [sS_1, if_pos rfl, e7]
  · rw [sS_2, sS_2, sA_2, if_pos rfl, if_neg (by omega)]; exact d8 i hi
  · rw [sS_1, if_neg (by omega), sS_1, if_neg (by omega), sA_2, if_pos rfl, if_neg (by omega)]; exact d9 i hi
  · rw [sA_2, if_pos rfl]
    by_cases e : 24 = j
    · rw [if_pos e]
      exact ⟨V, by omega, by omega, rfl⟩
    · rw [if_neg e]
      exact ⟨y, y1, y2, y3⟩
theorem eqS_two {S : St} {k : Nat} {v v' : Int32} (hk : 29 ≤ k ∧ k ≤ 36) : eqS S (sS (sS S k v) 36 v') := (eqS_sS hk).tr (eqS_sS (by omega))
theorem dw_ex {c : Nat} {S T : St} (hD : Dw c S T) {V : Nat} (hV : V < 10) : Dw (c + 1) (sS (sS S 32 (S.1 32 ||| ((1 : Int32) <<< (nI V &&& 31)))) 36 (S.1 36 + 1)) (sA T 16 (30 + V) 1) := by
  obtain ⟨d1, d2, d3, d4, d5, d6, d7, d8, d9, y, y1, y2, y3⟩ := hD
  have e7 : S.1 36 + 1 = nI (c + 1) := by rw [d7, nI_1]
  have hT : ∀ j, ¬ j = 30 + V → (sA T 16 (30 + V) 1).2.1 16 j = T.2.1 16 j := fun j hj => by rw [sA_2, if_pos rfl, if_neg hj]
  have hS : ∀ k v, ¬ k = 32 → ¬ k = 36 → (sS (sS S 32 v) 36 (S.1 36 + 1)).1 k = S.1 k := fun k v h1 h2 => by rw [sS_1, if_neg h2, sS_1, if_neg h1]
  refine ⟨?_, ?_, ?_, ?_, ?_, ?_, ?_, fun i hi => ?_, fun i hi => ?_, ?_⟩
  · rw [hS _ _ (by omega) (by omega), hT _ (by omega)]; exact d1
  · rw [hS _ _ (by omega) (by omega), hT _ (by omega)]; exact d2
  · rw [hS _ _ (by omega) (by omega), hT _ (by omega)]; exact d3
  · rw [hS _ _ (by omega) (by omega), hT _ (by omega)]; exact d4
  · rw [hS _ _ (by omega) (by omega), hT _ (by omega)]; exact d5
  · rw [hS _ _ (by omega) (by omega), hT _ (by omega)]; exact d6
  · rw [sS_1, if_pos rfl, e7]
  · rw [sS_2, sS_2, hT _ (by omega)]; exact d8 i hi
  · rw [sS_1, if_neg (by omega), sS_1, if_pos rfl, orI _ (show i < 32 by omega) (show V < 32 by omega)]
    by_cases e : i = V
    · left
      rw [decide_eq_true e, Bool.or_true, sA_2, if_pos rfl, if_pos (by omega)]
      exact ⟨rfl, rfl⟩
    · rw [decide_eq_false e, Bool.or_false, hT _ (by omega)]; exact d9 i hi
  · rw [hT _ (by omega)]; exact ⟨y, y1, y2, y3⟩
theorem dw_no {c : Nat} {S T : St} (hD : Dw c S T) : Dw (c + 1) (sS S 36 (S.1 36 + 1)) T := by
  obtain ⟨d1, d2, d3, d4, d5, d6, d7, d8, d9, d10⟩ := hD
  exact ⟨d1, d2, d3, d4, d5, d6, by rw [sS_1, if_pos rfl, d7, nI_1], d8, d9, d10⟩
theorem dw_so {c : Nat} {S T : St} (hD : Dw c S T) {q : Nat} {v : Int32} (hq : q < 4) : Dw (c + 1) (sS (sA S 31 q v) 36 (S.1 36 + 1)) (sA T 16 (26 + q) v) := by
  obtain ⟨d1, d2, d3, d4, d5, d6, d7, d8, d9, y, y1, y2, y3⟩ := hD
  have hT : ∀ j, ¬ j = 26 + q → (sA T 16 (26 + q) v).2.1 16 j = T.2.1 16 j := fun j hj => by rw [sA_2, if_pos rfl, if_neg hj]
  have hS : ∀ k, ¬ k = 36 → (sS (sA S 31 q v) 36 (S.1 36 + 1)).1 k = S.1 k := fun k h2 => by rw [sS_1, if_neg h2, sA_1]
  refine ⟨?_, ?_, ?_, ?_, ?_, ?_, ?_, fun i hi => ?_, fun i hi => ?_, ?_⟩
  · rw [hS _ (by omega), hT _ (by omega)]; exact d1
  · rw [hS _ (by omega), hT _ (by omega)]; exact d2
  · rw [hS _ (by omega), hT _ (by omega)]; exact d3
  · rw [hS _ (by omega), hT _ (by omega)]; exact d4
  · rw [hS _ (by omega), hT _ (by omega)]; exact d5
  · rw [hS _ (by omega), hT _ (by omega)]; exact d6
  · rw [sS_1, if_pos rfl, d7, nI_1]
  · rw [sS_2, sA_2, if_pos rfl, sA_2, if_pos rfl]
    by_cases e : i = q
    · rw [if_pos e, if_pos (by omega)]
    · rw [if_neg e, if_neg (by omega)]; exact d8 i hi
  · rw [hS _ (by omega), hT _ (by omega)]; exact d9 i hi
  · rw [hT _ (by omega)]; exact ⟨y, y1, y2, y3⟩
/-! keywords -/
theorem obD {P : Prop} [Decidable P] {x y : Option Int32} : (ob (some (if decide P then (1 : Int32) else 0)) fun r => if r = 0 then x else y) = if P then y else x := by
  by_cases c : P
  · rw [decide_eq_true c, if_pos c]; rfl
  · rw [decide_eq_false c, if_neg c]; rfl
theorem kcs : dval (kch 0) (lenT.getD 0 0) = 26995 ∧ dval (kch 2) (lenT.getD 2 0) = 27977526159175271 ∧ dval (kch 3) (lenT.getD 3 0) = 112568633486457 ∧ dval (kch 4) (lenT.getD 4 0) = 6578553 ∧ dval (kch 5) (lenT.getD 5 0) = 111567772151924 ∧ dval (kch 6) (lenT.getD 6 0) = 1936681324 ∧ dval (kch 7) (lenT.getD 7 0) = 482955846501 ∧ dval (kch 8) (lenT.getD 8 0) = 521391927923 ∧ dval (kch 9) (lenT.getD 9 0) = 126892148680051 := by decide +kernel
def kind (W : Nat) : Int32 := if W = 27977526159175271 then 0 else if W = 112568633486457 then 1 else if W = 6578553 then 2 else if W = 111567772151924 then 3 else if W = 1936681324 then 4 else if W = 482955846501 then 5 else if W = 521391927923 then 6 else if W = 126892148680051 then 7 else -1
theorem keyX {b : Nat → Int32} {N n s : Nat} {S : St} (hn : 5000 ≤ n) (ht : Txt b N S) (hs : s ≤ N) : fX5_keyword n (cx S (nI s) (nI (tke b N s))) = some (kind (wdv b N s)) := by
  obtain ⟨h1, h2⟩ := tke_le (b := b) hs
  obtain ⟨k0, k2, k3, k4, k5, k6, k7, k8, k9⟩ := kcs
  have sp : ∀ w, w < 10 → w ≠ 1 → fX5_spells n (cx S (nI s) (nI (tke b N s))) w = some (if decide (wdv b N s = dval (kch w) (lenT.getD w 0)) then 1 else 0) := fun w hw hw1 => by rw [splX hn ht h1 h2, kw_eq hs hw hw1]
  have s2 := sp 2 (by omega) (by omega)
  have s3 := sp 3 (by omega) (by omega)
  have s4 := sp 4 (by omega) (by omega)
  have s5 := sp 5 (by omega) (by omega)
  have s6 := sp 6 (by omega) (by omega)
  have s7 := sp 7 (by omega) (by omega)
  have s8 := sp 8 (by omega) (by omega)
  have s9 := sp 9 (by omega) (by omega)
  rw [k2] at s2
  rw [k3] at s3
  rw [k4] at s4
  rw [k5] at s5
  rw [k6] at s6
  rw [k7] at s7
  rw [k8] at s8
  rw [k9] at s9
  unfold fX5_keyword kind
  rw [s2, s3, s4, s5, s6, s7, s8, s9]
  generalize wdv b N s = W
  clear s2 s3 s4 s5 s6 s7 s8 s9 sp
  rw [obD]
  by_cases c : W = 27977526159175271
  · rw [if_pos c, if_pos c]
  rw [if_neg c, if_neg c, obD]
  by_cases c : W = 112568633486457
  · rw [if_pos c, if_pos c]
  rw [if_neg c, if_neg c, obD]
  by_cases c : W = 6578553
  · rw [if_pos c, if_pos c]
  rw [if_neg c, if_neg c, obD]
  by_cases c : W = 111567772151924
  · rw [if_pos c, if_pos c]
  rw [if_neg c, if_neg c, obD]
  by_cases c : W = 1936681324
  · rw [if_pos c, if_pos c]
  rw [if_neg c, if_neg c, obD]
  by_cases c : W = 482955846501
  · rw [if_pos c, if_pos c]
  rw [if_neg c, if_neg c, obD]
  by_cases c : W = 521391927923
  · rw [if_pos c, if_pos c]
  rw [if_neg c, if_neg c, obD]
  by_cases c : W = 126892148680051
  · rw [if_pos c, if_pos c]
  rw [if_neg c, if_neg c]
theorem wdv_tke {b : Nat → Int32} {N s : Nat} (h : ¬ wdv b N s = 0) : tke b N s = skN isLe b N s := by
  by_cases hc : s < N ∧ isLe (b s) = true
  · unfold tke
    rw [if_pos hc.1, if_neg (fun q => by rw [q] at hc; exact absurd hc.2 (by decide)), if_pos hc.2]
  · have hsk : skN isLe b N s = s := by
      rcases Nat.lt_or_ge s N with q | q
      · rw [skN_s q]
        cases hq : isLe (b s)
        · rfl
        · exact absurd ⟨q, hq⟩ hc
      · exact skN_e q
    exact absurd (show wdv b N s = 0 by unfold wdv; rw [hsk, Nat.sub_self, if_pos (by omega)]; rfl) h
