/-! the same text, as the reference reads it -/
def ct (T : St) (a w v : Int32) : St := (fun k => if k = 22 then a else if k = 24 then w else if k = 25 then v else T.1 k, T.2)
theorem ct_22 (T : St) (a w v : Int32) : (ct T a w v).1 22 = a := rfl
theorem ct_24 (T : St) (a w v : Int32) : (ct T a w v).1 24 = w := rfl
theorem ct_25 (T : St) (a w v : Int32) : (ct T a w v).1 25 = v := rfl
theorem ct_o (T : St) (a w v : Int32) {k : Nat} (h : ¬ k = 22) (h' : ¬ k = 24) (h'' : ¬ k = 25) : (ct T a w v).1 k = T.1 k := by
  show (if k = 22 then a else if k = 24 then w else if k = 25 then v else T.1 k) = _
  rw [if_neg h, if_neg h', if_neg h'']
theorem ct_2 (T : St) (a w v : Int32) : (ct T a w v).2 = T.2 := rfl
theorem ct_s22 (T : St) (a w v x : Int32) : sS (ct T a w v) 22 x = ct T x w v := by
  apply Prod.ext
  · funext k
    show (if k = 22 then x else if k = 22 then a else if k = 24 then w else if k = 25 then v else T.1 k) = (if k = 22 then x else if k = 24 then w else if k = 25 then v else T.1 k)
    split <;> rfl
  · rfl
theorem ct_s24 (T : St) (a w v x : Int32) : sS (ct T a w v) 24 x = ct T a x v := by
  apply Prod.ext
  · funext k
    show (if k = 24 then x else if k = 22 then a else if k = 24 then w else if k = 25 then v else T.1 k) = (if k = 22 then a else if k = 24 then x else if k = 25 then v else T.1 k)
    by_cases c : k = 24
    · rw [if_pos c, if_neg (by omega), if_pos c]
    · rw [if_neg c, if_neg c, if_neg c]
  · rfl
theorem ct_s25 (T : St) (a w v x : Int32) : sS (ct T a w v) 25 x = ct T a w x := by
  apply Prod.ext
  · funext k
    show (if k = 25 then x else if k = 22 then a else if k = 24 then w else if k = 25 then v else T.1 k) = (if k = 22 then a else if k = 24 then w else if k = 25 then x else T.1 k)
    by_cases c : k = 25
    · rw [if_pos c, if_neg (by omega), if_neg (by omega), if_pos c]
    · rw [if_neg c, if_neg c, if_neg c]
  · rfl
theorem ct_sA (T : St) (a w v : Int32) {c i : Nat} {x : Int32} : sA (ct T a w v) c i x = ct (sA T c i x) a w v := rfl
theorem ct_self (T : St) : ct T (T.1 22) (T.1 24) (T.1 25) = T := by
  apply Prod.ext
  · funext k
    show (if k = 22 then T.1 22 else if k = 24 then T.1 24 else if k = 25 then T.1 25 else T.1 k) = T.1 k
    split
    · rename_i h; rw [h]
    · split
      · rename_i h; rw [h]
      · split
        · rename_i h; rw [h]
        · rfl
  · rfl
def TxM (b : Nat → Int32) (N : Nat) (T : St) : Prop := N ≤ 400 ∧ T.1 21 = nI N ∧ ∀ i, i < N → T.2.1 19 i = b i
theorem blaL {b : Nat → Int32} {N n : Nat} {T : St} {w v : Int32} (ht : TxM b N T) : ∀ (dd p fu : Nat), p + dd = N → dd < fu → fX11_blanks_L0 n (fun S8 => some S8) fu (ct T (nI p) w v) = some (ct T (nI (skN isBl b N p)) w v) := by
  obtain ⟨t1, t2, t3⟩ := ht
  intro dd
  induction dd with
  | zero =>
    intro p fu hp hfu
    obtain ⟨fu, rfl⟩ : ∃ g, fu = g + 1 := ⟨fu - 1, by omega⟩
    rw [fX11_blanks_L0, ct_22, show (ct T (nI p) w v).1 21 = nI N from t2, if_pos (nI_le (show N ≤ p by omega) (by omega)), skN_e (by omega)]
  | succ dd ihd =>
    intro p fu hp hfu
    obtain ⟨fu, rfl⟩ : ∃ g, fu = g + 1 := ⟨fu - 1, by omega⟩
    have h := ihd (p + 1) fu (by omega) (by omega)
    rw [fX11_blanks_L0, ct_22, show (ct T (nI p) w v).1 21 = nI N from t2, if_neg (nI_ge (show p < N by omega) (by omega)), ig (show p < 400 by omega) (by omega), ig (show p < 400 by omega) (by omega), cl (by omega), ct_2, t3 p (by omega), nI_1, ct_s22, skN_s (show p < N by omega)]
    simp only [lt_]
    rw [show isBl (b p) = (decide (b p = 32) || decide (b p = 10)) from rfl]
    by_cases c : b p = 32
    · rw [if_pos c, decide_eq_true c, Bool.true_or, if_pos rfl, h]
    · rw [if_neg c, decide_eq_false c, Bool.false_or]
      by_cases c2 : b p = 10
      · rw [if_pos c2, decide_eq_true c2, if_pos rfl, h]
      · rw [if_neg c2, decide_eq_false c2]; rfl
theorem blaM {b : Nat → Int32} {N n a : Nat} {T : St} {w v : Int32} (hn : 5000 ≤ n) (ht : TxM b N T) (ha : a ≤ N) : fX11_blanks n (ct T (nI a) w v) = some (ct T (nI (skN isBl b N a)) w v) := blaL ht (N - a) a n (by omega) (by have := ht.1; omega)
def dval (f : Nat → Nat) : Nat → Nat
  | 0 => 0
  | i + 1 => 256 * dval f i + f i
theorem dval_lt {f : Nat → Nat} : ∀ l, (∀ i, i < l → f i < 256) → dval f l < 256 ^ l := by
  intro l
  induction l with
  | zero => intro _; exact Nat.zero_lt_one
  | succ l ihl =>
    intro h
    have h1 := ihl (fun i hi => h i (by omega))
    have h2 := h l (by omega)
    rw [dval, Nat.pow_succ]; omega
theorem dval_cg {f g : Nat → Nat} : ∀ l, (∀ i, i < l → f i = g i) → dval f l = dval g l := by
  intro l
  induction l with
  | zero => intro _; rfl
  | succ l ihl => intro h; rw [dval, dval, ihl (fun i hi => h i (by omega)), h l (by omega)]
theorem dval_inj {f g : Nat → Nat} : ∀ l l', (∀ i, i < l → 1 ≤ f i ∧ f i < 256) → (∀ i, i < l' → 1 ≤ g i ∧ g i < 256) → dval f l = dval g l' → l = l' ∧ ∀ i, i < l → f i = g i := by
  intro l
  induction l with
  | zero =>
    intro l' _ hg e
    cases l' with
    | zero => exact ⟨rfl, fun i hi => by omega⟩
    | succ l' => have := hg l' (by omega); rw [dval, dval] at e; omega
  | succ l ihl =>
    intro l' hf hg e
    have h1 := hf l (by omega)
    cases l' with
    | zero => rw [dval, dval] at e; omega
    | succ l' =>
      have h2 := hg l' (by omega)
      rw [dval, dval] at e
      obtain ⟨e1, e2⟩ := ihl l' (fun i hi => hf i (by omega)) (fun i hi => hg i (by omega)) (by omega)
      subst e1
      refine ⟨rfl, fun i hi => ?_⟩
      by_cases q : i = l
      · rw [q]; omega
      · exact e2 i (by omega)
theorem wsh {x c : Nat} (hx : x < 2 ^ 48) (hc : c < 256) : (lN x <<< (Int32.toInt64 8 &&& 63)) ||| Int32.toInt64 (nI c) = lN (256 * x + c) := by
  rw [nI_l (show c < 2 ^ 31 by omega)]
  apply wb_inj
  rw [Int64.toBitVec_or, Int64.toBitVec_shiftLeft, show (Int32.toInt64 8 &&& 63) = lN 8 from wb_c 8 (by omega), wb_tb, wb_tb, wb_tb, wb_tb, wb_sm 8 (by omega)]
  apply BitVec.eq_of_toNat_eq
  rw [BitVec.toNat_or]
  show (BitVec.ofNat 64 x <<< (BitVec.ofNat 64 8).toNat).toNat ||| _ = _
  rw [BitVec.toNat_shiftLeft, BitVec.toNat_ofNat, BitVec.toNat_ofNat, BitVec.toNat_ofNat, BitVec.toNat_ofNat]
  have e8 : 8 % 2 ^ 64 = 8 := by decide
  have ex : x % 2 ^ 64 = x := Nat.mod_eq_of_lt (by omega)
  have ec : c % 2 ^ 64 = c := Nat.mod_eq_of_lt (by omega)
  have es : x <<< 8 % 2 ^ 64 = x <<< 8 := Nat.mod_eq_of_lt (by rw [Nat.shiftLeft_eq]; omega)
  have ef : (256 * x + c) % 2 ^ 64 = 256 * x + c := Nat.mod_eq_of_lt (by omega)
  rw [e8, ex, ec, es, ef, ← Nat.shiftLeft_add_eq_or_of_lt (show c < 2 ^ 8 by omega) x, Nat.shiftLeft_eq]
  omega
def wch (b : Nat → Int32) (s i : Nat) : Nat := (b (s + i)).toNatClampNeg
/-- the word at s, as one number -/
def wdv (b : Nat → Int32) (N s : Nat) : Nat := if skN isLe b N s - s ≤ 7 then dval (wch b s) (skN isLe b N s - s) else 0
theorem worL {b : Nat → Int32} {N n s : Nat} {T : St} {v : Int32} {K : Int64 → St → Option (Int64 × St)} (ht : TxM b N T) : ∀ (dd i fu : Nat), s + i + dd = N → dd < fu → (∀ j, j < i → isLe (b (s + j)) = true) → ∃ i', s + i' = skN isLe b N (s + i) ∧ i ≤ i' ∧ (∀ j, j < i' → isLe (b (s + j)) = true) ∧ fX11_word_L14 n K fu (if i ≤ 7 then lN (dval (wch b s) i) else 0) (ct T (nI s) (nI (s + i)) v) = K (if i' ≤ 7 then lN (dval (wch b s) i') else 0) (ct T (nI s) (nI (s + i')) v) := by
  obtain ⟨t1, t2, t3⟩ := ht
  intro dd
  induction dd with
  | zero =>
    intro i fu hi hfu hl
    obtain ⟨fu, rfl⟩ : ∃ g, fu = g + 1 := ⟨fu - 1, by omega⟩
    refine ⟨i, by rw [skN_e (by omega)], Nat.le_refl _, hl, ?_⟩
    rw [fX11_word_L14, ct_24, show (ct T (nI s) (nI (s + i)) v).1 21 = nI N from t2, if_pos (nI_le (show N ≤ s + i by omega) (by omega))]
  | succ dd ihd =>
    intro i fu hi hfu hl
    obtain ⟨fu, rfl⟩ : ∃ g, fu = g + 1 := ⟨fu - 1, by omega⟩
    rw [fX11_word_L14, ct_24, ct_22, show (ct T (nI s) (nI (s + i)) v).1 21 = nI N from t2, if_neg (nI_ge (show s + i < N by omega) (by omega))]
    simp only [lt_, ih (show s + i < 400 by omega) (show 400 < 2 ^ 31 by omega), cl (show s + i < 2 ^ 31 by omega), ct_2, t3 (s + i) (by omega), nI_1, ct_s24]
    rw [pk_sub (show s ≤ s + i by omega), Nat.add_sub_cancel_left, skN_s (show s + i < N by omega)]
    cases hb : isLe (b (s + i))
    · have hstop : ∀ (x y : Option (Int64 × St)), (if b (s + i) < 97 then x else if 122 < b (s + i) then x else y) = x := by
        intro x y
        unfold isLe at hb
        by_cases c : b (s + i) < 97
        · rw [if_pos c]
        · rw [if_neg c]
          rw [decide_eq_false c] at hb
          by_cases c2 : 122 < b (s + i)
          · rw [if_pos c2]
          · rw [decide_eq_false c2] at hb; cases hb
      refine ⟨i, rfl, Nat.le_refl _, hl, ?_⟩
      rw [hstop]
    · obtain ⟨c, c1, c2, ec⟩ := isLe_n hb
      have hl' : ∀ j, j < i + 1 → isLe (b (s + j)) = true := fun j hj => by
        by_cases e : j = i
        · rw [e]; exact hb
        · exact hl j (by omega)
      obtain ⟨i', a1, a2, a3, a4⟩ := ihd (i + 1) fu (by omega) (by omega) hl'
      refine ⟨i', a1, by omega, a3, ?_⟩
      rw [ec, if_neg (show ¬ nI c < 97 from nI_nlt (b := 97) c1 (by omega)), if_neg (show ¬ (122 : Int32) < nI c from Int32.not_lt.mpr (nI_le (b := 122) c2 (by omega))), ← a4]
      rcases Nat.lt_or_ge i 7 with q | q
      · rw [if_neg (show ¬ (7 : Int32) ≤ nI i from nI_ge (b := 7) q (by omega)), if_pos (by omega), if_pos (by omega)]
        have hd := dval_lt (f := wch b s) i (fun j hj => by
          obtain ⟨c', d1, d2, ed⟩ := isLe_n (hl j hj)
          unfold wch; rw [ed, cl (by omega)]; omega)
        have hp : 256 ^ i ≤ 256 ^ 6 := Nat.pow_le_pow_right (by omega) (by omega)
        have hp6 : (256 : Nat) ^ 6 = 2 ^ 48 := by decide
        rw [wsh (by omega) (by omega), dval, show wch b s i = c by unfold wch; rw [ec, cl (by omega)], Nat.add_assoc]
      · rw [if_pos (show (7 : Int32) ≤ nI i from nI_le (a := 7) q (by omega)), if_neg (by omega), Nat.add_assoc]
theorem worM {b : Nat → Int32} {N n a : Nat} {T : St} {w v : Int32} (hn : 5000 ≤ n) (ht : TxM b N T) (ha : a ≤ N) : fX11_word n (ct T (nI a) w v) = some (lN (wdv b N (skN isBl b N a)), ct T (nI (skN isBl b N a)) (nI (skN isLe b N (skN isBl b N a))) v) := by
  have hl := skN_le (P := isBl) (b := b) ha
  have h400 := ht.1
  unfold fX11_word
  rw [blaM hn ht ha, ob_s]
  simp only [lt_]
  rw [ct_22, ct_s24]
  generalize skN isBl b N a = s at *
  obtain ⟨i', a1, a2, a3, a4⟩ := worL (n := n) (s := s) (v := v) (K := fun x14 S15 => if ((S15.1 24) - (S15.1 22)) ≤ 7 then (some (x14, S15)) else (some (0, S15))) ht (N - s) 0 n (by omega) (by omega) (fun j hj => by omega)
  rw [Nat.add_zero] at a1
  have a4' : fX11_word_L14 n (fun x14 S15 => if ((S15.1 24) - (S15.1 22)) ≤ 7 then (some (x14, S15)) else (some (0, S15))) n 0 (ct T (nI s) (nI s) v) = _ := a4
  rw [a4', ct_24, ct_22, pk_sub (by omega), Nat.add_sub_cancel_left, a1]
  unfold wdv
  rw [← a1, Nat.add_sub_cancel_left]
  have hle := skN_le (P := isLe) (b := b) hl.2
  rcases Nat.lt_or_ge 7 i' with q | q
  · rw [if_neg (show ¬ nI i' ≤ 7 from nI_ge (a := 7) q (by omega)), if_neg (by omega)]
    rfl
  · rw [if_pos (show nI i' ≤ 7 from nI_le (b := 7) q (by omega)), if_pos q, if_pos q]
theorem wdv_lt {b : Nat → Int32} {N s : Nat} (hs : s ≤ N) : wdv b N s < 2 ^ 63 := by
  unfold wdv
  obtain ⟨d1, d2, d3, d4⟩ := skN_spec (P := isLe) (b := b) (N - s) s rfl hs
  split
  · rename_i q
    have hd := dval_lt (f := wch b s) (skN isLe b N s - s) (fun j hj => by
      obtain ⟨c', e1, e2, ed⟩ := isLe_n (d3 (s + j) (by omega) (by omega))
      unfold wch; rw [ed, cl (by omega)]; omega)
    have hp : 256 ^ (skN isLe b N s - s) ≤ 256 ^ 7 := Nat.pow_le_pow_right (by omega) q
    have hp7 : (256 : Nat) ^ 7 < 2 ^ 63 := by decide
    omega
  · decide
theorem takM {b : Nat → Int32} {N n a C : Nat} {T : St} {w v : Int32} (hn : 5000 ≤ n) (ht : TxM b N T) (ha : a ≤ N) (hC : C < 2 ^ 63) : fX11_takes n (ct T (nI a) w v) (lN C) = if wdv b N (skN isBl b N a) = C then some (1, ct T (nI (skN isLe b N (skN isBl b N a))) (nI (skN isLe b N (skN isBl b N a))) v) else some (0, ct T (nI (skN isBl b N a)) (nI (skN isLe b N (skN isBl b N a))) v) := by
  have hl := skN_le (P := isBl) (b := b) ha
  unfold fX11_takes
  rw [worM hn ht ha, ob_s]
  simp only [lt_]
  by_cases c : wdv b N (skN isBl b N a) = C
  · rw [if_pos ((lg_cmp_eq _ _).mpr (by rw [c])), if_pos c, ct_24, ct_s22]
  · rw [if_neg (fun q => c ((pk_lEQ (wdv_lt hl.2) hC).mp ((lg_cmp_eq _ _).mp q))), if_neg c]
/-! numbers -/
theorem tknL {b : Nat → Int32} {N n s : Nat} {T : St} {w lo hi : Int32} {K : Int32 → St → Option (Int32 × St)} (ht : TxM b N T) : ∀ (dd i fu : Nat), s + i + dd = N → dd < fu → (∀ j, j < i → isDi (b (s + j)) = true) → ∃ i', s + i' = skN isDi b N (s + i) ∧ i ≤ i' ∧ fX11_takesNumber_L14 n lo hi K fu (nI (s + i)) (ct T (nI s) w (nI (dgv b s (if i ≤ 4 then i else 4)))) = K (nI (s + i')) (ct T (nI s) w (nI (dgv b s (if i' ≤ 4 then i' else 4)))) := by
  obtain ⟨t1, t2, t3⟩ := ht
  intro dd
  induction dd with
  | zero =>
    intro i fu hi hfu hl
    obtain ⟨fu, rfl⟩ : ∃ g, fu = g + 1 := ⟨fu - 1, by omega⟩
    refine ⟨i, by rw [skN_e (by omega)], Nat.le_refl _, ?_⟩
    rw [fX11_takesNumber_L14, show ∀ v, (ct T (nI s) w v).1 21 = nI N from fun v => t2, if_pos (nI_le (show N ≤ s + i by omega) (by omega))]
  | succ dd ihd =>
    intro i fu hi hfu hl
    obtain ⟨fu, rfl⟩ : ∃ g, fu = g + 1 := ⟨fu - 1, by omega⟩
    rw [fX11_takesNumber_L14, show ∀ v, (ct T (nI s) w v).1 21 = nI N from fun v => t2, if_neg (nI_ge (show s + i < N by omega) (by omega)), ct_22, ct_25]
    simp only [lt_, ih (show s + i < 400 by omega) (show 400 < 2 ^ 31 by omega), cl (show s + i < 2 ^ 31 by omega), ct_2, t3 (s + i) (by omega), nI_1, ct_s25]
    rw [pk_sub (show s ≤ s + i by omega), Nat.add_sub_cancel_left, skN_s (show s + i < N by omega)]
    cases hb : isDi (b (s + i))
    · have hstop : ∀ (x y : Option (Int32 × St)), (if b (s + i) < 48 then x else if 57 < b (s + i) then x else y) = x := by
        intro x y
        unfold isDi at hb
        by_cases c : b (s + i) < 48
        · rw [if_pos c]
        · rw [if_neg c]
          rw [decide_eq_false c] at hb
          by_cases c2 : 57 < b (s + i)
          · rw [if_pos c2]
          · rw [decide_eq_false c2] at hb; cases hb
      refine ⟨i, rfl, Nat.le_refl _, ?_⟩
      rw [hstop]
    · obtain ⟨c, c1, c2, ec⟩ := isDi_n hb
      have hl' : ∀ j, j < i + 1 → isDi (b (s + j)) = true := fun j hj => by
        by_cases e : j = i
        · rw [e]; exact hb
        · exact hl j (by omega)
      obtain ⟨i', a1, a2, a4⟩ := ihd (i + 1) fu (by omega) (by omega) hl'
      refine ⟨i', a1, by omega, ?_⟩
      rw [ec, if_neg (show ¬ nI c < 48 from nI_nlt (b := 48) c1 (by omega)), if_neg (show ¬ (57 : Int32) < nI c from Int32.not_lt.mpr (nI_le (b := 57) c2 (by omega))), ← a4]
      rcases Nat.lt_or_ge i 4 with q | q
      · rw [if_neg (show ¬ (4 : Int32) ≤ nI i from nI_ge (b := 4) q (by omega)), if_pos (show i ≤ 4 by omega), if_pos (show i + 1 ≤ 4 by omega), dgv, ec, cl (show c < 2 ^ 31 by omega), show ((10 : Int32) * nI (dgv b s i)) = nI (10 * dgv b s i) from pk_mul 10 _, nI_add, show nI (10 * dgv b s i + c) - 48 = nI (10 * dgv b s i + c - 48) from pk_sub (show 48 ≤ 10 * dgv b s i + c by omega), show 10 * dgv b s i + c - 48 = 10 * dgv b s i + (c - 48) by omega, Nat.add_assoc]
      · rw [if_pos (show (4 : Int32) ≤ nI i from nI_le (a := 4) q (by omega)), if_neg (show ¬ i + 1 ≤ 4 by omega), Nat.add_assoc]
        by_cases e4 : i = 4
        · rw [if_pos (by omega), e4]
        · rw [if_neg (by omega)]
theorem tknM {b : Nat → Int32} {N n a lo hi : Nat} {T : St} {w v : Int32} (hn : 5000 ≤ n) (ht : TxM b N T) (ha : a ≤ N) (hlo : lo < 10000) (hhi : hi < 10000) : (∃ V, numF b N (skN isBl b N a) lo hi = some V ∧ lo ≤ V ∧ V ≤ hi ∧ fX11_takesNumber n (ct T (nI a) w v) (nI lo) (nI hi) = some (1, ct T (nI (skN isDi b N (skN isBl b N a))) w (nI V))) ∨ (numF b N (skN isBl b N a) lo hi = none ∧ ∃ v', fX11_takesNumber n (ct T (nI a) w v) (nI lo) (nI hi) = some (0, ct T (nI (skN isBl b N a)) w v')) := by
  have hl := skN_le (P := isBl) (b := b) ha
  have h400 := ht.1
  unfold fX11_takesNumber
  rw [blaM hn ht ha, ob_s]
  simp only [lt_]
  rw [ct_22, ct_s25]
  generalize skN isBl b N a = s at *
  obtain ⟨i', a1, a2, a4⟩ := tknL (n := n) (s := s) (w := w) (lo := nI lo) (hi := nI hi) (K := fun x13 S14 => if x13 = (S14.1 22) then (some (0, S14)) else (if 4 < (x13 - (S14.1 22)) then (some (0, S14)) else (ob (fX11_isIn (S14.1 25) (nI lo) (nI hi)) fun r17 => if r17 = 0 then (some (0, S14)) else some (1, sS S14 22 x13)))) ht (N - s) 0 n (by omega) (by omega) (fun j hj => by omega)
  have a4' : fX11_takesNumber_L14 n (nI lo) (nI hi) (fun x13 S14 => if x13 = (S14.1 22) then (some (0, S14)) else (if 4 < (x13 - (S14.1 22)) then (some (0, S14)) else (ob (fX11_isIn (S14.1 25) (nI lo) (nI hi)) fun r17 => if r17 = 0 then (some (0, S14)) else some (1, sS S14 22 x13)))) n (nI s) (ct T (nI s) w 0) = _ := a4
  rw [Nat.add_zero] at a1
  obtain ⟨d1, d2, d3, d4⟩ := skN_spec (P := isDi) (b := b) (N - s) s rfl hl.2
  rw [a4', ct_22, ct_25, pk_sub (by omega), Nat.add_sub_cancel_left, ct_s22]
  unfold numF
  rw [← a1, Nat.add_sub_cancel_left]
  rcases Nat.eq_zero_or_pos i' with q | q
  · right
    subst q
    rw [if_neg (by omega), if_pos (by rw [Nat.add_zero])]
    exact ⟨rfl, _, rfl⟩
  · rw [if_neg (nI_ne (by omega) (by omega) (by omega))]
    rcases Nat.lt_or_ge 4 i' with z | z
    · right
      rw [if_neg (by omega), if_pos (show (4 : Int32) < nI i' from nI_lt (a := 4) z (by omega))]
      exact ⟨rfl, _, rfl⟩
    · rw [if_neg (show ¬ (4 : Int32) < nI i' from Int32.not_lt.mpr (nI_le (b := 4) z (by omega))), if_pos z]
      have hv := dgv_le (b := b) (s := s) i' (fun j hj => d3 (s + j) (by omega) (by omega))
      have h2 : 10 ^ i' ≤ 10 ^ 4 := Nat.pow_le_pow_right (by omega) z
      have h3 : (10 : Nat) ^ 4 = 10000 := by decide
      rcases Nat.lt_or_ge (dgv b s i') lo with y | y
      · right
        rw [if_neg (by omega), isI_lo (nI_lt y (by omega))]
        exact ⟨rfl, _, rfl⟩
      · rcases Nat.lt_or_ge hi (dgv b s i') with y2 | y2
        · right
          rw [if_neg (by omega), isI_hi (nI_lt y2 (by omega))]
          exact ⟨rfl, _, rfl⟩
        · left
          rw [if_pos ⟨q, z, y, y2⟩, isI_ok (nI_nlt y (by omega)) (nI_nlt y2 (by omega))]
          exact ⟨_, rfl, y, y2, rfl⟩
theorem endM {b : Nat → Int32} {N n a : Nat} {T : St} {w v : Int32} (hn : 5000 ≤ n) (ht : TxM b N T) (ha : a ≤ N) : (ob (fX11_blanks n (ct T (nI a) w v)) fun S44 => if (S44.1 22) = (S44.1 21) then (some ((0 : Int32), S44)) else (if (S44.1 22) < 0 ∨ 400 ≤ Int32.toNatClampNeg (S44.1 22) then none else if (S44.2.1 19 (Int32.toNatClampNeg (S44.1 22))) = 59 then (lt_ (sS S44 22 ((S44.1 22) + 1)) fun S48 => some (1, S48)) else (some (0, S44)))) = if splB b (skN isBl b N a) (tke b N (skN isBl b N a)) 1 then some (1, ct T (nI (skN isBl b N a + 1)) w v) else some (0, ct T (nI (skN isBl b N a)) w v) := by
  have hl := skN_le (P := isBl) (b := b) ha
  obtain ⟨t1, t2, t3⟩ := id ht
  rw [blaM hn ht ha, ob_s, ct_22, show (ct T (nI (skN isBl b N a)) w v).1 21 = nI N from t2]
  generalize skN isBl b N a = s at *
  have hk := tke_le (b := b) hl.2
  have hsp : splB b s (tke b N s) 1 = decide (s < N ∧ b s = 59) := by
    unfold splB
    by_cases c : s < N ∧ b s = 59
    · rw [decide_eq_true c, decide_eq_true (show tke b N s = s + lenT.getD 1 0 by unfold tke; rw [if_pos c.1, if_pos c.2]; rfl), decide_eq_true (fun i hi => ?_)]
      · rfl
      · have : i = 0 := by
          have h1 : lenT.getD 1 0 = 1 := rfl
          omega
        subst this; exact c.2
    · rw [decide_eq_false c]
      by_cases c1 : tke b N s = s + lenT.getD 1 0
      · have hn2 : ¬ ∀ i, i < lenT.getD 1 0 → b (s + i) = (bytT.getD 1 []).getD i 0 := fun q => c ⟨by
          have h1 : lenT.getD 1 0 = 1 := rfl
          omega, q 0 (by decide)⟩
        rw [decide_eq_true c1, Bool.true_and]; exact decide_eq_false hn2
      · rw [decide_eq_false c1, Bool.false_and]
  rw [hsp]
  rcases Nat.lt_or_ge s N with q | q
  · rw [if_neg (nI_ne (by omega) (by omega) (by omega)), ig (show s < 400 by omega) (by omega), cl (by omega), ct_2, t3 s q, nI_1, ct_s22]
    by_cases c : b s = 59
    · rw [if_pos c, decide_eq_true ⟨q, c⟩, if_pos rfl]; rfl
    · rw [if_neg c, decide_eq_false (fun z => c z.2)]; rfl
  · have e : s = N := by omega
    rw [if_pos (by rw [e]), decide_eq_false (fun z => by omega)]; rfl
/-! words -/
def kch (w i : Nat) : Nat := ((bytT.getD w []).getD i 0).toNatClampNeg
theorem kw_ok : ∀ w, w < 10 → w ≠ 1 → 1 ≤ lenT.getD w 0 ∧ ∀ i, i < lenT.getD w 0 → isLe ((bytT.getD w []).getD i 0) = true := by decide +kernel
theorem kw_eq {b : Nat → Int32} {N s w : Nat} (hs : s ≤ N) (hw : w < 10) (hw1 : w ≠ 1) : splB b s (tke b N s) w = decide (wdv b N s = dval (kch w) (lenT.getD w 0)) := by
  obtain ⟨k1, k2⟩ := kw_ok w hw hw1
  have hL := lenT_7 w
  obtain ⟨d1, d2, d3, d4⟩ := skN_spec (P := isLe) (b := b) (N - s) s rfl hs
  have hk := tke_le (b := b) hs
  have kpos : ∀ i, i < lenT.getD w 0 → 1 ≤ kch w i ∧ kch w i < 256 := fun i hi => by
    obtain ⟨c, c1, c2, ec⟩ := isLe_n (k2 i hi)
    unfold kch; rw [ec, cl (by omega)]; omega
  have codepos : 0 < dval (kch w) (lenT.getD w 0) := by
    obtain ⟨l, hl⟩ : ∃ l, lenT.getD w 0 = l + 1 := ⟨lenT.getD w 0 - 1, by omega⟩
    rw [hl, dval]
    have := (kpos l (by omega)).1
    omega
  unfold splB
  by_cases hc : s < N ∧ isLe (b s) = true
  · have h59 : ¬ b s = 59 := fun q => by rw [q] at hc; exact absurd hc.2 (by decide)
    have htk : tke b N s = skN isLe b N s := by unfold tke; rw [if_pos hc.1, if_neg h59, if_pos hc.2]
    rw [htk]
    unfold wdv
    have wpos : ∀ i, i < skN isLe b N s - s → 1 ≤ wch b s i ∧ wch b s i < 256 := fun i hi => by
      obtain ⟨c, c1, c2, ec⟩ := isLe_n (d3 (s + i) (by omega) (by omega))
      unfold wch; rw [ec, cl (by omega)]; omega
    by_cases e : skN isLe b N s = s + lenT.getD w 0
    · rw [decide_eq_true e, Bool.true_and, if_pos (by omega), show skN isLe b N s - s = lenT.getD w 0 by omega]
      rw [show skN isLe b N s - s = lenT.getD w 0 by omega] at wpos
      congr 1
      apply propext
      constructor
      · intro q
        apply dval_cg
        intro i hi
        unfold wch kch
        rw [q i hi]
      · intro q i hi
        obtain ⟨-, h2⟩ := dval_inj _ _ wpos kpos q
        have h3 := h2 i hi
        obtain ⟨c, c1, c2, ec⟩ := isLe_n (d3 (s + i) (by omega) (by omega))
        obtain ⟨c', c1', c2', ec'⟩ := isLe_n (k2 i hi)
        unfold wch kch at h3
        rw [ec, ec', cl (by omega), cl (by omega)] at h3
        rw [ec, ec', h3]
    · rw [decide_eq_false e, Bool.false_and, eq_comm, decide_eq_false_iff_not]
      intro q
      by_cases z : skN isLe b N s - s ≤ 7
      · rw [if_pos z] at q
        obtain ⟨h1, -⟩ := dval_inj _ _ wpos kpos q
        omega
      · rw [if_neg z] at q; omega
  · have hsk : skN isLe b N s = s := by
      rcases Nat.lt_or_ge s N with q | q
      · rw [skN_s q]
        cases hq : isLe (b s)
        · rfl
        · exact absurd ⟨q, hq⟩ hc
      · exact skN_e q
    have hw0 : wdv b N s = 0 := by
      unfold wdv; rw [hsk, Nat.sub_self, if_pos (by omega)]; rfl
    rw [hw0, decide_eq_false (show ¬ 0 = dval (kch w) (lenT.getD w 0) by omega)]
    by_cases e : tke b N s = s + lenT.getD w 0
    · have hn2 : ¬ ∀ i, i < lenT.getD w 0 → b (s + i) = (bytT.getD w []).getD i 0 := fun q => hc ⟨by omega, by
        have := q 0 (by omega)
        rw [Nat.add_zero] at this; rw [this]; exact k2 0 (by omega)⟩
      rw [decide_eq_true e, Bool.true_and]; exact decide_eq_false hn2
    · rw [decide_eq_false e, Bool.false_and]
