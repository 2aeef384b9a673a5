/-! the text of an act, as both sides cut it -/
def isBl (x : Int32) : Bool := decide (x = 32) || decide (x = 10)
def isLe (x : Int32) : Bool := !decide (x < 97) && !decide (122 < x)
def isDi (x : Int32) : Bool := !decide (x < 48) && !decide (57 < x)
def skF (P : Int32 → Bool) (b : Nat → Int32) : Nat → Nat → Nat
  | 0, p => p
  | k + 1, p => if P (b p) then skF P b k (p + 1) else p
def skN (P : Int32 → Bool) (b : Nat → Int32) (N p : Nat) : Nat := skF P b (N - p) p
theorem skN_s {P : Int32 → Bool} {b : Nat → Int32} {N p : Nat} (h : p < N) : skN P b N p = if P (b p) then skN P b N (p + 1) else p := by
  unfold skN
  rw [show N - p = (N - (p + 1)) + 1 by omega, skF]
theorem skN_e {P : Int32 → Bool} {b : Nat → Int32} {N p : Nat} (h : N ≤ p) : skN P b N p = p := by
  unfold skN
  rw [show N - p = 0 by omega, skF]
theorem skN_spec {P : Int32 → Bool} {b : Nat → Int32} {N : Nat} : ∀ k p, N - p = k → p ≤ N → p ≤ skN P b N p ∧ skN P b N p ≤ N ∧ (∀ i, p ≤ i → i < skN P b N p → P (b i) = true) ∧ (skN P b N p < N → P (b (skN P b N p)) = false) := by
  intro k
  induction k with
  | zero =>
    intro p hk hp
    rw [skN_e (by omega)]
    exact ⟨Nat.le_refl _, hp, fun i h1 h2 => by omega, fun h => by omega⟩
  | succ k ihk =>
    intro p hk hp
    rw [skN_s (by omega)]
    cases hb : P (b p)
    · rw [if_neg (by decide)]
      exact ⟨Nat.le_refl _, hp, fun i h1 h2 => by omega, fun _ => hb⟩
    · rw [if_pos rfl]
      obtain ⟨a1, a2, a3, a4⟩ := ihk (p + 1) (by omega) (by omega)
      refine ⟨by omega, a2, fun i h1 h2 => ?_, a4⟩
      by_cases e : i = p
      · rw [e]; exact hb
      · exact a3 i (by omega) h2
theorem skN_le {P : Int32 → Bool} {b : Nat → Int32} {N p : Nat} (hp : p ≤ N) : p ≤ skN P b N p ∧ skN P b N p ≤ N := ⟨(skN_spec (N - p) p rfl hp).1, (skN_spec (N - p) p rfl hp).2.1⟩
theorem skN_fix {P : Int32 → Bool} {b : Nat → Int32} {N p : Nat} (hp : p ≤ N) : skN P b N (skN P b N p) = skN P b N p := by
  obtain ⟨a1, a2, a3, a4⟩ := skN_spec (P := P) (b := b) (N - p) p rfl hp
  rcases Nat.lt_or_ge (skN P b N p) N with q | q
  · rw [skN_s q, a4 q]; rfl
  · rw [skN_e q]
theorem blX (x : Int32) : fX5_isBlank x = some (if isBl x then 1 else 0) := by
  unfold fX5_isBlank isBl
  by_cases c : x = 32
  · rw [if_pos c, decide_eq_true c]; rfl
  · rw [if_neg c, decide_eq_false c]
    by_cases c2 : x = 10
    · rw [if_pos c2, decide_eq_true c2]; rfl
    · rw [if_neg c2, decide_eq_false c2]; rfl
theorem leX (x : Int32) : fX5_isLetter x = some (if isLe x then 1 else 0) := by
  unfold fX5_isLetter isLe
  by_cases c : x < 97
  · rw [if_pos c, decide_eq_true c]; rfl
  · rw [if_neg c, decide_eq_false c]
    by_cases c2 : 122 < x
    · rw [if_pos c2, decide_eq_true c2]; rfl
    · rw [if_neg c2, decide_eq_false c2]; rfl
theorem diX (x : Int32) : fX5_isDigit x = some (if isDi x then 1 else 0) := by
  unfold fX5_isDigit isDi
  by_cases c : x < 48
  · rw [if_pos c, decide_eq_true c]; rfl
  · rw [if_neg c, decide_eq_false c]
    by_cases c2 : 57 < x
    · rw [if_pos c2, decide_eq_true c2]; rfl
    · rw [if_neg c2, decide_eq_false c2]; rfl
/-- the text that the class reads -/
def Txt (b : Nat → Int32) (N : Nat) (S : St) : Prop := N ≤ 400 ∧ S.1 7 = nI N ∧ ∀ i, i < N → S.2.1 11 i = b i
theorem l5X {b : Nat → Int32} {N n : Nat} {S : St} {K : Int32 → Option St} (ht : Txt b N S) : ∀ (dd p fu : Nat), p + dd = N → dd < fu → fX5_nextToken_L5 n S K fu (nI p) = K (nI (skN isBl b N p)) := by
  obtain ⟨t1, t2, t3⟩ := ht
  intro dd
  induction dd with
  | zero =>
    intro p fu hp hfu
    obtain ⟨fu, rfl⟩ : ∃ g, fu = g + 1 := ⟨fu - 1, by omega⟩
    rw [fX5_nextToken_L5, t2, if_pos (nI_le (show N ≤ p by omega) (by omega)), skN_e (by omega)]
  | succ dd ihd =>
    intro p fu hp hfu
    obtain ⟨fu, rfl⟩ : ∃ g, fu = g + 1 := ⟨fu - 1, by omega⟩
    rw [fX5_nextToken_L5, t2, if_neg (nI_ge (show p < N by omega) (by omega)), ig (show p < 400 by omega) (by omega), cl (by omega), t3 p (by omega), blX, ob_s, nI_1, skN_s (show p < N by omega), ihd (p + 1) fu (by omega) (by omega)]
    cases isBl (b p) <;> rfl
theorem l81X {b : Nat → Int32} {N n : Nat} {S : St} {K : Int32 → Option St} (ht : Txt b N S) : ∀ (dd p fu : Nat), p + dd = N → dd < fu → fX5_nextToken_L81 n S K fu (nI p) = K (nI (skN isLe b N p)) := by
  obtain ⟨t1, t2, t3⟩ := ht
  intro dd
  induction dd with
  | zero =>
    intro p fu hp hfu
    obtain ⟨fu, rfl⟩ : ∃ g, fu = g + 1 := ⟨fu - 1, by omega⟩
    rw [fX5_nextToken_L81, t2, if_pos (nI_le (show N ≤ p by omega) (by omega)), skN_e (by omega)]
  | succ dd ihd =>
    intro p fu hp hfu
    obtain ⟨fu, rfl⟩ : ∃ g, fu = g + 1 := ⟨fu - 1, by omega⟩
    rw [fX5_nextToken_L81, t2, if_neg (nI_ge (show p < N by omega) (by omega)), ig (show p < 400 by omega) (by omega), cl (by omega), t3 p (by omega), leX, ob_s, nI_1, skN_s (show p < N by omega), ihd (p + 1) fu (by omega) (by omega)]
    cases isLe (b p) <;> rfl
theorem l107X {b : Nat → Int32} {N n : Nat} {S : St} {K : Int32 → Option St} (ht : Txt b N S) : ∀ (dd p fu : Nat), p + dd = N → dd < fu → fX5_nextToken_L107 n S K fu (nI p) = K (nI (skN isDi b N p)) := by
  obtain ⟨t1, t2, t3⟩ := ht
  intro dd
  induction dd with
  | zero =>
    intro p fu hp hfu
    obtain ⟨fu, rfl⟩ : ∃ g, fu = g + 1 := ⟨fu - 1, by omega⟩
    rw [fX5_nextToken_L107, t2, if_pos (nI_le (show N ≤ p by omega) (by omega)), skN_e (by omega)]
  | succ dd ihd =>
    intro p fu hp hfu
    obtain ⟨fu, rfl⟩ : ∃ g, fu = g + 1 := ⟨fu - 1, by omega⟩
    rw [fX5_nextToken_L107, t2, if_neg (nI_ge (show p < N by omega) (by omega)), ig (show p < 400 by omega) (by omega), cl (by omega), t3 p (by omega), diX, ob_s, nI_1, skN_s (show p < N by omega), ihd (p + 1) fu (by omega) (by omega)]
    cases isDi (b p) <;> rfl
/-- the class's state, at a token -/
def cx (S : St) (s e : Int32) : St := (fun k => if k = 9 then e else if k = 8 then s else S.1 k, S.2)
theorem cx_8 (S : St) (s e : Int32) : (cx S s e).1 8 = s := rfl
theorem cx_9 (S : St) (s e : Int32) : (cx S s e).1 9 = e := rfl
theorem cx_o (S : St) (s e : Int32) {k : Nat} (h8 : ¬ k = 8) (h9 : ¬ k = 9) : (cx S s e).1 k = S.1 k := by
  show (if k = 9 then e else if k = 8 then s else S.1 k) = _
  rw [if_neg h9, if_neg h8]
theorem cx_2 (S : St) (s e : Int32) : (cx S s e).2 = S.2 := rfl
theorem cx_set (S : St) (s e s' e' : Int32) : sS (sS (cx S s e) 8 s') 9 e' = cx S s' e' := by
  apply Prod.ext
  · funext k
    show (if k = 9 then e' else if k = 8 then s' else if k = 9 then e else if k = 8 then s else S.1 k) = (if k = 9 then e' else if k = 8 then s' else S.1 k)
    split
    · rfl
    · split <;> rfl
  · rfl
theorem cx_sS (S : St) (s e : Int32) {k : Nat} {v : Int32} (h8 : ¬ k = 8) (h9 : ¬ k = 9) : sS (cx S s e) k v = cx (sS S k v) s e := by
  apply Prod.ext
  · funext j
    show (if j = k then v else if j = 9 then e else if j = 8 then s else S.1 j) = (if j = 9 then e else if j = 8 then s else if j = k then v else S.1 j)
    by_cases c9 : j = 9
    · rw [if_neg (by omega), if_pos c9, if_pos c9]
    · by_cases c8 : j = 8
      · rw [if_neg (by omega), if_neg c9, if_pos c8, if_neg c9, if_pos c8]
      · rw [if_neg c9, if_neg c8, if_neg c9, if_neg c8]
  · rfl
theorem cx_sA (S : St) (s e : Int32) {a i : Nat} {v : Int32} : sA (cx S s e) a i v = cx (sA S a i v) s e := rfl
theorem cx_self (S : St) : cx S (S.1 8) (S.1 9) = S := by
  apply Prod.ext
  · funext k
    show (if k = 9 then S.1 9 else if k = 8 then S.1 8 else S.1 k) = S.1 k
    split
    · rename_i h; rw [h]
    · split
      · rename_i h; rw [h]
      · rfl
  · rfl
theorem Txt.cx {b : Nat → Int32} {N : Nat} {S : St} (h : Txt b N S) (s e : Int32) : Txt b N (cx S s e) := h
/-- where a token that begins at s ends -/
def tke (b : Nat → Int32) (N s : Nat) : Nat := if s < N then (if b s = 59 then s + 1 else if isLe (b s) then skN isLe b N s else skN isDi b N s) else s
theorem tke_le {b : Nat → Int32} {N s : Nat} (h : s ≤ N) : s ≤ tke b N s ∧ tke b N s ≤ N := by
  unfold tke
  have h1 := skN_le (P := isLe) (b := b) h
  have h2 := skN_le (P := isDi) (b := b) h
  split
  · split
    · omega
    · split <;> omega
  · omega
theorem tokX {b : Nat → Int32} {N n e : Nat} {S : St} {s0 : Int32} (hn : 5000 ≤ n) (ht : Txt b N S) (he : e ≤ N) : fX5_nextToken n (cx S s0 (nI e)) = some (cx S (nI (skN isBl b N e)) (nI (tke b N (skN isBl b N e)))) := by
  obtain ⟨t1, t2, t3⟩ := id ht
  have hl := skN_le (P := isBl) (b := b) he
  unfold fX5_nextToken
  simp only [lt_, cx_9]
  rw [l5X (n := n) (ht.cx s0 (nI e)) (N - e) e n (by omega) (by omega)]
  generalize skN isBl b N e = s at *
  have h7 : (sS (cx S s0 (nI e)) 8 (nI s)).1 7 = nI N := t2
  have ht' : Txt b N (sS (cx S s0 (nI e)) 8 (nI s)) := ht
  rw [h7]
  unfold tke
  rcases Nat.lt_or_ge s N with q | q
  · rw [if_neg (nI_ge q (by omega)), ig (show s < 400 by omega) (by omega), cl (show s < 2 ^ 31 by omega), show (sS (cx S s0 (nI e)) 8 (nI s)).2.1 11 s = b s from t3 s q, if_pos q]
    by_cases c : b s = 59
    · rw [if_pos c, if_pos c, nI_1, cx_set]
    · rw [if_neg c, if_neg c, if_neg (nI_ge q (by omega)), ih (show s < 400 by omega) (by omega), leX, ob_s]
      cases hb : isLe (b s)
      · simp only [Bool.false_eq_true, if_false, if_true]
        rw [l107X (n := n) ht' (N - s) s n (by omega) (by omega), cx_set]
      · simp only [if_true]
        rw [if_neg (show ¬ (1 : Int32) = 0 by decide), l81X (n := n) ht' (N - s) s n (by omega) (by omega), cx_set]
  · rw [if_pos (nI_le (show N ≤ s by omega) (by omega)), if_pos (nI_le (show N ≤ s by omega) (by omega)), if_neg (by omega), l107X (n := n) ht' (N - s) s n (by omega) (by omega), cx_set, skN_e q]
/-- does the token spell the w-th word -/
def splB (b : Nat → Int32) (s e w : Nat) : Bool := decide (e = s + lenT.getD w 0) && decide (∀ i, i < lenT.getD w 0 → b (s + i) = (bytT.getD w []).getD i 0)
theorem lenT_7 : ∀ w, lenT.getD w 0 ≤ 7 := by
  intro w
  match w with
  | 0 => decide
  | 1 => decide
  | 2 => decide
  | 3 => decide
  | 4 => decide
  | 5 => decide
  | 6 => decide
  | 7 => decide
  | 8 => decide
  | 9 => decide
  | w + 10 => exact Nat.zero_le _
theorem splXL {b : Nat → Int32} {N n s w : Nat} {S : St} {e : Int32} (ht : Txt b N S) (hs : s + lenT.getD w 0 ≤ N) : ∀ (dd i fu : Nat), i + dd = lenT.getD w 0 → dd < fu → (∀ j, j < i → b (s + j) = (bytT.getD w []).getD j 0) → fX5_spells_L31 n w (cx S (nI s) e) (fun x7 => some 1) fu (nI i) = some (if (∀ j, j < lenT.getD w 0 → b (s + j) = (bytT.getD w []).getD j 0) then 1 else 0) := by
  obtain ⟨t1, t2, t3⟩ := id ht
  have hL := lenT_7 w
  intro dd
  induction dd with
  | zero =>
    intro i fu hi hfu hj
    obtain ⟨fu, rfl⟩ : ∃ g, fu = g + 1 := ⟨fu - 1, by omega⟩
    have e : i = lenT.getD w 0 := by omega
    rw [fX5_spells_L31, if_pos (show Int32.ofNat (lenT.getD w 0) ≤ nI i from nI_le (show lenT.getD w 0 ≤ i by omega) (by omega)), if_pos (by rw [← e]; exact hj)]
  | succ dd ihd =>
    intro i fu hi hfu hj
    obtain ⟨fu, rfl⟩ : ∃ g, fu = g + 1 := ⟨fu - 1, by omega⟩
    rw [fX5_spells_L31, if_neg (show ¬ Int32.ofNat (lenT.getD w 0) ≤ nI i from nI_ge (show i < lenT.getD w 0 by omega) (by omega)), cx_8, nI_add, ig (show s + i < 400 by omega) (by omega), cl (show s + i < 2 ^ 31 by omega), cl (show i < 2 ^ 31 by omega), ih (show i < lenT.getD w 0 by omega) (by omega), cx_2, t3 (s + i) (by omega), nI_1]
    by_cases c : b (s + i) = (bytT.getD w []).getD i 0
    · rw [if_pos c]
      exact ihd (i + 1) fu (by omega) (by omega) (fun j h1 => by
        by_cases ej : j = i
        · rw [ej]; exact c
        · exact hj j (by omega))
    · rw [if_neg c, if_neg (fun q => c (q i (by omega)))]
theorem splX {b : Nat → Int32} {N n s e w : Nat} {S : St} (hn : 5000 ≤ n) (ht : Txt b N S) (hs : s ≤ e) (he : e ≤ N) : fX5_spells n (cx S (nI s) (nI e)) w = some (if splB b s e w then 1 else 0) := by
  obtain ⟨t1, t2, t3⟩ := id ht
  have hL := lenT_7 w
  unfold fX5_spells splB
  rw [cx_8, cx_9, pk_sub hs, show (cx S (nI s) (nI e)).1 7 = nI N from t2]
  by_cases c : e = s + lenT.getD w 0
  · rw [if_pos (show nI (e - s) = Int32.ofNat (lenT.getD w 0) by rw [c, Nat.add_sub_cancel_left]; rfl), if_pos (nI_le he (by omega)), show fX5_spells_L31 n w (cx S (nI s) (nI e)) (fun x7 => some 1) n 0 = _ from splXL (n := n) ht (by omega) (lenT.getD w 0) 0 n (by omega) (by omega) (fun j hj => by omega), decide_eq_true c, Bool.true_and]
    by_cases q : ∀ j, j < lenT.getD w 0 → b (s + j) = (bytT.getD w []).getD j 0
    · rw [if_pos q, decide_eq_true q]; rfl
    · rw [if_neg q, decide_eq_false q]; rfl
  · rw [if_neg (show ¬ nI (e - s) = Int32.ofNat (lenT.getD w 0) from nI_ne (by omega) (by omega) (by omega)), decide_eq_false c]
    rfl
/-! numbers -/
def dgv (b : Nat → Int32) (s : Nat) : Nat → Nat
  | 0 => 0
  | i + 1 => 10 * dgv b s i + ((b (s + i)).toNatClampNeg - 48)
theorem isDi_n {x : Int32} (h : isDi x = true) : ∃ c, 48 ≤ c ∧ c ≤ 57 ∧ x = nI c := by
  unfold isDi at h
  rw [Bool.and_eq_true, Bool.not_eq_true', Bool.not_eq_true', decide_eq_false_iff_not, decide_eq_false_iff_not] at h
  have h1 := Int32.le_iff_toInt_le.mp (Int32.not_lt.mp h.1)
  have e1 : (48 : Int32).toInt = 48 := by decide
  obtain ⟨c, hc, e⟩ := nI_of2 (x := x) (M := 57) (n := 57) (by decide) (fun q => by
    have := Int32.lt_iff_toInt_lt.mp q
    have e0 : (0 : Int32).toInt = 0 := by decide
    omega) (Int32.not_lt.mp h.2)
  rw [e, nI_toInt (by omega)] at h1
  exact ⟨c, by omega, hc, e⟩
theorem isLe_n {x : Int32} (h : isLe x = true) : ∃ c, 97 ≤ c ∧ c ≤ 122 ∧ x = nI c := by
  unfold isLe at h
  rw [Bool.and_eq_true, Bool.not_eq_true', Bool.not_eq_true', decide_eq_false_iff_not, decide_eq_false_iff_not] at h
  have h1 := Int32.le_iff_toInt_le.mp (Int32.not_lt.mp h.1)
  have e1 : (97 : Int32).toInt = 97 := by decide
  obtain ⟨c, hc, e⟩ := nI_of2 (x := x) (M := 122) (n := 122) (by decide) (fun q => by
    have := Int32.lt_iff_toInt_lt.mp q
    have e0 : (0 : Int32).toInt = 0 := by decide
    omega) (Int32.not_lt.mp h.2)
  rw [e, nI_toInt (by omega)] at h1
  exact ⟨c, by omega, hc, e⟩
theorem dgv_le {b : Nat → Int32} {s : Nat} : ∀ k, (∀ i, i < k → isDi (b (s + i)) = true) → dgv b s k < 10 ^ k := by
  intro k
  induction k with
  | zero => intro _; exact Nat.zero_lt_one
  | succ k ihk =>
    intro h
    obtain ⟨c, c1, c2, e⟩ := isDi_n (h k (by omega))
    have := ihk (fun i hi => h i (by omega))
    rw [dgv, e, cl (by omega), Nat.pow_succ]
    omega
/-- the number that the token at s is, if it is one between lo and hi -/
def numF (b : Nat → Int32) (N s lo hi : Nat) : Option Nat := if 0 < skN isDi b N s - s ∧ skN isDi b N s - s ≤ 4 ∧ lo ≤ dgv b s (skN isDi b N s - s) ∧ dgv b s (skN isDi b N s - s) ≤ hi then some (dgv b s (skN isDi b N s - s)) else none
def encN (o : Option Nat) : Int32 := match o with
  | none => -1
  | some v => nI v
theorem numXL {b : Nat → Int32} {N n s e lo hi : Nat} {S : St} (ht : Txt b N S) (he : e ≤ N) (h4 : e - s ≤ 4) (hd : ∀ i, s ≤ i → i < e → isDi (b i) = true) (hlo : lo < 10000) (hhi : hi < 10000) : ∀ (dd i fu : Nat), s + i + dd = e → dd < fu → fX5_number_L42 n (nI lo) (nI hi) (cx S (nI s) (nI e)) (fun x12 x13 => if x12 < nI lo then (some (-1)) else (if nI hi < x12 then (some (-1)) else (some x12))) fu (nI (dgv b s i)) (nI (s + i)) = some (if lo ≤ dgv b s (e - s) ∧ dgv b s (e - s) ≤ hi then nI (dgv b s (e - s)) else -1) := by
  obtain ⟨t1, t2, t3⟩ := id ht
  have hbig : ∀ i, s + i ≤ e → dgv b s i < 10000 := fun i hi' => by
    have h1 := dgv_le (b := b) (s := s) i (fun j hj => hd (s + j) (by omega) (by omega))
    have h2 : 10 ^ i ≤ 10 ^ 4 := Nat.pow_le_pow_right (by omega) (by omega)
    have h3 : (10 : Nat) ^ 4 = 10000 := by decide
    omega
  intro dd
  induction dd with
  | zero =>
    intro i fu hi' hfu
    obtain ⟨fu, rfl⟩ : ∃ g, fu = g + 1 := ⟨fu - 1, by omega⟩
    have ei : e - s = i := by omega
    have hb := hbig i (by omega)
    rw [fX5_number_L42, cx_9, if_pos (nI_le (show e ≤ s + i by omega) (by omega)), ei]
    rcases Nat.lt_or_ge (dgv b s i) lo with q | q
    · rw [if_pos (nI_lt q (by omega)), if_neg (by omega)]
    · rw [if_neg (nI_nlt q (by omega))]
      rcases Nat.lt_or_ge hi (dgv b s i) with z | z
      · rw [if_pos (nI_lt z (by omega)), if_neg (by omega)]
      · rw [if_neg (nI_nlt z (by omega)), if_pos ⟨q, z⟩]
  | succ dd ihd =>
    intro i fu hi' hfu
    obtain ⟨fu, rfl⟩ : ∃ g, fu = g + 1 := ⟨fu - 1, by omega⟩
    have hdi := hd (s + i) (by omega) (by omega)
    obtain ⟨c, c1, c2, ec⟩ := isDi_n hdi
    have hb := hbig i (by omega)
    have := ihd (i + 1) fu (by omega) (by omega)
    rw [dgv, ec, cl (show c < 2 ^ 31 by omega)] at this
    rw [fX5_number_L42, cx_9, if_neg (nI_ge (show s + i < e by omega) (by omega)), ig (show s + i < 400 by omega) (by omega), cl (show s + i < 2 ^ 31 by omega), cx_2, t3 (s + i) (by omega), diX, hdi, ob_s]
    simp only [if_true, lt_]
    rw [if_neg (show ¬ (1 : Int32) = 0 by decide), ih (show s + i < 400 by omega) (by omega), ec, show nI (dgv b s i) * 10 = nI (dgv b s i * 10) from pk_mul _ 10, show nI c - 48 = nI (c - 48) from pk_sub c1, nI_add, nI_1, Nat.mul_comm (dgv b s i) 10]
    exact this
theorem numX {b : Nat → Int32} {N n s lo hi : Nat} {S : St} (hn : 5000 ≤ n) (ht : Txt b N S) (hs : s ≤ N) (hlo : lo < 10000) (hhi : hi < 10000) : fX5_number n (cx S (nI s) (nI (tke b N s))) (nI lo) (nI hi) = some (encN (numF b N s lo hi)) := by
  obtain ⟨t1, t2, t3⟩ := id ht
  obtain ⟨h1, h2⟩ := tke_le (b := b) hs
  obtain ⟨d1, d2, d3, d4⟩ := skN_spec (P := isDi) (b := b) (N - s) s rfl hs
  unfold fX5_number
  simp only [lt_]
  rw [cx_8, cx_9, show (cx S (nI s) (nI (tke b N s))).1 7 = nI N from t2, pk_sub h1]
  -- not a digit first: no number on either side
  by_cases hc : s < N ∧ isDi (b s) = true
  · have hne59 : ¬ b s = 59 := fun q => by rw [q] at hc; exact absurd hc.2 (by decide)
    have hnle : isLe (b s) = false := by
      cases hq : isLe (b s)
      · rfl
      · obtain ⟨c, c1, c2, ec⟩ := isLe_n hq
        obtain ⟨c', c1', c2', ec'⟩ := isDi_n hc.2
        rw [ec] at ec'
        have := (nI_eq (by omega) (by omega)).mp ec'
        omega
    have htk : tke b N s = skN isDi b N s := by
      unfold tke
      rw [if_pos hc.1, if_neg hne59, hnle]; rfl
    rw [htk] at h1 h2 ⊢
    have hgt : s < skN isDi b N s := by
      rcases Nat.lt_or_ge s (skN isDi b N s) with q | q
      · exact q
      · have e : skN isDi b N s = s := by omega
        have := d4 (by omega)
        rw [e, hc.2] at this; cases this
    rw [if_neg (show ¬ nI (skN isDi b N s - s) < 1 from nI_nlt (b := 1) (by omega) (by omega)), if_pos (nI_le h2 (by omega))]
    unfold numF
    rcases Nat.lt_or_ge 4 (skN isDi b N s - s) with q | q
    · rw [if_pos (show (4 : Int32) < nI (skN isDi b N s - s) from nI_lt (a := 4) q (by omega)), if_neg (by omega)]
      rfl
    · rw [if_neg (show ¬ (4 : Int32) < nI (skN isDi b N s - s) from Int32.not_lt.mpr (nI_le (b := 4) q (by omega)))]
      have := numXL (n := n) (lo := lo) (hi := hi) ht h2 q (fun i z1 z2 => d3 i z1 z2) hlo hhi (skN isDi b N s - s) 0 n (by omega) (by omega)
      rw [show fX5_number_L42 n (nI lo) (nI hi) (cx S (nI s) (nI (skN isDi b N s))) (fun x12 x13 => if x12 < nI lo then (some (-1)) else (if nI hi < x12 then (some (-1)) else (some x12))) n 0 (nI s) = _ from this]
      by_cases z : lo ≤ dgv b s (skN isDi b N s - s) ∧ dgv b s (skN isDi b N s - s) ≤ hi
      · rw [if_pos z, if_pos ⟨by omega, q, z.1, z.2⟩]; rfl
      · rw [if_neg z, if_neg (fun w => z ⟨w.2.2.1, w.2.2.2⟩)]; rfl
  · have hd0 : skN isDi b N s = s := by
      rcases Nat.lt_or_ge s N with q | q
      · rw [skN_s q]
        cases hq : isDi (b s)
        · rfl
        · exact absurd ⟨q, hq⟩ hc
      · exact skN_e q
    have hno : numF b N s lo hi = none := by
      unfold numF
      rw [hd0, if_neg (by omega)]
    rw [hno]
    by_cases z1 : nI (tke b N s - s) < 1
    · rw [if_pos z1]; rfl
    · rw [if_neg z1]
      have hgt : s < tke b N s := by
        rcases Nat.lt_or_ge s (tke b N s) with q | q
        · exact q
        · exact absurd (show nI (tke b N s - s) < 1 from nI_lt (b := 1) (by omega) (by omega)) z1
      by_cases z2 : (4 : Int32) < nI (tke b N s - s)
      · rw [if_pos z2]; rfl
      · rw [if_neg z2, if_pos (nI_le h2 (by omega))]
        obtain ⟨m, rfl⟩ : ∃ m, n = m + 1 := ⟨n - 1, by omega⟩
        have hdf : isDi (b s) = false := by
          cases hq : isDi (b s)
          · rfl
          · exact absurd ⟨by omega, hq⟩ hc
        rw [fX5_number_L42, cx_9, if_neg (nI_ge hgt (by omega)), ig (show s < 400 by omega) (by omega), cl (show s < 2 ^ 31 by omega), cx_2, t3 s (by omega), diX, hdf, ob_s]
        rfl
