theorem Nk_lt {D : Nat → Nat → Nat} {m k R : Nat} (hm : 0 < m) : Nk D m k R < m := by
  unfold Nk
  cases hq : nrD (fun i => D (m - (k + 1)) i + Lk D m k (R - 2 ^ i)) R m with
  | none => exact hm
  | some q => exact (nrD_in m q.1 q.2 hq).1
theorem Bk_lt {D : Nat → Nat → Nat} {m : Nat} (hm : 0 < m) : ∀ k R, Bk D m k R < m ^ k := by
  intro k
  induction k with
  | zero => intro R; rw [Bk]; exact Nat.pow_pos hm
  | succ k ihk =>
    intro R
    have h1 := ihk (R - 2 ^ Nk D m k R)
    have h2 := Nat.mul_le_mul_right (m ^ k) (show Nk D m k R + 1 ≤ m from Nk_lt hm)
    rw [Nat.succ_mul] at h2
    rw [Bk, Nat.pow_succ, Nat.mul_comm (m ^ k) m]
    omega
/-- who is left behind i fields -/
def Rr (D : Nat → Nat → Nat) (m : Nat) : Nat → Nat → Nat → Nat
  | 0, R, _ => R
  | k + 1, R, i => match i with
    | 0 => R
    | i + 1 => Rr D m k (R - 2 ^ Nk D m k R) i
theorem Bk_dig {D : Nat → Nat → Nat} {m : Nat} (hm : 0 < m) : ∀ k R i, i < k → (Bk D m k R / m ^ (k - 1 - i)) % m = Nk D m (k - 1 - i) (Rr D m k R i) := by
  intro k
  induction k with
  | zero => intro R i hi; omega
  | succ k ihk =>
    intro R i hi
    have hb := Bk_lt (D := D) hm k (R - 2 ^ Nk D m k R)
    have hpos : 0 < m ^ k := Nat.pow_pos hm
    rw [Bk]
    cases i with
    | zero =>
      rw [show k + 1 - 1 - 0 = k by omega, Rr, Nat.add_comm, Nat.add_mul_div_right _ _ hpos, Nat.div_eq_of_lt hb, Nat.zero_add, Nat.mod_eq_of_lt (Nk_lt hm)]
    | succ i =>
      have h := ihk (R - 2 ^ Nk D m k R) i (by omega)
      rw [show k + 1 - 1 - (i + 1) = k - 1 - i by omega, Rr, ← h]
      have e : m ^ k = m * m ^ i * m ^ (k - 1 - i) := by
        rw [← Nat.pow_succ', ← Nat.pow_add]; congr 1; omega
      have hp2 : 0 < m ^ (k - 1 - i) := Nat.pow_pos hm
      rw [e, ← Nat.mul_assoc, Nat.add_comm, Nat.add_mul_div_right _ _ hp2, ← Nat.mul_assoc, Nat.mul_comm (Nk D m k R) m, Nat.mul_assoc, Nat.add_mul_mod_self_left]
theorem gv5 : ∀ s, s < 32 → ∀ i, i < 5 → (s.testBit i && !(decide (nI s &&& (((1 : Int32) <<< (nI i &&& 31)) ^^^ (-1)) = nI (s - 2 ^ i)) && decide (2 ^ i ≤ s) && decide (pcF 5 (s - 2 ^ i) + 1 = pcF 5 s))) = false := by decide +kernel
theorem gv6 : ∀ s, s < 32 → pcF 32 s = pcF 5 s := by decide +kernel
theorem gv7 : ∀ m, m < 6 → ∀ s, s < 32 → s < 2 ^ m → pcF 5 s ≤ m := by decide +kernel
theorem gv8 : ∀ m, m < 6 → ∀ s, s < 32 → s < 2 ^ m → (∀ j, j < m → s.testBit j = false) → s = 0 := by decide +kernel
theorem bb {x : Bool} (h : (true && !x) = false) : x = true := by
  cases x
  · cases h
  · rfl
theorem gv5' {s i : Nat} (hs : s < 32) (hi : i < 5) (hb : s.testBit i = true) : nI s &&& (((1 : Int32) <<< (nI i &&& 31)) ^^^ (-1)) = nI (s - 2 ^ i) ∧ 2 ^ i ≤ s ∧ pcF 5 (s - 2 ^ i) + 1 = pcF 5 s := by
  have h1 := gv5 s hs i hi
  rw [hb] at h1
  have h2 := bb h1
  rw [Bool.and_eq_true, Bool.and_eq_true] at h2
  exact ⟨of_decide_eq_true h2.1.1, of_decide_eq_true h2.1.2, of_decide_eq_true h2.2⟩
theorem Lk_le {D : Nat → Nat → Nat} {m : Nat} (hm : 0 < m) (hD : ∀ i j, i < m → j < m → D i j ≤ 99) : ∀ k R, k ≤ m → Lk D m k R ≤ 99 * k := by
  intro k
  induction k with
  | zero => intro R _; exact Nat.le_refl _
  | succ k ihk =>
    intro R hk
    rw [Lk]
    cases hq : nrD (fun i => D (m - (k + 1)) i + Lk D m k (R - 2 ^ i)) R m with
    | none => exact Nat.zero_le _
    | some q =>
      obtain ⟨h1, h2, h3⟩ := nrD_in m q.1 q.2 hq
      have h4 := hD (m - (k + 1)) q.2 (by omega) h1
      have h5 := ihk (R - 2 ^ q.2) (by omega)
      show q.1 ≤ _
      rw [h3]; omega
/-- how far a person's home is from a field -/
def dst (T : St) (f p i j : Nat) : Nat := if (T.2.1 6 (p + j)).toNatClampNeg ≤ (T.2.1 8 (f + i)).toNatClampNeg then (T.2.1 8 (f + i)).toNatClampNeg - (T.2.1 6 (p + j)).toNatClampNeg else (T.2.1 6 (p + j)).toNatClampNeg - (T.2.1 8 (f + i)).toNatClampNeg
theorem absd {a b : Nat} (ha : a < 100) (hb : b < 100) : (if (0 : Int32) ≤ nI a - nI b then nI a - nI b else 0 - (nI a - nI b)) = nI (if b ≤ a then a - b else b - a) := by
  rcases Nat.lt_or_ge a b with q | q
  · rw [if_neg (Int32.not_le.mpr (pk_sneg (by omega) q)), if_neg (by omega), Int32.zero_sub, Int32.neg_sub, pk_sub (by omega)]
  · rw [pk_sub q, if_pos (nI_pos' (by omega)), if_pos q]
theorem absd' {a b : Nat} (ha : a < 100) (hb : b < 100) : (if (0 : Int32) ≤ nI a - nI b then nI a - nI b else 0 - (nI a - nI b)) = nI (if a ≤ b then b - a else a - b) := by
  rw [absd ha hb]
  congr 1
  split <;> split <;> omega
/-- a row of fields and one of persons -/
theorem row_rng (x : Int32) {N m : Nat} {y : Int32} (hN : N ≤ 60) (hm0 : 0 < m) (hm : m ≤ 8) (hy : y = nI N) : (ob (ob (fX10_isBelow x y) fun r1 => if ¬ (r1 = 0 ∨ r1 = 1) then none else some r1) (fun r1 => if r1 = 0 then (some (0 : Int32)) else (if (y - x) < nI m then (some 0) else (some 1))) = some 0 ∧ fX11_isIn x 0 (y - nI m) = some 0) ∨ ∃ j, j + m ≤ N ∧ x = nI j ∧ ob (ob (fX10_isBelow x y) fun r1 => if ¬ (r1 = 0 ∨ r1 = 1) then none else some r1) (fun r1 => if r1 = 0 then (some (0 : Int32)) else (if (y - x) < nI m then (some 0) else (some 1))) = some 1 ∧ fX11_isIn x 0 (y - nI m) = some 1 := by
  subst hy
  have ez : (nI N - nI m).toInt = (N : Int) - m := pk_sub_toInt (by omega) (by omega)
  rcases pk_ix x (show N < 2 ^ 31 by omega) with h | h | ⟨j, hj, rfl⟩
  · left; rw [isB_lo h, isI_lo h]; exact ⟨rfl, rfl⟩
  · left
    have h1 := Int32.le_iff_toInt_le.mp h
    rw [nI_toInt (by omega)] at h1
    rw [isB_hi h, isI_hi (Int32.lt_iff_toInt_lt.mpr (by rw [ez]; omega))]; exact ⟨rfl, rfl⟩
  · rw [isB_ok (nI_pos (by omega)) (nI_ge hj (by omega)), ob_s, nz1 (Or.inr rfl), ob_s, i10, pk_sub (by omega)]
    rcases Nat.lt_or_ge N (j + m) with q | q
    · left
      rw [if_pos (nI_lt (show N - j < m by omega) (by omega)), isI_hi (Int32.lt_iff_toInt_lt.mpr (by rw [ez, nI_toInt (by omega)]; omega))]
      exact ⟨rfl, rfl⟩
    · right
      refine ⟨j, q, rfl, ?_, ?_⟩
      · rw [if_neg (nI_nlt (show m ≤ N - j by omega) (by omega))]
      · rw [isI_ok (nI_pos (by omega)) (Int32.not_lt.mpr (Int32.le_iff_toInt_le.mpr (by rw [ez, nI_toInt (by omega)]; omega)))]
/-- the reading of the two rows stays within the two registers -/
def Rows (np nf f p m : Nat) : Prop := f + m ≤ nf ∧ p + m ≤ np ∧ 0 < m ∧ m ≤ 5
theorem dst_X {np nf f p m i j : Nat} {S T : St} (hPe : Pe np S T) (hLa : La np nf S T) (hw : Rows np nf f p m) (hi : i < m) (hj : j < m) : (ob (fX4_homeOf S (nI p + nI j)) fun r5 => fX2_distance S (nI f + nI i) r5) = some (nI (dst T f p i j)) := by
  obtain ⟨w1, w2, w3, w4⟩ := hw
  have h60' := hLa.1
  have h40' := hPe.1
  obtain ⟨-, e6, -, b, hb, eb⟩ := hPe.2.2.2 (p + j) (by omega)
  obtain ⟨-, -, -, -, -, ⟨a, ha, ea⟩, -⟩ := hLa.2.2.2 (f + i) (by omega)
  unfold fX4_homeOf fX2_distance dst
  rw [nI_add, nI_add, (has1 hPe (show p + j < np by omega)).1, ob_s, i10, ig (show p + j < 40 by omega) (by omega), cl (by omega), ob_s, placeX hLa (show f + i < nf by omega), ob_s, e6, ea, eb, cl (by omega), cl (by omega), absd (by omega) (by omega)]
theorem dst_M {np nf f p m i j : Nat} {S T : St} (hPe : Pe np S T) (hLa : La np nf S T) (hw : Rows np nf f p m) (hi : i < m) (hj : j < m) : (if (0 : Int32) ≤ T.2.1 6 (p + j) - T.2.1 8 (f + i) then T.2.1 6 (p + j) - T.2.1 8 (f + i) else 0 - (T.2.1 6 (p + j) - T.2.1 8 (f + i))) = nI (dst T f p i j) := by
  obtain ⟨w1, w2, w3, w4⟩ := hw
  obtain ⟨-, e6, -, b, hb, eb⟩ := hPe.2.2.2 (p + j) (by omega)
  obtain ⟨-, -, -, -, -, ⟨a, ha, ea⟩, -⟩ := hLa.2.2.2 (f + i) (by omega)
  unfold dst
  rw [ea, eb, cl (by omega), cl (by omega), absd' (by omega) (by omega)]
theorem dst_le {np nf f p m : Nat} {S T : St} (hPe : Pe np S T) (hLa : La np nf S T) (hw : Rows np nf f p m) (i j : Nat) (hi : i < m) (hj : j < m) : dst T f p i j ≤ 99 := by
  obtain ⟨w1, w2, w3, w4⟩ := hw
  obtain ⟨-, e6, -, b, hb, eb⟩ := hPe.2.2.2 (p + j) (by omega)
  obtain ⟨-, -, -, -, -, ⟨a, ha, ea⟩, -⟩ := hLa.2.2.2 (f + i) (by omega)
  unfold dst
  rw [ea, eb, cl (by omega), cl (by omega)]
  split <;> omega
theorem weiL1 {np nf nt td tl kp k n f p m i : Nat} {T : St} {Fn : Nat → Nat → Int32} {K : Int32 → St → Option St} (hw : Rows np nf f p m) (hi : i < m) : ∀ (dd j fu : Nat) (S1 : St), RelP np nf nt td tl kp S1 k Fn T → S1.1 18 = nI m → (∀ i', i' < i → ∀ j', j' < m → S1.2.1 (20 + i') j' = nI (dst T f p i' j')) → (∀ j', j' < j → S1.2.1 (20 + i) j' = nI (dst T f p i j')) → j + dd = m → dd < fu → ∃ S', fX0_weigh_L28 n (nI f) (nI p) (nI i) K fu (nI j) S1 = K (nI m) S' ∧ RelP np nf nt td tl kp S' k Fn T ∧ S'.1 18 = nI m ∧ ∀ i', i' < i + 1 → ∀ j', j' < m → S'.2.1 (20 + i') j' = nI (dst T f p i' j') := by
  intro dd
  have hw4 := hw.2.2.2
  induction dd with
  | zero =>
    intro j fu S1 hR h18 h1 h2 hj hfu
    obtain ⟨fu, rfl⟩ : ∃ g, fu = g + 1 := ⟨fu - 1, by omega⟩
    have e : j = m := by omega
    subst e
    refine ⟨S1, ?_, hR, h18, fun i' hi' j' hj' => ?_⟩
    · rw [fX0_weigh_L28, h18, if_pos (nI_le (Nat.le_refl _) (by omega))]
    · by_cases c : i' = i
      · rw [c]; exact h2 j' hj'
      · exact h1 i' (by omega) j' hj'
  | succ dd ihd =>
    intro j fu S1 hR h18 h1 h2 hj hfu
    obtain ⟨fu, rfl⟩ : ∃ g, fu = g + 1 := ⟨fu - 1, by omega⟩
    obtain ⟨r5, e5, e6⟩ : ∃ r5, fX4_homeOf S1 (nI p + nI j) = some r5 ∧ fX2_distance S1 (nI f + nI i) r5 = some (nI (dst T f p i j)) := by
      have := dst_X hR.1 hR.2.2.1 hw hi (show j < m by omega)
      obtain ⟨a, a1, a2⟩ := ob_e this
      exact ⟨a, a1, a2⟩
    rw [fX0_weigh_L28, h18, if_neg (nI_ge (show j < m by omega) (by omega)), ig (show i < 5 by omega) (by omega), e5, ob_s, e6, ob_s, ig (show j < 5 by omega) (by omega), cl (show i < 2 ^ 31 by omega), cl (show j < 2 ^ 31 by omega), nI_1]
    simp only [lt_]
    refine ihd (j + 1) fu _ (hR.congr (eqX_sA (by omega)) (eqM.rf T)) h18 (fun i' hi' j' hj' => ?_) (fun j' hj' => ?_) (by omega) (by omega)
    · rw [sA_2, if_neg (by omega)]; exact h1 i' hi' j' hj'
    · rw [sA_2, if_pos rfl]
      by_cases c : j' = j
      · rw [if_pos c, c]
      · rw [if_neg c]; exact h2 j' (by omega)
theorem weiL2 {np nf nt td tl kp k n f p m : Nat} {T : St} {Fn : Nat → Nat → Int32} {K : Int32 → St → Option St} (hn : 5000 ≤ n) (hw : Rows np nf f p m) : ∀ (dd i fu : Nat) (S1 : St), RelP np nf nt td tl kp S1 k Fn T → S1.1 18 = nI m → (∀ i', i' < i → ∀ j', j' < m → S1.2.1 (20 + i') j' = nI (dst T f p i' j')) → i + dd = m → dd < fu → ∃ S', fX0_weigh_L16 n (nI f) (nI p) K fu (nI i) S1 = K (nI m) S' ∧ RelP np nf nt td tl kp S' k Fn T ∧ S'.1 18 = nI m ∧ ∀ i', i' < m → ∀ j', j' < m → S'.2.1 (20 + i') j' = nI (dst T f p i' j') := by
  intro dd
  have hw4 := hw.2.2.2
  induction dd with
  | zero =>
    intro i fu S1 hR h18 h1 hi hfu
    obtain ⟨fu, rfl⟩ : ∃ g, fu = g + 1 := ⟨fu - 1, by omega⟩
    have e : i = m := by omega
    subst e
    exact ⟨S1, by rw [fX0_weigh_L16, h18, if_pos (nI_le (Nat.le_refl _) (by omega))], hR, h18, h1⟩
  | succ dd ihd =>
    intro i fu S1 hR h18 h1 hi hfu
    obtain ⟨fu, rfl⟩ : ∃ g, fu = g + 1 := ⟨fu - 1, by omega⟩
    obtain ⟨S2, e2, r2, h18', h2⟩ := weiL1 (n := n) (K := fun x9 S10 => fX0_weigh_L16 n (nI f) (nI p) K fu (nI i + 1) S10) hw (show i < m by omega) m 0 n S1 hR h18 h1 (fun j' hj' => by omega) (by omega) (by omega)
    rw [fX0_weigh_L16, h18, if_neg (nI_ge (show i < m by omega) (by omega)), show fX0_weigh_L28 n (nI f) (nI p) (nI i) _ n 0 S1 = _ from e2, nI_1]
    exact ihd (i + 1) fu S2 r2 h18' h2 (by omega) (by omega)
/-- the tables that the class has filled, up to the set s -/
def Tab (f p m s : Nat) (S T : St) : Prop := S.1 18 = nI m ∧ (∀ i', i' < m → ∀ j', j' < m → S.2.1 (20 + i') j' = nI (dst T f p i' j')) ∧ ∀ q, q < s → S.2.1 19 q = nI (Lk (dst T f p) m (pcF 5 q) q)
theorem sumWith_X {f p m s i k u : Nat} {S T : St} (hm0 : 0 < m) (hm : m ≤ 5) (hT : Tab f p m u S T) (hs : s < 2 ^ m) (hu : s ≤ u) (hi : i < m) (hb : s.testBit i = true) (hk : pcF 5 s = k + 1) : fX0_sumWith S (nI s) (nI i) = some (nI (dst T f p (m - (k + 1)) i + Lk (dst T f p) m k (s - 2 ^ i))) := by
  have hp := pw32 hm
  obtain ⟨g1, g2, g3⟩ := gv5' (show s < 32 by omega) (show i < 5 by omega) hb
  have h7 := gv7 m (by omega) s (by omega) hs
  have hp0 := Nat.two_pow_pos i
  unfold fX0_sumWith
  rw [bitCount_nI (by omega), ob_s, gv6 s (by omega), hT.1]
  simp only [lt_]
  rw [pk_sub h7, isB_ok (y := 5) (nI_pos (by omega)) (nI_ge (b := 5) (by omega) (by omega)), ob_s, i10, isB_ok (y := 5) (nI_pos (by omega)) (nI_ge (b := 5) (by omega) (by omega)), ob_s, i10, ig (show m - pcF 5 s < 5 by omega) (by omega), ig (show i < 5 by omega) (by omega), g1, ig (show s - 2 ^ i < 32 by omega) (by omega), cl (by omega), cl (by omega), cl (by omega), hT.2.1 _ (by omega) _ hi, hT.2.2 _ (by omega), nI_add, hk, show pcF 5 (s - 2 ^ i) = k by omega]
def enc (o : Option (Nat × Nat)) : Int32 × Int32 := match o with
  | none => (0, 2147483647)
  | some (v, i) => (nI i, nI v)
theorem nearL {f p m s k u n : Nat} {S T : St} (hm0 : 0 < m) (hm : m ≤ 5) (hD : ∀ i j, i < m → j < m → dst T f p i j ≤ 99) (hT : Tab f p m u S T) (hs : s < 2 ^ m) (hu : s ≤ u) (hk : pcF 5 s = k + 1) : ∀ (dd i fu : Nat), i + dd = m → dd < fu → fX0_nearest_L8 n (nI s) S (fun x6 x7 x8 => some x6) fu (enc (nrD (fun i => dst T f p (m - (k + 1)) i + Lk (dst T f p) m k (s - 2 ^ i)) s i)).1 (enc (nrD (fun i => dst T f p (m - (k + 1)) i + Lk (dst T f p) m k (s - 2 ^ i)) s i)).2 (nI i) = some (enc (nrD (fun i => dst T f p (m - (k + 1)) i + Lk (dst T f p) m k (s - 2 ^ i)) s m)).1 := by
  have hp := pw32 hm
  have h7 := gv7 m (by omega) s (by omega) hs
  have hval : ∀ i, i < m → dst T f p (m - (k + 1)) i + Lk (dst T f p) m k (s - 2 ^ i) ≤ 1000 := fun i hi => by
    have h1 := hD (m - (k + 1)) i (by omega) hi
    have h2 := Lk_le hm0 hD k (s - 2 ^ i) (by omega)
    omega
  intro dd
  induction dd with
  | zero =>
    intro i fu hi hfu
    obtain ⟨fu, rfl⟩ : ∃ g, fu = g + 1 := ⟨fu - 1, by omega⟩
    have e : i = m := by omega
    subst e
    rw [fX0_nearest_L8, hT.1, if_pos (nI_le (Nat.le_refl _) (by omega))]
  | succ dd ihd =>
    intro i fu hi hfu
    obtain ⟨fu, rfl⟩ : ∃ g, fu = g + 1 := ⟨fu - 1, by omega⟩
    have h := ihd (i + 1) fu (by omega) (by omega)
    rw [fX0_nearest_L8, hT.1, if_neg (nI_ge (show i < m by omega) (by omega)), bitI _ (by omega), btN (by omega), nI_1]
    cases hb : s.testBit i
    · rw [nrD, hb] at h
      exact h
    · rw [sumWith_X hm0 hm hT hs hu (show i < m by omega) hb hk, ob_s, ob_s]
      simp only [if_true]
      rw [nrD, hb, if_pos rfl] at h
      have hv := hval i (by omega)
      generalize hgen : (dst T f p (m - (k + 1)) i + Lk (dst T f p) m k (s - 2 ^ i)) = V at *
      cases hq : nrD (fun i => dst T f p (m - (k + 1)) i + Lk (dst T f p) m k (s - 2 ^ i)) s i with
      | none =>
        rw [hq] at h
        rw [if_neg (show ¬ (enc none).2 ≤ nI V from nI_ge (b := 2147483647) (by omega) (by omega))]
        exact h
      | some q =>
        obtain ⟨v, b⟩ := q
        rw [hq] at h
        have hv2 : v ≤ 1000 := by
          obtain ⟨z1, z2, z3⟩ := nrD_in _ _ _ hq
          rw [z3]; exact hval b (by omega)
        unfold stp at h
        simp only at h
        by_cases c : V < v
        · rw [if_neg (show ¬ (enc (some (v, b))).2 ≤ nI V from nI_ge c (by omega))]
          rw [if_pos c] at h
          exact h
        · rw [if_pos (show (enc (some (v, b))).2 ≤ nI V from nI_le (by omega) (by omega))]
          rw [if_neg c] at h
          exact h
theorem nearX {f p m s k u n : Nat} {S T : St} (hn : 5000 ≤ n) (hm0 : 0 < m) (hm : m ≤ 5) (hD : ∀ i j, i < m → j < m → dst T f p i j ≤ 99) (hT : Tab f p m u S T) (hs : s < 2 ^ m) (hu : s ≤ u) (hk : pcF 5 s = k + 1) : fX0_nearest n S (nI s) = some (nI (Nk (dst T f p) m k s)) ∧ s.testBit (Nk (dst T f p) m k s) = true ∧ Lk (dst T f p) m (k + 1) s = dst T f p (m - (k + 1)) (Nk (dst T f p) m k s) + Lk (dst T f p) m k (s - 2 ^ Nk (dst T f p) m k s) := by
  have hp := pw32 hm
  have hL := nearL (n := n) hm0 hm hD hT hs hu hk m 0 n (by omega) (by omega)
  cases hq : nrD (fun i => dst T f p (m - (k + 1)) i + Lk (dst T f p) m k (s - 2 ^ i)) s m with
  | none =>
    exfalso
    have := gv8 m (by omega) s (by omega) hs (nrD_none m hq)
    subst this
    rw [pcF_0] at hk; omega
  | some q =>
    obtain ⟨v, b⟩ := q
    obtain ⟨z1, z2, z3⟩ := nrD_in _ _ _ hq
    have eN : Nk (dst T f p) m k s = b := by unfold Nk; rw [hq]; rfl
    rw [hq] at hL
    refine ⟨?_, ?_, ?_⟩
    · unfold fX0_nearest
      rw [eN]; exact hL
    · rw [eN]; exact z2
    · rw [eN, Lk, hq]
      exact z3
