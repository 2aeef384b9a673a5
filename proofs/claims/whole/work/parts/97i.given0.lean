/-! land given: the first of the least ways, found by sets -/
def stp (st : Option (Nat × Nat)) (v i : Nat) : Option (Nat × Nat) := match st with
  | none => some (v, i)
  | some (l, b) => if v < l then some (v, i) else some (l, b)
def usd (m : Nat) : Nat → Nat → Nat
  | 0, _ => 0
  | k + 1, y => 2 ^ (y / m ^ k) ||| usd m k (y % m ^ k)
def smd (D : Nat → Nat → Nat) (m : Nat) : Nat → Nat → Nat
  | 0, _ => 0
  | k + 1, y => D (m - (k + 1)) (y / m ^ k) + smd D m k (y % m ^ k)
def scn (D : Nat → Nat → Nat) (m k U s a : Nat) : Nat → Option (Nat × Nat) → Option (Nat × Nat)
  | 0, st => st
  | l + 1, st => if (U ||| usd m k l) = 2 ^ m - 1 then stp (scn D m k U s a l st) (s + smd D m k l) (a + l) else scn D m k U s a l st
def nrD (f : Nat → Nat) (R : Nat) : Nat → Option (Nat × Nat)
  | 0 => none
  | j + 1 => if R.testBit j then stp (nrD f R j) (f j) j else nrD f R j
def Lk (D : Nat → Nat → Nat) (m : Nat) : Nat → Nat → Nat
  | 0, _ => 0
  | k + 1, R => ((nrD (fun i => D (m - (k + 1)) i + Lk D m k (R - 2 ^ i)) R m).getD (0, 0)).1
def Nk (D : Nat → Nat → Nat) (m k R : Nat) : Nat := ((nrD (fun i => D (m - (k + 1)) i + Lk D m k (R - 2 ^ i)) R m).getD (0, 0)).2
def Bk (D : Nat → Nat → Nat) (m : Nat) : Nat → Nat → Nat
  | 0, _ => 0
  | k + 1, R => Nk D m k R * m ^ k + Bk D m k (R - 2 ^ Nk D m k R)
theorem gv1 : ∀ m, m < 6 → ∀ U, U < 32 → U < 2 ^ m → pcF 5 U = m → U = 2 ^ m - 1 := by decide +kernel
theorem gv2 : ∀ m, m < 6 → pcF 5 (2 ^ m - 1) = m := by decide +kernel
theorem gv3a : ∀ m, m < 6 → ∀ U, U < 32 → U < 2 ^ m → ∀ j, j < 5 → j < m → U ||| 2 ^ j < 2 ^ m := by decide +kernel
theorem gv3b : ∀ U, U < 32 → ∀ j, j < 5 → pcF 5 (U ||| 2 ^ j) = pcF 5 U + (if U.testBit j = true then 0 else 1) := by decide +kernel
theorem gv3c : ∀ m, m < 6 → ∀ U, U < 32 → U < 2 ^ m → ∀ j, j < 5 → j < m → (2 ^ m - 1 - U).testBit j = (!U.testBit j) := by decide +kernel
theorem gv3e : ∀ m, m < 6 → ∀ U, U < 32 → ∀ j, j < 5 → (decide (U < 2 ^ m) && decide (j < m) && !U.testBit j && !decide (2 ^ m - 1 - (U ||| 2 ^ j) = 2 ^ m - 1 - U - 2 ^ j)) = false := by decide +kernel
theorem gv3d (m : Nat) (hm : m < 6) (U : Nat) (hU : U < 32) (hU2 : U < 2 ^ m) (j : Nat) (hj : j < 5) (hj2 : j < m) : (U.testBit j = true ∨ 2 ^ m - 1 - (U ||| 2 ^ j) = 2 ^ m - 1 - U - 2 ^ j) := by
  have := gv3e m hm U hU j hj
  rw [decide_eq_true hU2, decide_eq_true hj2] at this
  cases hb : U.testBit j
  · right
    rw [hb] at this
    simpa using this
  · left; rfl
theorem gv3 (m : Nat) (hm : m < 6) (U : Nat) (hU : U < 32) (hU2 : U < 2 ^ m) (j : Nat) (hj : j < 5) (hj2 : j < m) : U ||| 2 ^ j < 2 ^ m ∧ pcF 5 (U ||| 2 ^ j) = pcF 5 U + (if U.testBit j = true then 0 else 1) ∧ (2 ^ m - 1 - U).testBit j = (!U.testBit j) ∧ (U.testBit j = true ∨ 2 ^ m - 1 - (U ||| 2 ^ j) = 2 ^ m - 1 - U - 2 ^ j) := ⟨gv3a m hm U hU hU2 j hj hj2, gv3b U hU j hj, gv3c m hm U hU hU2 j hj hj2, gv3d m hm U hU hU2 j hj hj2⟩
theorem gv4 : ∀ m, m < 6 → ∀ U, U < 32 → U < 2 ^ m → (∀ j, j < m → (2 ^ m - 1 - U).testBit j = false) → pcF 5 U = m := by decide +kernel
theorem pw32 {m : Nat} (hm : m ≤ 5) : 2 ^ m ≤ 32 := Nat.pow_le_pow_right (n := 2) (by omega) hm
theorem stp_stp (st : Option (Nat × Nat)) (s v w i j : Nat) : stp (stp st (s + v) i) (s + w) j = if w < v then stp st (s + w) j else stp st (s + v) i := by
  unfold stp
  cases st with
  | none =>
    by_cases c : w < v
    · simp [c]
    · simp [c]
  | some q =>
    obtain ⟨l, b⟩ := q
    by_cases c : w < v
    · by_cases c1 : s + v < l
      · have : s + w < l := by omega
        simp [c, c1, this]
      · by_cases c2 : s + w < l
        · simp [c, c1, c2]
        · simp [c, c1, c2]
    · by_cases c1 : s + v < l
      · simp [c, c1]
      · have : ¬ s + w < l := by omega
        simp [c, c1, this]
theorem scn_split {D : Nat → Nat → Nat} {m k U s a j : Nat} {st : Option (Nat × Nat)} (hm : 0 < m) : ∀ l, l ≤ m ^ k → scn D m (k + 1) U s a (j * m ^ k + l) st = scn D m k (U ||| 2 ^ j) (s + D (m - (k + 1)) j) (a + j * m ^ k) l (scn D m (k + 1) U s a (j * m ^ k) st) := by
  intro l
  induction l with
  | zero => intro _; rfl
  | succ l ihl =>
    intro hl
    have hpos : 0 < m ^ k := Nat.pow_pos hm
    have e1 : (j * m ^ k + l) / m ^ k = j := by
      rw [Nat.add_comm, Nat.add_mul_div_right _ _ hpos, Nat.div_eq_of_lt (by omega), Nat.zero_add]
    have e2 : (j * m ^ k + l) % m ^ k = l := by
      rw [Nat.add_comm, Nat.add_mul_mod_self_right, Nat.mod_eq_of_lt (by omega)]
    rw [← Nat.add_assoc, scn, scn, ihl (by omega), usd, smd, e1, e2, Nat.or_assoc, Nat.add_assoc s, Nat.add_assoc a]
theorem scn_dead {D : Nat → Nat → Nat} {m : Nat} (hm0 : 0 < m) (hm : m ≤ 5) : ∀ k U s a st l, U < 2 ^ m → pcF 5 U + k < m → l ≤ m ^ k → scn D m k U s a l st = st := by
  have hp := pw32 hm
  intro k
  induction k with
  | zero =>
    intro U s a st l hU hpc hl
    have hne : ¬ U = 2 ^ m - 1 := fun q => by
      have := gv2 m (by omega); rw [← q] at this; omega
    have hl' : l ≤ 1 := hl
    match l, hl' with
    | 0, _ => rfl
    | 1, _ => rw [scn, usd, Nat.or_zero, if_neg hne]; rfl
  | succ k ihk =>
    intro U s a st l hU hpc hl
    have hpos : 0 < m ^ k := Nat.pow_pos hm0
    have hsub : ∀ j, j ≤ m → scn D m (k + 1) U s a (j * m ^ k) st = st := by
      intro j
      induction j with
      | zero => intro _; rw [Nat.zero_mul]; rfl
      | succ j ihj =>
        intro hj
        obtain ⟨g1, g2, g3, g4⟩ := gv3 m (by omega) U (by omega) hU j (by omega) (by omega)
        rw [Nat.succ_mul, scn_split hm0 _ (Nat.le_refl _), ihj (by omega)]
        apply ihk _ _ _ _ _ g1 _ (Nat.le_refl _)
        rw [g2]; split <;> omega
    have hdm : l = (l / m ^ k) * m ^ k + l % m ^ k := by
      have := Nat.div_add_mod l (m ^ k); rw [Nat.mul_comm] at this; omega
    have hlt : l % m ^ k < m ^ k := Nat.mod_lt _ hpos
    rcases Nat.lt_or_ge (l / m ^ k) m with q | q
    · obtain ⟨g1, g2, g3, g4⟩ := gv3 m (by omega) U (by omega) hU (l / m ^ k) (by omega) q
      rw [hdm, scn_split hm0 _ (by omega), hsub _ (by omega)]
      apply ihk _ _ _ _ _ g1 _ (by omega)
      rw [g2]; split <;> omega
    · have e : l = m * m ^ k := by
        rw [Nat.pow_succ, Nat.mul_comm] at hl
        exact Nat.le_antisymm hl (Nat.le_trans (Nat.mul_le_mul_right (m ^ k) q) (Nat.div_mul_le_self _ _))
      rw [e]
      exact hsub m (Nat.le_refl _)
theorem nrD_none {f : Nat → Nat} {R : Nat} : ∀ j, nrD f R j = none → ∀ i, i < j → R.testBit i = false := by
  intro j
  induction j with
  | zero => intro _ i hi; omega
  | succ j ihj =>
    intro h i hi
    rw [nrD] at h
    by_cases c : R.testBit j = true
    · rw [if_pos c] at h
      unfold stp at h
      cases hq : nrD f R j with
      | none => rw [hq] at h; cases h
      | some q => rw [hq] at h; simp only at h; split at h <;> cases h
    · rw [if_neg c] at h
      by_cases e : i = j
      · rw [e]; simpa using c
      · exact ihj h i (by omega)
theorem nrD_in {f : Nat → Nat} {R : Nat} : ∀ j v i, nrD f R j = some (v, i) → i < j ∧ R.testBit i = true ∧ v = f i := by
  intro j
  induction j with
  | zero => intro v i h; cases h
  | succ j ihj =>
    intro v i h
    rw [nrD] at h
    by_cases c : R.testBit j = true
    · rw [if_pos c] at h
      unfold stp at h
      cases hq : nrD f R j with
      | none => rw [hq] at h; cases h; exact ⟨by omega, c, rfl⟩
      | some q =>
        obtain ⟨l, b⟩ := q
        rw [hq] at h
        simp only at h
        split at h
        · cases h; exact ⟨by omega, c, rfl⟩
        · cases h
          obtain ⟨a1, a2, a3⟩ := ihj _ _ hq
          exact ⟨by omega, a2, a3⟩
    · rw [if_neg c] at h
      obtain ⟨a1, a2, a3⟩ := ihj _ _ h
      exact ⟨by omega, a2, a3⟩
theorem blk {D : Nat → Nat → Nat} {m : Nat} (hm0 : 0 < m) (hm : m ≤ 5) : ∀ k U s a st, U < 2 ^ m → pcF 5 U + k = m → scn D m k U s a (m ^ k) st = stp st (s + Lk D m k (2 ^ m - 1 - U)) (a + Bk D m k (2 ^ m - 1 - U)) := by
  have hp := pw32 hm
  intro k
  induction k with
  | zero =>
    intro U s a st hU hpc
    have e := gv1 m (by omega) U (by omega) hU (by omega)
    show scn D m 0 U s a 1 st = _
    rw [scn, usd, Nat.or_zero, if_pos e]
    rfl
  | succ k ihk =>
    intro U s a st hU hpc
    have hsub : ∀ j, j ≤ m → scn D m (k + 1) U s a (j * m ^ k) st = match nrD (fun i => D (m - (k + 1)) i + Lk D m k (2 ^ m - 1 - U - 2 ^ i)) (2 ^ m - 1 - U) j with
        | none => st
        | some (v, i) => stp st (s + v) (a + (i * m ^ k + Bk D m k (2 ^ m - 1 - U - 2 ^ i))) := by
      intro j
      induction j with
      | zero => intro _; rw [Nat.zero_mul]; rfl
      | succ j ihj =>
        intro hj
        obtain ⟨g1, g2, g3, g4⟩ := gv3 m (by omega) U (by omega) hU j (by omega) (by omega)
        rw [Nat.succ_mul, scn_split hm0 _ (Nat.le_refl _), ihj (by omega), nrD, g3]
        cases hb : U.testBit j
        · rw [hb] at g2 g4
          rw [ihk _ _ _ _ g1 (by rw [g2]; simp; omega)]
          rcases g4 with g4 | g4
          · cases g4
          rw [g4]
          simp only [Bool.not_false, if_true]
          cases hq : nrD (fun i => D (m - (k + 1)) i + Lk D m k (2 ^ m - 1 - U - 2 ^ i)) (2 ^ m - 1 - U) j with
          | none => simp only [stp]; cases st <;> simp only [Nat.add_assoc]
          | some q =>
            obtain ⟨l, b⟩ := q
            simp only
            rw [Nat.add_assoc s, stp_stp]
            simp only [stp]
            by_cases c : D (m - (k + 1)) j + Lk D m k (2 ^ m - 1 - U - 2 ^ j) < l
            · simp only [if_pos c, Nat.add_assoc]
            · simp only [if_neg c]
        · rw [hb] at g2
          rw [scn_dead hm0 hm _ _ _ _ _ _ g1 (by rw [g2]; simp; omega) (Nat.le_refl _)]
          simp
    have hfin := hsub m (Nat.le_refl _)
    rw [show m * m ^ k = m ^ (k + 1) by rw [Nat.pow_succ, Nat.mul_comm]] at hfin
    rw [hfin, Lk, Bk, Nk]
    cases hq : nrD (fun i => D (m - (k + 1)) i + Lk D m k (2 ^ m - 1 - U - 2 ^ i)) (2 ^ m - 1 - U) m with
    | none =>
      exfalso
      have := gv4 m (by omega) U (by omega) hU (nrD_none m hq)
      omega
    | some q => rfl
