theorem i_dec (a x : Int32) : a - x + -1 = a - (x + 1) := by
  rw [Int32.sub_eq_add_neg, Int32.sub_eq_add_neg a (x + 1), Int32.neg_add, Int32.sub_eq_add_neg, Int32.add_assoc]
def ssN (a : Nat → Nat) (s : Nat) : Nat → Nat
  | 0 => 0
  | m + 1 => if s.testBit m then ssN a s m + a m else ssN a s m
def smN (a : Nat → Nat) : Nat → Nat
  | 0 => 0
  | m + 1 => smN a m + a m
theorem ssum_N {g : Nat → Int32} {a : Nat → Nat} {s : Nat} : ∀ m, (∀ j, j < m → g j = nI (a j)) → ssum g s m = nI (ssN a s m) := by
  intro m
  induction m with
  | zero => intro _; rfl
  | succ m ihm =>
    intro h
    rw [ssum, ssN, ihm (fun j hj => h j (by omega)), h m (by omega)]
    split
    · rw [nI_add]
    · rfl
theorem ssN_le {a : Nat → Nat} {s : Nat} : ∀ m, ssN a s m ≤ smN a m := by
  intro m
  induction m with
  | zero => exact Nat.le_refl _
  | succ m ihm => rw [ssN, smN]; split <;> omega
theorem ssN_lt {a : Nat → Nat} {s i : Nat} (hs : s.testBit i = false) : ∀ m, i < m → (∀ j, j < m → 1 ≤ a j) → ssN a s m < smN a m := by
  intro m
  induction m with
  | zero => intro h _; omega
  | succ m ihm =>
    intro h ha
    have hm := ha m (by omega)
    have hle := ssN_le (a := a) (s := s) m
    rw [ssN, smN]
    by_cases e : i = m
    · rw [← e] at hle hm ⊢; rw [hs]
      show ssN a s i < _
      omega
    · have := ihm (by omega) (fun j hj => ha j (by omega))
      split <;> omega
theorem ssN_full {a : Nat → Nat} {s : Nat} : ∀ m, (∀ j, j < m → s.testBit j = true) → ssN a s m = smN a m := by
  intro m
  induction m with
  | zero => intro _; rfl
  | succ m ihm => intro h; rw [ssN, smN, h m (by omega), if_pos rfl, ihm (fun j hj => h j (by omega))]
theorem smN_le {a : Nat → Nat} : ∀ m, (∀ j, j < m → a j ≤ 100) → smN a m ≤ 100 * m := by
  intro m
  induction m with
  | zero => intro _; exact Nat.le_refl _
  | succ m ihm => intro h; rw [smN]; have := ihm (fun j hj => h j (by omega)); have := h m (by omega); omega
theorem smN_pos {a : Nat → Nat} {m : Nat} (hm : 0 < m) (h : ∀ j, j < m → 1 ≤ a j) : 0 < smN a m := by
  obtain ⟨m, rfl⟩ : ∃ k, m = k + 1 := ⟨m - 1, by omega⟩
  rw [smN]; have := h m (by omega); omega
theorem bit_miss {m s : Nat} (hs : s < 2 ^ m - 1) : ∃ i, i < m ∧ s.testBit i = false := by
  apply Classical.byContradiction
  intro q
  have hall : ∀ i, i < m → s.testBit i = true := fun i hi => by
    cases hb : s.testBit i
    · exact absurd ⟨i, hi, hb⟩ q
    · rfl
  have : s = 2 ^ m - 1 := by
    apply Nat.eq_of_testBit_eq
    intro i
    rw [Nat.testBit_two_pow_sub_one]
    by_cases c : i < m
    · rw [hall i c, decide_eq_true c]
    · rw [decide_eq_false c]
      apply Nat.testBit_lt_two_pow
      have : 2 ^ m ≤ 2 ^ i := Nat.pow_le_pow_right (by omega) (by omega)
      omega
  omega
theorem bst_full {g ga : Nat → Int32} {a : Nat → Nat} {m : Nat} {lim : Int32} (hm0 : 0 < m) (hm : m ≤ 12) (ha : ∀ j, j < m → ga j = nI (a j) ∧ 1 ≤ a j ∧ a j ≤ 100) (hl : ¬ lim < sumR g m) : (bst g ga m lim (2 ^ m)).1 = nI (2 ^ m - 1) := by
  have hpw : 2 ^ m ≤ 2 ^ 12 := Nat.pow_le_pow_right (by omega) hm
  have hp0 := Nat.two_pow_pos m
  have hb : ∀ s, ssum ga s m = nI (ssN a s m) := fun s => ssum_N m (fun j hj => (ha j hj).1)
  have hle := smN_le (a := a) m (fun j hj => (ha j hj).2.2)
  have hpos := smN_pos (a := a) hm0 (fun j hj => (ha j hj).2.1)
  have hinv : ∀ s, s ≤ 2 ^ m - 1 → ∃ b, (bst g ga m lim s).2 = nI b ∧ b < smN a m := by
    intro s
    induction s with
    | zero => intro _; exact ⟨0, rfl, hpos⟩
    | succ s ihs =>
      intro h
      rw [bst]
      split
      · exact ihs (by omega)
      · split
        · obtain ⟨i, hi, hbit⟩ := bit_miss (m := m) (s := s) (by omega)
          exact ⟨ssN a s m, hb s, ssN_lt hbit m hi (fun j hj => (ha j hj).2.1)⟩
        · exact ihs (by omega)
  obtain ⟨b, b1, b2⟩ := hinv (2 ^ m - 1) (Nat.le_refl _)
  have hfull : ∀ j, j < m → (2 ^ m - 1).testBit j = true := fun j hj => by rw [Nat.testBit_two_pow_sub_one]; exact decide_eq_true hj
  obtain ⟨w, hw⟩ : ∃ w, 2 ^ m = w + 1 := ⟨2 ^ m - 1, by omega⟩
  have hw1 : 2 ^ m - 1 = w := by omega
  rw [hw1] at b1 hfull ⊢
  rw [hw, bst, ssum_all m hfull, if_neg hl, b1, hb, ssN_full m hfull, if_pos (nI_lt b2 (by omega))]
theorem takL {np nf nt n m : Nat} {h a2 : Int32} {S T U : St} (hG : Gat np nf nt h S T) (hm : m = ncf T nt h nf) (hm12 : m ≤ 12) (hU : ∀ j, j < m → U.2.1 26 j = nI (rof T nt h nf j)) (hq : U.1 27 = S.1 15) : ∀ (dd i fu : Nat) (x : Int32), i + dd = m → dd < fu → ∃ r, fX1_takenField_L4 n a2 S (fun x6 x7 => some (-1)) fu x (nI i) = some r ∧ fX11_taken_L56 n (nI m) U (fun x20 x21 => some ((-1), U)) fu (a2 - x) (nI i) = some (r, U) := by
  intro dd
  induction dd with
  | zero =>
    intro i fu x hi hfu
    obtain ⟨fu, rfl⟩ : ∃ g, fu = g + 1 := ⟨fu - 1, by omega⟩
    have e : i = m := by omega
    refine ⟨-1, ?_, ?_⟩
    · rw [fX1_takenField_L4, hG.1, e, hm, if_pos (nI_le (Nat.le_refl _) (by omega))]
    · rw [fX11_taken_L56, e, if_pos (nI_le (Nat.le_refl _) (by omega))]
  | succ dd ihd =>
    intro i fu x hi hfu
    obtain ⟨fu, rfl⟩ : ∃ g, fu = g + 1 := ⟨fu - 1, by omega⟩
    rw [fX1_takenField_L4, fX11_taken_L56, keepsX hG (show i < ncf T nt h nf by omega) (by omega), hG.1, ← hm, if_neg (nI_ge (show i < m by omega) (by omega)), if_neg (nI_ge (show i < m by omega) (by omega)), ob_s, bitI _ (by omega), hq, ig (show i < 60 by omega) (by omega), ig (show i < 60 by omega) (by omega), cl (show i < 2 ^ 31 by omega), hG.2.2.2.2 i (by omega), hU i (by omega)]
    simp only [nI_1]
    cases bt (S.1 15) i
    · simp only [Bool.false_eq_true, if_false, if_true]
      rw [if_neg (show ¬ (0 : Int32) = 1 by decide)]
      by_cases c : x = a2
      · rw [if_pos c, c, Int32.sub_self, if_pos rfl]
        exact ⟨_, rfl, rfl⟩
      · have c' : ¬ a2 - x = 0 := fun q => c (by
          have := i_cancel x a2
          rw [q, Int32.add_zero] at this
          exact this)
        rw [if_neg c, if_neg c', i_dec]
        exact ihd (i + 1) fu (x + 1) (by omega) (by omega)
    · simp only [if_true]
      rw [if_neg (show ¬ (1 : Int32) = 0 by decide)]
      exact ihd (i + 1) fu x (by omega) (by omega)
theorem takFull {np nf nt n m : Nat} {h a2 : Int32} {S T : St} (hG : Gat np nf nt h S T) (hm : m = ncf T nt h nf) (hm12 : m ≤ 12) (hb : ∀ j, j < m → bt (S.1 15) j = true) : ∀ (dd i fu : Nat) (x : Int32), i + dd = m → dd < fu → fX1_takenField_L4 n a2 S (fun x6 x7 => some (-1)) fu x (nI i) = some (-1) := by
  intro dd
  induction dd with
  | zero =>
    intro i fu x hi hfu
    obtain ⟨fu, rfl⟩ : ∃ g, fu = g + 1 := ⟨fu - 1, by omega⟩
    have e : i = m := by omega
    rw [fX1_takenField_L4, hG.1, e, hm, if_pos (nI_le (Nat.le_refl _) (by omega))]
  | succ dd ihd =>
    intro i fu x hi hfu
    obtain ⟨fu, rfl⟩ : ∃ g, fu = g + 1 := ⟨fu - 1, by omega⟩
    rw [fX1_takenField_L4, keepsX hG (show i < ncf T nt h nf by omega) (by omega), hG.1, ← hm, if_neg (nI_ge (show i < m by omega) (by omega)), ob_s, hb i (by omega), nI_1]
    exact ihd (i + 1) fu x (by omega) (by omega)
theorem q12 {n : Nat} (hn : 5000 ≤ n) : Q12 n Rel := by
  intro S k Fn T a1 a2 ⟨np, nf, nt, td, tl, kp, h⟩
  have hR : Rel S k Fn T := ⟨np, nf, nt, td, tl, kp, h⟩
  unfold fX10_taken fX11_taken
  rcases hou_rng a1 with ⟨e1, e2⟩ | ⟨j, hj, -, e1, e2⟩
  · rw [e1, e2]; exact ⟨-1, S, T, rfl, rfl, hR⟩
  have h60' := h.2.2.1.1
  have hnc := ncf_le (T := T) (nt := nt) (h := a1) nf
  rw [e1, e2, ob_s, ob_s, i10, i10]
  by_cases c1 : a2 < 0
  · rw [if_pos c1, if_neg (Int32.not_le.mpr c1)]; exact ⟨-1, S, T, rfl, rfl, hR⟩
  rw [if_neg c1, if_pos (Int32.not_lt.mp c1)]
  obtain ⟨S', x1, x2, hG⟩ := gatX a1 hn h
  obtain ⟨g, m1, m2⟩ := holdM a1 hn h
  have hR2 : ∀ U g, RelP np nf nt td tl kp U k Fn T → RelP np nf nt td tl kp U k Fn (sR T 26 g) := fun U g q => q.congr (eqX.rf U) (eqM_sR (by omega))
  have hR3 : ∀ U g, RelP np nf nt td tl kp U k Fn T → Rel U k Fn (sR T 26 g) := fun U g q => ⟨np, nf, nt, td, tl, kp, hR2 U g q⟩
  obtain ⟨g', m3, m4⟩ := countsM a1 hn (hR2 S g h)
  rw [ncf_sR, sR_sR] at m3
  have m4' : ∀ j, j < ncf T nt a1 nf → g' j = nI (rof T nt a1 nf j) := fun j hj => by
    have := m4 j (by rw [ncf_sR]; exact hj)
    rw [rof_sR] at this; exact this
  rw [x1, m1]
  simp only [lt_, ob_s, mayM a1 hn (hR2 S g h).1, alw_sR, m3, mayM a1 hn (hR2 S g' h).1]
  rcases Nat.lt_or_ge 12 (ncf T nt a1 nf) with q | q
  · have ec : fX1_choose n S' = some (0, S') := by
      unfold fX1_choose
      rw [hG.1, if_neg (show ¬ nI (ncf T nt a1 nf) ≤ 12 from nI_ge (a := 12) q (by omega))]
    rw [ec, ob_s, if_neg (show ¬ nI (ncf T nt a1 nf) ≤ 12 from nI_ge (a := 12) q (by omega))]
    by_cases c2 : alw T a1 np < hsum T nt a1 nf
    · rw [if_pos c2]; exact ⟨-1, S', _, rfl, rfl, hR3 _ _ x2⟩
    · rw [if_neg c2]; exact ⟨-1, S', _, rfl, rfl, hR3 _ _ x2⟩
  · obtain ⟨S2, y1, y2, y3, y4, y5⟩ := chooseX hn x2 hG q
    rw [y1, ob_s, if_pos (show nI (ncf T nt a1 nf) ≤ 12 from nI_le (b := 12) q (by omega))]
    simp only [i10]
    by_cases c2 : alw T a1 np < hsum T nt a1 nf
    · obtain ⟨T2, z1, z2, z3, z4, z5⟩ := keepsM (lim := alw T a1 np) hn h q m4'
      have hz : RelP np nf nt td tl kp S2 k Fn T2 := by
        refine (hR2 S2 g' y2).congr (eqX.rf S2) ?_
        exact ⟨fun i hi => z3.2 i (by omega) (by omega), fun a ha => by rw [z3.1], fun j hj => by rw [z3.1]⟩
      have hRz : Rel S2 k Fn T2 := ⟨np, nf, nt, td, tl, kp, hz⟩
      rw [if_pos c2, z1, ob_s]
      obtain ⟨r, r1, r2⟩ := takL (n := n) (a2 := a2) (U := T2) y3 rfl q (fun j hj => by rw [z3.1]; exact m4' j hj) (by rw [z4, y4]) (ncf T nt a1 nf) 0 n 0 (by omega) (by omega)
      rw [Int32.sub_zero] at r2
      unfold fX1_takenField
      rw [show fX1_takenField_L4 n a2 S2 (fun x6 x7 => some (-1)) n 0 0 = some r from r1, show fX11_taken_L56 n (nI (ncf T nt a1 nf)) T2 (fun x20 x21 => some (-1, T2)) n a2 0 = some (r, T2) from r2]
      exact ⟨r, S2, T2, rfl, rfl, hRz⟩
    · rw [if_neg c2]
      have hfull : fX1_takenField n S2 a2 = some (-1) := by
        unfold fX1_takenField
        refine takFull (n := n) y3 rfl q (fun j hj => ?_) (ncf T nt a1 nf) 0 n 0 (by omega) (by omega)
        rw [y4, bst_full (g := gst T nt nf a1) (ga := gar T nt nf a1) (a := fun j => (gar T nt nf a1 j).toNatClampNeg) (by omega) q (fun i hi => ?_) c2, btN (by omega), Nat.testBit_two_pow_sub_one]
        · exact decide_eq_true hj
        · obtain ⟨-, -, -, -, -, -, ⟨v, v1, v2, ev⟩, -⟩ := h.2.2.1.2.2.2 _ (rof_lt nf i hi)
          have eg : gar T nt nf a1 i = nI v := ev
          simp only [eg, cl (show v < 2 ^ 31 by omega)]
          exact ⟨trivial, v1, v2⟩
      rw [hfull, ob_s]
      exact ⟨-1, S2, _, rfl, rfl, hR3 _ _ y2⟩
