/-! what a house keeps -/
theorem btN {s k : Nat} (hk : k < 32) : bt (nI s) k = s.testBit k := by
  unfold bt
  show (BitVec.ofNat 32 s).getLsbD k = _
  rw [BitVec.getLsbD_ofNat]; simp [hk]
def ssum (g : Nat → Int32) (s : Nat) : Nat → Int32
  | 0 => 0
  | m + 1 => if s.testBit m then ssum g s m + g m else ssum g s m
theorem ssum_none {g : Nat → Int32} {s : Nat} : ∀ m, (∀ j, j < m → s.testBit j = false) → ssum g s m = 0 := by
  intro m
  induction m with
  | zero => intro _; rfl
  | succ m ihm => intro h; rw [ssum, h m (by omega), ihm (fun j hj => h j (by omega))]; rfl
theorem ssum_all {g : Nat → Int32} {s : Nat} : ∀ m, (∀ j, j < m → s.testBit j = true) → ssum g s m = sumR g m := by
  intro m
  induction m with
  | zero => intro _; rfl
  | succ m ihm => intro h; rw [ssum, h m (by omega), if_pos rfl, sumR, ihm (fun j hj => h j (by omega))]
theorem i_cancel (a b : Int32) : a + (b - a) = b := by
  rw [Int32.sub_eq_add_neg, Int32.add_comm b, ← Int32.add_assoc, Int32.add_right_neg, Int32.zero_add]
theorem i_swap (a b c : Int32) : a + b + c = a + c + b := by
  rw [Int32.add_assoc, Int32.add_comm b, ← Int32.add_assoc]
theorem ssum_step {g : Nat → Int32} {e q : Nat} : ∀ m, e < m → ssum g (2 ^ (e + 1) * q + 2 ^ e) m = ssum g (2 ^ (e + 1) * q + (2 ^ e - 1)) m + (g e - sumR g e) := by
  have hp : 2 ^ e < 2 ^ (e + 1) := Nat.pow_lt_pow_right (by omega) (by omega)
  have hp0 : 0 < 2 ^ e := Nat.two_pow_pos e
  have b1 : ∀ j, (2 ^ (e + 1) * q + 2 ^ e).testBit j = if j < e + 1 then decide (e = j) else q.testBit (j - (e + 1)) := fun j => by
    rw [Nat.testBit_two_pow_mul_add q hp j, Nat.testBit_two_pow]
  have b2 : ∀ j, (2 ^ (e + 1) * q + (2 ^ e - 1)).testBit j = if j < e + 1 then decide (j < e) else q.testBit (j - (e + 1)) := fun j => by
    rw [Nat.testBit_two_pow_mul_add q (show 2 ^ e - 1 < 2 ^ (e + 1) by omega) j, Nat.testBit_two_pow_sub_one]
  intro m
  induction m with
  | zero => intro h; omega
  | succ m ihm =>
    intro h
    by_cases c : e = m
    · subst c
      have t1 : (2 ^ (e + 1) * q + 2 ^ e).testBit e = true := by rw [b1, if_pos (show e < e + 1 by omega)]; exact decide_eq_true rfl
      have t2 : (2 ^ (e + 1) * q + (2 ^ e - 1)).testBit e = false := by rw [b2, if_pos (show e < e + 1 by omega)]; exact decide_eq_false (by omega)
      rw [ssum, ssum, t1, t2, if_pos rfl, ssum_none e (fun j hj => by rw [b1, if_pos (show j < e + 1 by omega)]; exact decide_eq_false (by omega)), ssum_all e (fun j hj => by rw [b2, if_pos (show j < e + 1 by omega)]; exact decide_eq_true hj), Int32.zero_add]
      show g e = sumR g e + (g e - sumR g e)
      rw [i_cancel]
    · have t1 : (2 ^ (e + 1) * q + 2 ^ e).testBit m = q.testBit (m - (e + 1)) := by rw [b1, if_neg (show ¬ m < e + 1 by omega)]
      have t2 : (2 ^ (e + 1) * q + (2 ^ e - 1)).testBit m = q.testBit (m - (e + 1)) := by rw [b2, if_neg (show ¬ m < e + 1 by omega)]
      rw [ssum, ssum, t1, t2, ihm (by omega)]
      split
      · rw [i_swap]
      · rfl
def tzf : Nat → Nat → Nat
  | 0, _ => 0
  | k + 1, s => if s % 2 = 1 then 0 else tzf k (s / 2) + 1
theorem tz_all2 : ∀ a, a < 64 → ∀ b, b < 64 → 64 * a + b = 0 ∨ (fJ6_numberOfTrailingZeros_0f7a4 (nI (64 * a + b)) = some (nI (tzf 12 (64 * a + b))) ∧ tzf 12 (64 * a + b) < 12 ∧ (64 * a + b) % 2 ^ (tzf 12 (64 * a + b) + 1) = 2 ^ tzf 12 (64 * a + b)) := by decide +kernel
theorem tz_all (s : Nat) (hs : s < 4096) : s = 0 ∨ (fJ6_numberOfTrailingZeros_0f7a4 (nI s) = some (nI (tzf 12 s)) ∧ tzf 12 s < 12 ∧ s % 2 ^ (tzf 12 s + 1) = 2 ^ tzf 12 s) := by
  have := tz_all2 (s / 64) (by omega) (s % 64) (by omega)
  rw [Nat.div_add_mod s 64] at this
  exact this
theorem tz_lt {m s : Nat} (hs : s < 2 ^ m) (h0 : 0 < s) {e : Nat} (he : s % 2 ^ (e + 1) = 2 ^ e) : e < m := by
  rcases Nat.lt_or_ge e m with q | q
  · exact q
  · have h1 : 2 ^ m ≤ 2 ^ e := Nat.pow_le_pow_right (by omega) q
    have h2 : s % 2 ^ (e + 1) ≤ s := Nat.mod_le _ _
    omega
def bst (g a : Nat → Int32) (m : Nat) (lim : Int32) : Nat → Int32 × Int32
  | 0 => (0, 0)
  | s + 1 => if lim < ssum g s m then bst g a m lim s else if (bst g a m lim s).2 < ssum a s m then (nI s, ssum a s m) else bst g a m lim s
theorem bst_1 {g a : Nat → Int32} {m : Nat} {lim : Int32} : bst g a m lim 1 = (0, 0) := by
  rw [bst, ssum_none m (fun j _ => Nat.zero_testBit j), ssum_none m (fun j _ => Nat.zero_testBit j)]
  show (if lim < 0 then (0, 0) else if (0 : Int32) < 0 then _ else (0, 0)) = _
  rw [if_neg (show ¬ (0 : Int32) < 0 by decide)]
  split <;> rfl
theorem shl1 {m : Nat} (hm : m ≤ 30) : (1 : Int32) <<< (nI m &&& 31) = nI (2 ^ m) := by
  have h : 2 ^ m ≤ 2 ^ 30 := Nat.pow_le_pow_right (by omega) hm
  have := pk_shlN (n := 1) (nI m &&& 31) m (s_l m (by omega)) (by omega)
  rw [Nat.one_mul] at this
  exact this
theorem Gat.cg {np nf nt : Nat} {h : Int32} {S S' T : St} (hG : Gat np nf nt h S T) (e1 : S'.1 11 = S.1 11) (e2 : S'.1 12 = S.1 12) (e3 : S'.1 13 = S.1 13) (e4 : S'.1 14 = S.1 14) (e5 : S'.2.1 13 = S.2.1 13) : Gat np nf nt h S' T := by
  obtain ⟨g1, g2, g3, g4, g5⟩ := hG
  exact ⟨e1.trans g1, e2.trans g2, e3.trans g3, e4.trans g4, fun j hj => by rw [e5]; exact g5 j hj⟩
/-- standard and area of the j-th counting field -/
def gst (T : St) (nt nf : Nat) (h : Int32) (j : Nat) : Int32 := std T (rof T nt h nf j)
def gar (T : St) (nt nf : Nat) (h : Int32) (j : Nat) : Int32 := T.2.1 9 (rof T nt h nf j)
theorem prepL {np nf nt td tl kp k n m : Nat} {T : St} {Fn : Nat → Nat → Int32} {h : Int32} (hm : m = ncf T nt h nf) (hm12 : m ≤ 12) : ∀ (dd i fu : Nat) (S1 : St), RelP np nf nt td tl kp S1 k Fn T → Gat np nf nt h S1 T → (∀ j, j < i → S1.2.1 14 j = gst T nt nf h j - sumR (gst T nt nf h) j ∧ S1.2.1 15 j = gar T nt nf h j - sumR (gar T nt nf h) j) → i + dd = m → dd < fu → ∃ S', fX1_prepareSteps_L8 n (fun x13 x14 x15 S16 => some S16) fu (sumR (gst T nt nf h) i) (sumR (gar T nt nf h) i) (nI i) S1 = some S' ∧ RelP np nf nt td tl kp S' k Fn T ∧ Gat np nf nt h S' T ∧ ∀ j, j < m → S'.2.1 14 j = gst T nt nf h j - sumR (gst T nt nf h) j ∧ S'.2.1 15 j = gar T nt nf h j - sumR (gar T nt nf h) j := by
  intro dd
  induction dd with
  | zero =>
    intro i fu S1 hR hG hs hi hfu
    obtain ⟨fu, rfl⟩ : ∃ g, fu = g + 1 := ⟨fu - 1, by omega⟩
    have e : i = m := by omega
    subst e
    refine ⟨S1, ?_, hR, hG, hs⟩
    rw [fX1_prepareSteps_L8, hG.1, ← hm, if_pos (nI_le (Nat.le_refl _) (by omega))]
  | succ dd ihd =>
    intro i fu S1 hR hG hs hi hfu
    obtain ⟨fu, rfl⟩ : ∃ g, fu = g + 1 := ⟨fu - 1, by omega⟩
    have hi2 : i < ncf T nt h nf := by omega
    have hro := rof_lt (T := T) (nt := nt) (h := h) nf i hi2
    obtain ⟨hPe, hKi, hLa, hTr, hTa, hLw, hPr, hSl⟩ := id hR
    rw [fX1_prepareSteps_L8, hG.1, ← hm, if_neg (nI_ge (show i < m by omega) (by omega)), if_neg (show ¬ (12 : Int32) ≤ nI i from nI_ge (b := 12) (by omega) (by omega)), ig (show i < 60 by omega) (by omega), cl (show i < 2 ^ 31 by omega), hG.2.2.2.2 i hi2, stdX hLa hLw hro, ob_s, ih (show i < 60 by omega) h60, areaX hLa hro, ob_s, ih (show i < 12 by omega) (by omega)]
    simp only [lt_, ih (show i < 12 by omega) (show 12 < 2 ^ 31 by omega), nI_1]
    refine ihd (i + 1) fu _ ((hR.congr (eqX_sA (a := 14) (by omega)) (eqM.rf T)).congr (eqX_sA (a := 15) (by omega)) (eqM.rf T)) (hG.cg rfl rfl rfl rfl ?_) (fun j hj => ?_) (by omega) (by omega)
    · funext j; rw [sA_2, if_neg (by omega), sA_2, if_neg (by omega)]
    · by_cases e : j = i
      · subst e
        simp [sA_2]
        exact ⟨rfl, rfl⟩
      · simp [sA_2, e]
        exact hs j (by omega)
theorem chooseL {np nf nt td tl kp k n m : Nat} {T : St} {Fn : Nat → Nat → Int32} {h : Int32} (hm : m = ncf T nt h nf) (hm12 : m ≤ 12) : ∀ (dd s fu : Nat) (S1 : St), RelP np nf nt td tl kp S1 k Fn T → Gat np nf nt h S1 T → (∀ j, j < m → S1.2.1 14 j = gst T nt nf h j - sumR (gst T nt nf h) j ∧ S1.2.1 15 j = gar T nt nf h j - sumR (gar T nt nf h) j) → S1.1 15 = (bst (gst T nt nf h) (gar T nt nf h) m (alw T h np) (s + 1)).1 → S1.1 16 = (bst (gst T nt nf h) (gar T nt nf h) m (alw T h np) (s + 1)).2 → s + 1 + dd = 2 ^ m → dd < fu → ∃ S', fX1_choose_L43 n (nI (2 ^ m)) (fun x18 x19 x20 S21 => some (1, S21)) fu (ssum (gst T nt nf h) s m) (ssum (gar T nt nf h) s m) (nI (s + 1)) S1 = some (1, S') ∧ RelP np nf nt td tl kp S' k Fn T ∧ Gat np nf nt h S' T ∧ S'.1 15 = (bst (gst T nt nf h) (gar T nt nf h) m (alw T h np) (2 ^ m)).1 ∧ S'.1 16 = (bst (gst T nt nf h) (gar T nt nf h) m (alw T h np) (2 ^ m)).2 := by
  have hpw : 2 ^ m ≤ 2 ^ 12 := Nat.pow_le_pow_right (by omega) hm12
  intro dd
  induction dd with
  | zero =>
    intro s fu S1 hR hG hs h15 h16 hi hfu
    obtain ⟨fu, rfl⟩ : ∃ g, fu = g + 1 := ⟨fu - 1, by omega⟩
    rw [Nat.add_zero] at hi
    rw [hi] at h15 h16 ⊢
    refine ⟨S1, ?_, hR, hG, h15, h16⟩
    rw [fX1_choose_L43, if_pos (nI_le (Nat.le_refl _) (by omega))]
  | succ dd ihd =>
    intro s fu S1 hR hG hs h15 h16 hi hfu
    obtain ⟨fu, rfl⟩ : ∃ g, fu = g + 1 := ⟨fu - 1, by omega⟩
    rcases tz_all (s + 1) (by omega) with q | ⟨z1, z2, z3⟩
    · omega
    · have he := tz_lt (m := m) (show s + 1 < 2 ^ m by omega) (by omega) z3
      rw [fX1_choose_L43, if_neg (nI_ge (show s + 1 < 2 ^ m by omega) (by omega)), z1, ob_s]
      generalize tzf 12 (s + 1) = e at *
      obtain ⟨s14, s15⟩ := hs e he
      have hdec : s + 1 = 2 ^ (e + 1) * ((s + 1) / 2 ^ (e + 1)) + 2 ^ e := by
        have := Nat.div_add_mod (s + 1) (2 ^ (e + 1)); omega
      have hdec2 : s = 2 ^ (e + 1) * ((s + 1) / 2 ^ (e + 1)) + (2 ^ e - 1) := by
        have := Nat.two_pow_pos e; omega
      have st : ∀ g : Nat → Int32, ssum g s m + (g e - sumR g e) = ssum g (s + 1) m := by
        intro g
        have := ssum_step (g := g) (e := e) (q := (s + 1) / 2 ^ (e + 1)) m he
        rw [← hdec, ← hdec2] at this
        exact this.symm
      rw [if_pos (show nI e < 12 from nI_lt (b := 12) z2 (by omega)), ig z2 (by omega), cl (by omega), s14, st]
      simp only [lt_]
      rw [ih z2 (by omega), s15, st, hG.2.2.2.1, h16, nI_1]
      by_cases c1 : alw T h np < ssum (gst T nt nf h) (s + 1) m
      · have eb : bst (gst T nt nf h) (gar T nt nf h) m (alw T h np) (s + 1 + 1) = bst (gst T nt nf h) (gar T nt nf h) m (alw T h np) (s + 1) := by
          rw [bst, if_pos c1]
        rw [if_pos c1]
        exact ihd (s + 1) fu S1 hR hG hs (by rw [eb]; exact h15) (by rw [eb]; exact h16) (by omega) (by omega)
      · rw [if_neg c1]
        by_cases c2 : (bst (gst T nt nf h) (gar T nt nf h) m (alw T h np) (s + 1)).2 < ssum (gar T nt nf h) (s + 1) m
        · have eb : bst (gst T nt nf h) (gar T nt nf h) m (alw T h np) (s + 1 + 1) = (nI (s + 1), ssum (gar T nt nf h) (s + 1) m) := by
            rw [bst, if_neg c1, if_pos c2]
          rw [if_neg (Int32.not_le.mpr c2)]
          refine ihd (s + 1) fu _ ((hR.congr (eqX_sS (k := 15) (by omega)) (eqM.rf T)).congr (eqX_sS (k := 16) (by omega)) (eqM.rf T)) (hG.cg rfl rfl rfl rfl rfl) hs ?_ ?_ (by omega) (by omega)
          · rw [eb]; rfl
          · rw [eb]; rfl
        · have eb : bst (gst T nt nf h) (gar T nt nf h) m (alw T h np) (s + 1 + 1) = bst (gst T nt nf h) (gar T nt nf h) m (alw T h np) (s + 1) := by
            rw [bst, if_neg c1, if_neg c2]
          rw [if_pos (Int32.not_lt.mp c2)]
          exact ihd (s + 1) fu S1 hR hG hs (by rw [eb]; exact h15) (by rw [eb]; exact h16) (by omega) (by omega)
theorem chooseX {np nf nt td tl kp k n : Nat} {S T : St} {Fn : Nat → Nat → Int32} {h : Int32} (hn : 5000 ≤ n) (hR : RelP np nf nt td tl kp S k Fn T) (hG : Gat np nf nt h S T) (hm12 : ncf T nt h nf ≤ 12) : ∃ S', fX1_choose n S = some (1, S') ∧ RelP np nf nt td tl kp S' k Fn T ∧ Gat np nf nt h S' T ∧ S'.1 15 = (bst (gst T nt nf h) (gar T nt nf h) (ncf T nt h nf) (alw T h np) (2 ^ ncf T nt h nf)).1 ∧ S'.1 16 = (bst (gst T nt nf h) (gar T nt nf h) (ncf T nt h nf) (alw T h np) (2 ^ ncf T nt h nf)).2 := by
  obtain ⟨m, hm⟩ : ∃ m, m = ncf T nt h nf := ⟨_, rfl⟩
  have hpw : 2 ^ m ≤ 2 ^ 12 := Nat.pow_le_pow_right (by omega) (by omega)
  have hp0 := Nat.two_pow_pos m
  unfold fX1_choose
  rw [hG.1, if_pos (show nI (ncf T nt h nf) ≤ 12 from nI_le (b := 12) hm12 (by omega))]
  obtain ⟨S1, e1, r1, g1, s1⟩ := prepL (n := n) hm (by omega) m 0 n S hR hG (fun j hj => by omega) (by omega) (by omega)
  rw [show fX1_prepareSteps n S = some S1 from e1, ob_s]
  simp only [lt_]
  rw [show (sS (sS S1 15 0) 16 0).1 11 = S1.1 11 from rfl, g1.1, ← hm, shl1 (by omega)]
  have hst : ssum (gst T nt nf h) 0 m = 0 := ssum_none m (fun j _ => Nat.zero_testBit j)
  have har : ssum (gar T nt nf h) 0 m = 0 := ssum_none m (fun j _ => Nat.zero_testBit j)
  have := chooseL (n := n) (np := np) hm (by omega) (2 ^ m - 1) 0 n (sS (sS S1 15 0) 16 0) ((r1.congr (eqX_sS (k := 15) (by omega)) (eqM.rf T)).congr (eqX_sS (k := 16) (by omega)) (eqM.rf T)) (g1.cg rfl rfl rfl rfl rfl) s1 (by rw [Nat.zero_add, bst_1]; rfl) (by rw [Nat.zero_add, bst_1]; rfl) (by omega) (by omega)
  rw [hst, har] at this
  exact this
theorem keepsML1 {np nf n m s : Nat} {S U : St} {lim : Int32} {K : Int32 → Int32 → Int32 → Option St} {ro : Nat → Nat} (hLa : La np nf S U) (hg : ∀ j, j < m → U.2.1 26 j = nI (ro j) ∧ ro j < nf) (hm : m ≤ 12) : ∀ (dd i fu : Nat), i + dd = m → dd < fu → fX11_keeps_L28 n (nI m) lim (nI s) U K fu (ssum (fun j => std U (ro j)) s i) (ssum (fun j => U.2.1 9 (ro j)) s i) (nI i) = K (ssum (fun j => std U (ro j)) s m) (ssum (fun j => U.2.1 9 (ro j)) s m) (nI m) := by
  have h60' := hLa.1
  intro dd
  induction dd with
  | zero =>
    intro i fu hi hfu
    obtain ⟨fu, rfl⟩ : ∃ g, fu = g + 1 := ⟨fu - 1, by omega⟩
    have e : i = m := by omega
    subst e
    rw [fX11_keeps_L28, if_pos (nI_le (Nat.le_refl _) (by omega))]
  | succ dd ihd =>
    intro i fu hi hfu
    obtain ⟨fu, rfl⟩ : ∃ g, fu = g + 1 := ⟨fu - 1, by omega⟩
    obtain ⟨e1, e2⟩ := hg i (by omega)
    have := ihd (i + 1) fu (by omega) (by omega)
    rw [fX11_keeps_L28, if_neg (nI_ge (show i < m by omega) (by omega)), bitI _ (by omega), btN (by omega), ig (show i < 60 by omega) (by omega), cl (show i < 2 ^ 31 by omega), e1, stdM' hLa e2, ob_s]
    simp only [lt_]
    rw [ih (show i < 60 by omega) h60, ig (show ro i < 60 by omega) (by omega), cl (show ro i < 2 ^ 31 by omega), nI_1]
    rw [ssum, ssum] at this
    cases hb : s.testBit i
    · rw [hb] at this
      exact this
    · rw [hb] at this
      exact this
theorem keepsML {np nf nt td tl kp k n m : Nat} {S T U : St} {Fn : Nat → Nat → Int32} {h lim : Int32} (hn : 5000 ≤ n) (hm : m = ncf T nt h nf) (hm12 : m ≤ 12) (hU : ∀ j, j < m → U.2.1 26 j = nI (rof T nt h nf j)) (hst : ∀ f, std U f = std T f) (har : U.2.1 9 = T.2.1 9) : ∀ (dd s fu : Nat) (T1 : St), RelP np nf nt td tl kp S k Fn T1 → (T1.2 = U.2 ∧ ∀ i, ¬ i = 27 → ¬ i = 28 → T1.1 i = U.1 i) → T1.1 27 = (bst (gst T nt nf h) (gar T nt nf h) m lim (s + 1)).1 → T1.1 28 = (bst (gst T nt nf h) (gar T nt nf h) m lim (s + 1)).2 → s + 1 + dd = 2 ^ m → dd < fu → ∃ T', fX11_keeps_L12 n (nI m) lim (fun x19 S20 => some S20) fu (nI (s + 1)) T1 = some T' ∧ RelP np nf nt td tl kp S k Fn T' ∧ (T'.2 = U.2 ∧ ∀ i, ¬ i = 27 → ¬ i = 28 → T'.1 i = U.1 i) ∧ T'.1 27 = (bst (gst T nt nf h) (gar T nt nf h) m lim (2 ^ m)).1 ∧ T'.1 28 = (bst (gst T nt nf h) (gar T nt nf h) m lim (2 ^ m)).2 := by
  have hpw : 2 ^ m ≤ 2 ^ 12 := Nat.pow_le_pow_right (by omega) hm12
  intro dd
  induction dd with
  | zero =>
    intro s fu T1 hR hq h15 h16 hi hfu
    obtain ⟨fu, rfl⟩ : ∃ g, fu = g + 1 := ⟨fu - 1, by omega⟩
    rw [Nat.add_zero] at hi
    rw [hi] at h15 h16 ⊢
    refine ⟨T1, ?_, hR, hq, h15, h16⟩
    rw [fX11_keeps_L12, shl1 (by omega), if_pos (nI_le (Nat.le_refl _) (by omega))]
  | succ dd ihd =>
    intro s fu T1 hR hq h15 h16 hi hfu
    obtain ⟨fu, rfl⟩ : ∃ g, fu = g + 1 := ⟨fu - 1, by omega⟩
    have hst1 : ∀ f, std T1 f = std T f := fun f => by rw [← hst f]; unfold std; rw [hq.1]
    have hk1 := keepsML1 (n := n) (s := s + 1) (lim := lim) (S := S) (U := T1) (ro := rof T nt h nf) (K := fun x12 x13 x14 => if lim < x12 then (fX11_keeps_L12 n (nI m) lim (fun x19 S20 => some S20) fu (nI (s + 1) + 1) T1) else (if (T1.1 28) < x13 then (lt_ (sS T1 27 (nI (s + 1))) fun S17 => lt_ (sS S17 28 x13) fun S18 => fX11_keeps_L12 n (nI m) lim (fun x19 S20 => some S20) fu (nI (s + 1) + 1) S18) else (fX11_keeps_L12 n (nI m) lim (fun x19 S20 => some S20) fu (nI (s + 1) + 1) T1))) hR.2.2.1 (fun j hj => ⟨by rw [hq.1]; exact hU j hj, rof_lt nf j (by omega)⟩) hm12 m 0 n (by omega) (by omega)
    rw [show (fun j => std T1 (rof T nt h nf j)) = gst T nt nf h from funext fun j => hst1 _, show (fun j => T1.2.1 9 (rof T nt h nf j)) = gar T nt nf h from funext fun j => by rw [hq.1, har]; rfl] at hk1
    rw [fX11_keeps_L12, shl1 (by omega), if_neg (nI_ge (show s + 1 < 2 ^ m by omega) (by omega))]
    rw [show fX11_keeps_L28 n (nI m) lim (nI (s + 1)) T1 _ n 0 0 0 = _ from hk1, nI_1, h16]
    simp only [lt_]
    by_cases c1 : lim < ssum (gst T nt nf h) (s + 1) m
    · have eb : bst (gst T nt nf h) (gar T nt nf h) m lim (s + 1 + 1) = bst (gst T nt nf h) (gar T nt nf h) m lim (s + 1) := by
        rw [bst, if_pos c1]
      rw [if_pos c1]
      exact ihd (s + 1) fu T1 hR hq (by rw [eb]; exact h15) (by rw [eb]; exact h16) (by omega) (by omega)
    · rw [if_neg c1]
      by_cases c2 : (bst (gst T nt nf h) (gar T nt nf h) m lim (s + 1)).2 < ssum (gar T nt nf h) (s + 1) m
      · have eb : bst (gst T nt nf h) (gar T nt nf h) m lim (s + 1 + 1) = (nI (s + 1), ssum (gar T nt nf h) (s + 1) m) := by
          rw [bst, if_neg c1, if_pos c2]
        rw [if_pos c2]
        refine ihd (s + 1) fu _ ((hR.congr (eqX.rf S) (eqM_sS (k := 27) (by omega))).congr (eqX.rf S) (eqM_sS (k := 28) (by omega))) ⟨hq.1, fun i h1 h2 => by rw [sS_1, if_neg h2, sS_1, if_neg h1]; exact hq.2 i h1 h2⟩ ?_ ?_ (by omega) (by omega)
        · rw [eb]; rfl
        · rw [eb]; rfl
      · have eb : bst (gst T nt nf h) (gar T nt nf h) m lim (s + 1 + 1) = bst (gst T nt nf h) (gar T nt nf h) m lim (s + 1) := by
          rw [bst, if_neg c1, if_neg c2]
        rw [if_neg c2]
        exact ihd (s + 1) fu T1 hR hq (by rw [eb]; exact h15) (by rw [eb]; exact h16) (by omega) (by omega)
theorem keepsM {np nf nt td tl kp k n : Nat} {S T : St} {Fn : Nat → Nat → Int32} {h lim : Int32} {g : Nat → Int32} (hn : 5000 ≤ n) (hR : RelP np nf nt td tl kp S k Fn T) (hm12 : ncf T nt h nf ≤ 12) (hg : ∀ j, j < ncf T nt h nf → g j = nI (rof T nt h nf j)) : ∃ T', fX11_keeps n (sR T 26 g) (nI (ncf T nt h nf)) lim = some T' ∧ RelP np nf nt td tl kp S k Fn T' ∧ (T'.2 = (sR T 26 g).2 ∧ ∀ i, ¬ i = 27 → ¬ i = 28 → T'.1 i = T.1 i) ∧ T'.1 27 = (bst (gst T nt nf h) (gar T nt nf h) (ncf T nt h nf) lim (2 ^ ncf T nt h nf)).1 ∧ T'.1 28 = (bst (gst T nt nf h) (gar T nt nf h) (ncf T nt h nf) lim (2 ^ ncf T nt h nf)).2 := by
  have hpw : 2 ^ ncf T nt h nf ≤ 2 ^ 12 := Nat.pow_le_pow_right (by omega) hm12
  have hp0 := Nat.two_pow_pos (ncf T nt h nf)
  have hR1 : RelP np nf nt td tl kp S k Fn (sR T 26 g) := hR.congr (eqX.rf S) (eqM_sR (by omega))
  exact keepsML (n := n) (S := S) (T := T) (U := sR T 26 g) hn rfl hm12 hg (fun _ => rfl) rfl (2 ^ ncf T nt h nf - 1) 0 n (sS (sS (sR T 26 g) 27 0) 28 0) ((hR1.congr (eqX.rf S) (eqM_sS (k := 27) (by omega))).congr (eqX.rf S) (eqM_sS (k := 28) (by omega))) ⟨rfl, fun i h1 h2 => by rw [sS_1, if_neg h2, sS_1, if_neg h1]⟩ (by rw [Nat.zero_add, bst_1]; rfl) (by rw [Nat.zero_add, bst_1]; rfl) (by omega) (by omega)
