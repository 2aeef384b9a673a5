theorem tabL {np nf nt td tl kp k n f p m : Nat} {T : St} {Fn : Nat → Nat → Int32} (hn : 5000 ≤ n) (hm0 : 0 < m) (hm : m ≤ 5) (hD : ∀ i j, i < m → j < m → dst T f p i j ≤ 99) : ∀ (dd s fu : Nat) (S1 : St), RelP np nf nt td tl kp S1 k Fn T → Tab f p m s S1 T → 0 < s → s + dd = 2 ^ m → dd < fu → ∃ S', fX0_weigh_L87 n (fun x19 S20 => some S20) fu (nI s) S1 = some S' ∧ RelP np nf nt td tl kp S' k Fn T ∧ Tab f p m (2 ^ m) S' T := by
  have hp := pw32 hm
  intro dd
  induction dd with
  | zero =>
    intro s fu S1 hR hT h0 hs hfu
    obtain ⟨fu, rfl⟩ : ∃ g, fu = g + 1 := ⟨fu - 1, by omega⟩
    have e : s = 2 ^ m := by omega
    refine ⟨S1, ?_, hR, e ▸ hT⟩
    rw [fX0_weigh_L87, hT.1, shl1 (by omega), e, if_pos (nI_le (Nat.le_refl _) (by omega))]
  | succ dd ihd =>
    intro s fu S1 hR hT h0 hs hfu
    obtain ⟨fu, rfl⟩ : ∃ g, fu = g + 1 := ⟨fu - 1, by omega⟩
    obtain ⟨c, hc⟩ : ∃ c, pcF 5 s = c + 1 := ⟨pcF 5 s - 1, by have := pcF_pos 5 s (by omega) h0; omega⟩
    obtain ⟨e1, e2, e3⟩ := nearX hn hm0 hm hD hT (show s < 2 ^ m by omega) (Nat.le_refl _) hc
    have hlt := Nk_lt (D := dst T f p) (k := c) (R := s) hm0
    rw [fX0_weigh_L87, hT.1, shl1 (by omega), if_neg (nI_ge (show s < 2 ^ m by omega) (by omega)), e1, ob_s, sumWith_X hm0 hm hT (show s < 2 ^ m by omega) (Nat.le_refl _) hlt e2 hc, ob_s, ← e3, ig (show s < 32 by omega) (by omega), cl (show s < 2 ^ 31 by omega), nI_1]
    simp only [lt_]
    refine ihd (s + 1) fu _ (hR.congr (eqX_sA (by omega)) (eqM.rf T)) ⟨hT.1, fun i' hi' j' hj' => ?_, fun q hq => ?_⟩ (by omega) (by omega) (by omega)
    · rw [sA_2, if_neg (by omega)]; exact hT.2.1 i' hi' j' hj'
    · rw [sA_2, if_pos rfl]
      by_cases c : q = s
      · rw [if_pos c, c, hc]
      · rw [if_neg c]; exact hT.2.2 q (by omega)
theorem weighX {np nf nt td tl kp k n f p m : Nat} {S T : St} {Fn : Nat → Nat → Int32} (hn : 5000 ≤ n) (hw : Rows np nf f p m) (hR : RelP np nf nt td tl kp S k Fn T) : ∃ S', fX0_weigh n S (nI f) (nI p) (nI m) = some S' ∧ RelP np nf nt td tl kp S' k Fn T ∧ Tab f p m (2 ^ m) S' T := by
  have hD := dst_le hR.1 hR.2.2.1 hw
  obtain ⟨w1, w2, w3, w4⟩ := id hw
  have hp := pw32 w4
  have hp0 : 1 ≤ 2 ^ m := Nat.two_pow_pos m
  unfold fX0_weigh
  rw [if_neg (show ¬ (5 : Int32) < nI m from nI_nlt (a := 5) (by omega) (by omega) |> fun w => Int32.not_lt.mpr (nI_le (b := 5) w4 (by omega))), if_pos (show (0 : Int32) < nI m from nI_lt (a := 0) w3 (by omega))]
  simp only [lt_]
  obtain ⟨S2, e2, r2, h18, h2⟩ := weiL2 (n := n) (K := fun x11 S12 => fX0_weigh_L87 n (fun x19 S20 => some S20) n 1 (sA S12 19 (Int32.toNatClampNeg 0) 0)) hn hw m 0 n (sS S 18 (nI m)) (hR.congr (eqX_sS (by omega)) (eqM.rf T)) rfl (fun i' hi' => by omega) (by omega) (by omega)
  rw [show fX0_weigh_L16 n (nI f) (nI p) _ n 0 (sS S 18 (nI m)) = _ from e2]
  refine tabL hn w3 w4 hD (2 ^ m - 1) 1 n _ (r2.congr (eqX_sA (by omega)) (eqM.rf T)) ⟨h18, fun i' hi' j' hj' => ?_, fun q hq => ?_⟩ (by omega) (by omega) (by omega)
  · rw [sA_2, if_neg (by omega)]; exact h2 i' hi' j' hj'
  · have : q = 0 := by omega
    subst this
    rfl
theorem leastX {f p m : Nat} {S T : St} (hm0 : 0 < m) (hm : m ≤ 5) (hT : Tab f p m (2 ^ m) S T) : fX0_leastSum S = some (nI (Lk (dst T f p) m m (2 ^ m - 1))) := by
  have hp := pw32 hm
  have hp0 : 1 ≤ 2 ^ m := Nat.two_pow_pos m
  unfold fX0_leastSum
  rw [hT.1, shl1 (by omega), show nI (2 ^ m) - 1 = nI (2 ^ m - 1) from pk_sub hp0, ig (show 2 ^ m - 1 < 32 by omega) (by omega), cl (by omega), hT.2.2 _ (by omega), gv2 m (by omega)]
theorem choiL {f p m n kk : Nat} {S T : St} (hn : 5000 ≤ n) (hm0 : 0 < m) (hm : m ≤ 5) (hD : ∀ i j, i < m → j < m → dst T f p i j ≤ 99) (hT : Tab f p m (2 ^ m) S T) (hk : kk < m) : ∀ (dd i fu R : Nat), i + dd = kk → dd < fu → R < 2 ^ m → pcF 5 R = m - i → fX0_choice_L11 n (nI kk) S (fun x6 x7 => ob (fX0_nearest n S x6) fun r8 => some r8) fu (nI R) (nI i) = some (nI (Nk (dst T f p) m (m - i - 1 - dd) (Rr (dst T f p) m (m - i) R dd))) := by
  have hp := pw32 hm
  intro dd
  induction dd with
  | zero =>
    intro i fu R hi hfu hR hpc
    obtain ⟨fu, rfl⟩ : ∃ g, fu = g + 1 := ⟨fu - 1, by omega⟩
    have e : i = kk := by omega
    subst e
    obtain ⟨e1, -, -⟩ := nearX (k := m - i - 1) hn hm0 hm hD hT hR (by omega) (by omega)
    rw [fX0_choice_L11, if_pos (nI_le (Nat.le_refl _) (by omega)), e1, ob_s, Nat.sub_zero]
    obtain ⟨c, hc⟩ : ∃ c, m - i = c + 1 := ⟨m - i - 1, by omega⟩
    rw [hc, Rr]
  | succ dd ihd =>
    intro i fu R hi hfu hR hpc
    obtain ⟨fu, rfl⟩ : ∃ g, fu = g + 1 := ⟨fu - 1, by omega⟩
    obtain ⟨e1, e2, e3⟩ := nearX (k := m - i - 1) hn hm0 hm hD hT hR (by omega) (by omega)
    have hlt := Nk_lt (D := dst T f p) (k := m - i - 1) (R := R) hm0
    obtain ⟨g1, g2, g3⟩ := gv5' (show R < 32 by omega) (show Nk (dst T f p) m (m - i - 1) R < 5 by omega) e2
    rw [fX0_choice_L11, if_neg (nI_ge (show i < kk by omega) (by omega)), hT.1, if_neg (nI_ge (show i < m by omega) (by omega)), e1, ob_s, nI_1, g1]
    simp only [lt_]
    rw [ihd (i + 1) fu (R - 2 ^ Nk (dst T f p) m (m - i - 1) R) (by omega) (by omega) (Nat.lt_of_le_of_lt (Nat.sub_le _ _) hR) (by omega)]
    obtain ⟨c, hc⟩ : ∃ c, m - i = c + 1 := ⟨m - i - 1, by omega⟩
    rw [hc, Rr, show m - (i + 1) = c by omega, show c + 1 - 1 = c by omega, show c - 1 - dd = c - (dd + 1) by omega]
theorem choiX {f p m n kk : Nat} {S T : St} (hn : 5000 ≤ n) (hm0 : 0 < m) (hm : m ≤ 5) (hD : ∀ i j, i < m → j < m → dst T f p i j ≤ 99) (hT : Tab f p m (2 ^ m) S T) (hk : kk < m) : fX0_choice n S (nI kk) = some (nI ((Bk (dst T f p) m m (2 ^ m - 1) / m ^ (m - 1 - kk)) % m)) := by
  have hp := pw32 hm
  have hp0 : 1 ≤ 2 ^ m := Nat.two_pow_pos m
  unfold fX0_choice
  rw [hT.1, shl1 (by omega), show nI (2 ^ m) - 1 = nI (2 ^ m - 1) from pk_sub hp0]
  simp only [lt_]
  rw [show fX0_choice_L11 n (nI kk) S (fun x6 x7 => ob (fX0_nearest n S x6) fun r8 => some r8) n (nI (2 ^ m - 1)) 0 = _ from choiL hn hm0 hm hD hT hk kk 0 n (2 ^ m - 1) (by omega) (by omega) (by omega) (by rw [gv2 m (by omega)]; rfl), Bk_dig hm0 m _ kk hk, Nat.sub_zero]
/-! the reference's ways -/
theorem usd_lt {m : Nat} : ∀ k y, y < m ^ k → usd m k y < 2 ^ m := by
  intro k
  induction k with
  | zero => intro y _; exact Nat.two_pow_pos m
  | succ k ihk =>
    intro y hy
    have hm : 0 < m := by
      rcases Nat.eq_zero_or_pos m with q | q
      · subst q; rw [Nat.pow_succ] at hy; omega
      · exact q
    have hpos : 0 < m ^ k := Nat.pow_pos hm
    rw [usd]
    apply Nat.or_lt_two_pow
    · exact Nat.pow_lt_pow_right (by omega) ((Nat.div_lt_iff_lt_mul hpos).mpr (by rw [Nat.pow_succ, Nat.mul_comm] at hy; exact hy))
    · exact ihk _ (Nat.mod_lt _ hpos)
theorem smd_le {D : Nat → Nat → Nat} {m : Nat} (hD : ∀ i j, i < m → j < m → D i j ≤ 99) : ∀ k y, k ≤ m → y < m ^ k → smd D m k y ≤ 99 * k := by
  intro k
  induction k with
  | zero => intro y _ _; exact Nat.le_refl _
  | succ k ihk =>
    intro y hk hy
    have hm : 0 < m := by omega
    have hpos : 0 < m ^ k := Nat.pow_pos hm
    have h1 := hD (m - (k + 1)) (y / m ^ k) (by omega) ((Nat.div_lt_iff_lt_mul hpos).mpr (by rw [Nat.pow_succ, Nat.mul_comm] at hy; exact hy))
    have h2 := ihk (y % m ^ k) (by omega) (Nat.mod_lt _ hpos)
    rw [smd]; omega
/-- the reference's state but for its two rows of ways -/
def eqW (T T1 : St) : Prop := T1.1 = T.1 ∧ T1.2.2 = T.2.2 ∧ ∀ a, ¬ a = 33 → ¬ a = 34 → T1.2.1 a = T.2.1 a
theorem eqW.eqM {T T1 : St} (h : eqW T T1) : eqM T T1 := ⟨fun k _ => by rw [h.1], fun a ha => h.2.2 a (by omega) (by omega), fun j _ => by rw [h.2.2 16 (by omega) (by omega)]⟩
theorem wayL {np nf nt td tl kp k n f p m x : Nat} {S T : St} {Fn : Nat → Nat → Int32} {x4 x5 x6 x7 : Int32} {K : Int32 → Int32 → Int32 → Int32 → St → Option (Int32 × St)} (hw : Rows np nf f p m) (hR : RelP np nf nt td tl kp S k Fn T) (hx : x < 5000) : ∀ (dd c fu : Nat) (T1 : St), c + dd = m → dd < fu → eqW T T1 → (∀ i, dd ≤ i → i < m → T1.2.1 33 i = nI (p + (x / m ^ (m - 1 - i)) % m)) → ∃ T', fX11_given_L103 n (nI f) (nI p) (nI m) x4 x5 x6 x7 K fu (nI (x / m ^ c)) (nI (usd m c (x % m ^ c))) (nI (smd (dst T f p) m c (x % m ^ c))) (nI dd - 1) T1 = K (nI (x / m ^ m)) (nI (usd m m (x % m ^ m))) (nI (smd (dst T f p) m m (x % m ^ m))) (-1) T' ∧ eqW T T' ∧ T'.2.1 34 = T1.2.1 34 ∧ ∀ i, i < m → T'.2.1 33 i = nI (p + (x / m ^ (m - 1 - i)) % m) := by
  obtain ⟨w1, w2, w3, w4⟩ := id hw
  have h60' := hR.2.2.1.1
  have h40' := hR.1.1
  have hD := dst_le hR.1 hR.2.2.1 hw
  have hp := pw32 w4
  intro dd
  induction dd with
  | zero =>
    intro c fu T1 hc hfu hq h33
    obtain ⟨fu, rfl⟩ : ∃ g, fu = g + 1 := ⟨fu - 1, by omega⟩
    have e : c = m := by omega
    subst e
    refine ⟨T1, ?_, hq, rfl, fun i hi => h33 i (by omega) hi⟩
    rw [fX11_given_L103, if_pos (show nI 0 - 1 < 0 by decide)]
    rfl
  | succ dd ihd =>
    intro c fu T1 hc hfu hq h33
    obtain ⟨fu, rfl⟩ : ∃ g, fu = g + 1 := ⟨fu - 1, by omega⟩
    have hR1 : RelP np nf nt td tl kp S k Fn T1 := hR.congr (eqX.rf S) hq.eqM
    have hpos : 0 < m ^ c := Nat.pow_pos w3
    have hle : x / m ^ c ≤ x := Nat.div_le_self _ _
    have hj : (x / m ^ c) % m < m := Nat.mod_lt _ w3
    have hmm : x % m ^ (c + 1) = x % m ^ c + m ^ c * (x / m ^ c % m) := by rw [Nat.pow_succ, Nat.mod_mul]
    have hml : x % m ^ c < m ^ c := Nat.mod_lt _ hpos
    have eu : usd m (c + 1) (x % m ^ (c + 1)) = usd m c (x % m ^ c) ||| 2 ^ (x / m ^ c % m) := by
      rw [usd, hmm, Nat.add_mul_div_left _ _ hpos, Nat.div_eq_of_lt hml, Nat.zero_add, Nat.add_mul_mod_self_left, Nat.mod_mod, Nat.or_comm]
    have es : smd (dst T f p) m (c + 1) (x % m ^ (c + 1)) = smd (dst T f p) m c (x % m ^ c) + dst T f p dd (x / m ^ c % m) := by
      rw [smd, hmm, Nat.add_mul_div_left _ _ hpos, Nat.div_eq_of_lt hml, Nat.zero_add, Nat.add_mul_mod_self_left, Nat.mod_mod, Nat.add_comm, show m - (c + 1) = dd by omega]
    have ed : x / m ^ (c + 1) = x / m ^ c / m := by rw [Nat.pow_succ, Nat.div_div_eq_div_mul]
    have h33' : ∀ (v : Int32), (sA T1 33 dd v).2.1 33 dd = v := fun v => by rw [sA_2, if_pos rfl, if_pos rfl]
    have h6 : ∀ (v : Int32) (j : Nat), (sA T1 33 dd v).2.1 6 j = T.2.1 6 j := fun v j => by rw [sA_2, if_neg (by omega), hq.2.2 6 (by omega) (by omega)]
    have h8 : ∀ (v : Int32) (j : Nat), (sA T1 33 dd v).2.1 8 j = T.2.1 8 j := fun v j => by rw [sA_2, if_neg (by omega), hq.2.2 8 (by omega) (by omega)]
    rw [fX11_given_L103, nI_pred, if_neg (nI_pos (by omega)), if_neg (show ¬ nI m = 0 from nI_ne0 w3 (by omega)), ig (show dd < 5 by omega) (by omega), cl (show dd < 2 ^ 31 by omega), pk_rem (by omega) w3 (by omega), nI_add]
    simp only [lt_]
    rw [if_neg (show ¬ nI m = 0 from nI_ne0 w3 (by omega)), pk_div (by omega) w3 (by omega), ih (show dd < 5 by omega) (by omega), ih (show dd < 5 by omega) (by omega), h33', ig (show p + x / m ^ c % m < 40 by omega) (by omega), cl (show p + x / m ^ c % m < 2 ^ 31 by omega), nI_add f dd, ig (show f + dd < 60 by omega) (by omega), cl (show f + dd < 2 ^ 31 by omega), h6, h8, dst_M hR.1 hR.2.2.1 hw (show dd < m by omega) hj, pk_sub (show p ≤ p + x / m ^ c % m by omega), show p + x / m ^ c % m - p = x / m ^ c % m by omega, shl1 (by omega), nI_or, nI_add, ← eu, ← es, ← ed, ← Int32.sub_eq_add_neg]
    obtain ⟨T', k1, k2, k3, k4⟩ := ihd (c + 1) fu (sA T1 33 dd (nI (p + x / m ^ c % m))) (by omega) (by omega) ⟨hq.1, hq.2.1, fun a h1 h2 => by
        funext j; rw [sA_2, if_neg h1, hq.2.2 a h1 h2]⟩ (fun i h1 h2 => by
        rw [sA_2, if_pos rfl]
        by_cases e : i = dd
        · rw [if_pos e, e, show m - 1 - dd = c by omega]
        · rw [if_neg e]; exact h33 i (by omega) h2)
    refine ⟨T', k1, k2, ?_, k4⟩
    rw [k3]
    funext j; rw [sA_2, if_neg (by omega)]
