theorem copL {n m : Nat} {T : St} {x1 x2 x4 x5 x6 x7 : Int32} {K : Int32 → St → Option (Int32 × St)} (hm : m ≤ 5) : ∀ (dd i fu : Nat) (T1 : St), i + dd = m → dd < fu → eqW T T1 → (∀ j, j < i → T1.2.1 34 j = T1.2.1 33 j) → ∃ T', fX11_given_L212 n x1 x2 (nI m) x4 x5 x6 x7 K fu (nI i) T1 = K (nI m) T' ∧ eqW T T' ∧ T'.2.1 33 = T1.2.1 33 ∧ ∀ j, j < m → T'.2.1 34 j = T1.2.1 33 j := by
  intro dd
  induction dd with
  | zero =>
    intro i fu T1 hi hfu hq h
    obtain ⟨fu, rfl⟩ : ∃ g, fu = g + 1 := ⟨fu - 1, by omega⟩
    have e : i = m := by omega
    subst e
    exact ⟨T1, by rw [fX11_given_L212, if_pos (nI_le (Nat.le_refl _) (by omega))], hq, rfl, h⟩
  | succ dd ihd =>
    intro i fu T1 hi hfu hq h
    obtain ⟨fu, rfl⟩ : ∃ g, fu = g + 1 := ⟨fu - 1, by omega⟩
    rw [fX11_given_L212, if_neg (nI_ge (show i < m by omega) (by omega)), ig (show i < 5 by omega) (by omega), ig (show i < 5 by omega) (by omega), cl (by omega), nI_1]
    simp only [lt_]
    have e33 : (sA T1 34 i (T1.2.1 33 i)).2.1 33 = T1.2.1 33 := by funext j; rw [sA_2, if_neg (by omega)]
    obtain ⟨T', k1, k2, k3, k4⟩ := ihd (i + 1) fu (sA T1 34 i (T1.2.1 33 i)) (by omega) (by omega) ⟨hq.1, hq.2.1, fun a h1 h2 => by
        funext j; rw [sA_2, if_neg h2, hq.2.2 a h1 h2]⟩ (fun j hj => by
        rw [e33, sA_2, if_pos rfl]
        by_cases e : j = i
        · rw [if_pos e, e]
        · rw [if_neg e]; exact h j (by omega))
    rw [e33] at k3 k4
    exact ⟨T', k1, k2, k3, k4⟩
def encL (o : Option (Nat × Nat)) : Int32 := match o with
  | none => -1
  | some (v, _) => nI v
theorem givL {np nf nt td tl kp k n f p m : Nat} {S T : St} {Fn : Nat → Nat → Int32} {x4 : Int32} {K : Int32 → Int32 → St → Option (Int32 × St)} (hn : 5000 ≤ n) (hw : Rows np nf f p m) (hR : RelP np nf nt td tl kp S k Fn T) : ∀ (dd x fu : Nat) (T1 : St), x + dd = m ^ m → dd < fu → eqW T T1 → (∀ l b, scn (dst T f p) m m 0 0 0 x none = some (l, b) → l ≤ 1000 ∧ ∀ i, i < m → T1.2.1 34 i = nI (p + (b / m ^ (m - 1 - i)) % m)) → ∃ T', fX11_given_L81 n (nI f) (nI p) (nI m) x4 (nI (m ^ m)) K fu (encL (scn (dst T f p) m m 0 0 0 x none)) (nI x) T1 = K (encL (scn (dst T f p) m m 0 0 0 (m ^ m) none)) (nI (m ^ m)) T' ∧ eqW T T' ∧ ∀ l b, scn (dst T f p) m m 0 0 0 (m ^ m) none = some (l, b) → l ≤ 1000 ∧ ∀ i, i < m → T'.2.1 34 i = nI (p + (b / m ^ (m - 1 - i)) % m) := by
  obtain ⟨w1, w2, w3, w4⟩ := id hw
  have hD := dst_le hR.1 hR.2.2.1 hw
  have hp := pw32 w4
  have hp0 : 1 ≤ 2 ^ m := Nat.two_pow_pos m
  have hmm : m ^ m ≤ 3125 := by
    have h1 : m ^ m ≤ 5 ^ m := Nat.pow_le_pow_left w4 m
    have h2 : 5 ^ m ≤ 5 ^ 5 := Nat.pow_le_pow_right (by omega) w4
    have h3 : (5 : Nat) ^ 5 = 3125 := by decide
    omega
  intro dd
  induction dd with
  | zero =>
    intro x fu T1 hx hfu hq hb
    obtain ⟨fu, rfl⟩ : ∃ g, fu = g + 1 := ⟨fu - 1, by omega⟩
    have e : x = m ^ m := by omega
    rw [e] at hb ⊢
    exact ⟨T1, by rw [fX11_given_L81, if_pos (nI_le (Nat.le_refl _) (by omega))], hq, hb⟩
  | succ dd ihd =>
    intro x fu T1 hx hfu hq hb
    obtain ⟨fu, rfl⟩ : ∃ g, fu = g + 1 := ⟨fu - 1, by omega⟩
    have hxm : x % m ^ m = x := Nat.mod_eq_of_lt (by omega)
    have hus := usd_lt m x (show x < m ^ m by omega)
    have hsm := smd_le hD m x (Nat.le_refl _) (show x < m ^ m by omega)
    rw [fX11_given_L81, if_neg (nI_ge (show x < m ^ m by omega) (by omega))]
    simp only [lt_]
    generalize hK0 : (fun (x27 x28 x29 x30 : Int32) (S31 : St) => if x28 = (((1 : Int32) <<< (nI m &&& 31)) - 1) then (if encL (scn (dst T f p) m m 0 0 0 x none) = (-1) then (fX11_given_L212 n (nI f) (nI p) (nI m) x4 (nI (m ^ m)) x29 (nI x) (fun x38 S39 => fX11_given_L81 n (nI f) (nI p) (nI m) x4 (nI (m ^ m)) K fu x29 (nI x + 1) S39) n 0 S31) else (if x29 < encL (scn (dst T f p) m m 0 0 0 x none) then (fX11_given_L212 n (nI f) (nI p) (nI m) x4 (nI (m ^ m)) x29 (nI x) (fun x41 S42 => fX11_given_L81 n (nI f) (nI p) (nI m) x4 (nI (m ^ m)) K fu x29 (nI x + 1) S42) n 0 S31) else (fX11_given_L81 n (nI f) (nI p) (nI m) x4 (nI (m ^ m)) K fu (encL (scn (dst T f p) m m 0 0 0 x none)) (nI x + 1) S31))) else (fX11_given_L81 n (nI f) (nI p) (nI m) x4 (nI (m ^ m)) K fu (encL (scn (dst T f p) m m 0 0 0 x none)) (nI x + 1) S31)) = K0
    obtain ⟨T2, k1, k2, k3, k4⟩ := wayL (n := n) (x4 := x4) (x5 := nI (m ^ m)) (x6 := encL (scn (dst T f p) m m 0 0 0 x none)) (x7 := nI x) (K := K0) hw hR (show x < 5000 by omega) m 0 n T1 (by omega) (by omega) hq (fun i h1 h2 => by omega)
    rw [Nat.pow_zero, Nat.div_one, Nat.mod_one, hxm] at k1
    rw [show fX11_given_L103 n (nI f) (nI p) (nI m) x4 (nI (m ^ m)) (encL (scn (dst T f p) m m 0 0 0 x none)) (nI x) K0 n (nI x) 0 0 (nI m - 1) T1 = _ from k1, ← hK0]
    simp only
    rw [shl1 (by omega), show nI (2 ^ m) - 1 = nI (2 ^ m - 1) from pk_sub hp0, nI_1]
    have hscn : scn (dst T f p) m m 0 0 0 (x + 1) none = if usd m m x = 2 ^ m - 1 then stp (scn (dst T f p) m m 0 0 0 x none) (smd (dst T f p) m m x) x else scn (dst T f p) m m 0 0 0 x none := by
      rw [scn, Nat.zero_or, Nat.zero_add, Nat.zero_add]
    have hb2 : ∀ l b, scn (dst T f p) m m 0 0 0 x none = some (l, b) → l ≤ 1000 ∧ ∀ i, i < m → T2.2.1 34 i = nI (p + (b / m ^ (m - 1 - i)) % m) := by
      rw [k3]; exact hb
    have hnew : scn (dst T f p) m m 0 0 0 (x + 1) none = some (smd (dst T f p) m m x, x) → ∃ T', fX11_given_L212 n (nI f) (nI p) (nI m) x4 (nI (m ^ m)) (nI (smd (dst T f p) m m x)) (nI x) (fun x38 S39 => fX11_given_L81 n (nI f) (nI p) (nI m) x4 (nI (m ^ m)) K fu (nI (smd (dst T f p) m m x)) (nI (x + 1)) S39) n 0 T2 = K (encL (scn (dst T f p) m m 0 0 0 (m ^ m) none)) (nI (m ^ m)) T' ∧ eqW T T' ∧ ∀ l b, scn (dst T f p) m m 0 0 0 (m ^ m) none = some (l, b) → l ≤ 1000 ∧ ∀ i, i < m → T'.2.1 34 i = nI (p + (b / m ^ (m - 1 - i)) % m) := by
      intro hs
      obtain ⟨T3, l1, l2, l3, l4⟩ := copL (n := n) (T := T) (x1 := nI f) (x2 := nI p) (x4 := x4) (x5 := nI (m ^ m)) (x6 := nI (smd (dst T f p) m m x)) (x7 := nI x) (K := fun x38 S39 => fX11_given_L81 n (nI f) (nI p) (nI m) x4 (nI (m ^ m)) K fu (nI (smd (dst T f p) m m x)) (nI (x + 1)) S39) w4 m 0 n T2 (by omega) (by omega) k2 (fun j hj => by omega)
      rw [show fX11_given_L212 n (nI f) (nI p) (nI m) x4 (nI (m ^ m)) (nI (smd (dst T f p) m m x)) (nI x) _ n 0 T2 = _ from l1]
      have h := ihd (x + 1) fu T3 (by omega) (by omega) l2 (fun l b hlb => by
        rw [hs] at hlb
        cases hlb
        exact ⟨by omega, fun i hi => by rw [l4 i hi, k4 i hi]⟩)
      rw [hs] at h
      exact h
    by_cases c1 : usd m m x = 2 ^ m - 1
    · rw [if_pos c1] at hscn
      rw [if_pos (show nI (usd m m x) = nI (2 ^ m - 1) by rw [c1])]
      cases hq2 : scn (dst T f p) m m 0 0 0 x none with
      | none =>
        rw [hq2] at hscn
        rw [if_pos (show encL none = -1 from rfl)]
        exact hnew hscn
      | some q =>
        obtain ⟨l, b⟩ := q
        obtain ⟨hl, -⟩ := hb2 l b hq2
        rw [hq2] at hscn
        rw [if_neg (show ¬ encL (some (l, b)) = -1 from fun q => nI_pos (show l < 2 ^ 31 by omega) (by rw [show nI l = -1 from q]; decide))]
        unfold stp at hscn
        simp only at hscn
        by_cases c2 : smd (dst T f p) m m x < l
        · rw [if_pos c2] at hscn
          rw [if_pos (show nI (smd (dst T f p) m m x) < encL (some (l, b)) from nI_lt c2 (by omega))]
          exact hnew hscn
        · rw [if_neg c2] at hscn
          rw [if_neg (show ¬ nI (smd (dst T f p) m m x) < encL (some (l, b)) from nI_nlt (by omega) (by omega))]
          have h := ihd (x + 1) fu T2 (by omega) (by omega) k2 (fun l' b' hlb => by
            rw [hscn] at hlb
            exact hb2 l' b' (by rw [hq2]; exact hlb))
          rw [hscn] at h
          exact h
    · rw [if_neg c1] at hscn
      rw [if_neg (show ¬ nI (usd m m x) = nI (2 ^ m - 1) from nI_ne (by omega) (by omega) c1)]
      have h := ihd (x + 1) fu T2 (by omega) (by omega) k2 (fun l' b' hlb => by
        rw [hscn] at hlb
        exact hb2 l' b' hlb)
      rw [hscn] at h
      exact h
theorem powL {n f p m : Nat} {T : St} {x4 : Int32} {K : Int32 → Int32 → Option (Int32 × St)} (hm : m ≤ 5) : ∀ (dd i fu : Nat), i + dd = m → dd < fu → fX11_given_L57 n (nI f) (nI p) (nI m) x4 T K fu (nI (m ^ i)) (nI i) = K (nI (m ^ m)) (nI m) := by
  intro dd
  induction dd with
  | zero =>
    intro i fu hi hfu
    obtain ⟨fu, rfl⟩ : ∃ g, fu = g + 1 := ⟨fu - 1, by omega⟩
    have e : i = m := by omega
    subst e
    rw [fX11_given_L57, if_pos (nI_le (Nat.le_refl _) (by omega))]
  | succ dd ihd =>
    intro i fu hi hfu
    obtain ⟨fu, rfl⟩ : ∃ g, fu = g + 1 := ⟨fu - 1, by omega⟩
    rw [fX11_given_L57, if_neg (nI_ge (show i < m by omega) (by omega)), pk_mul, nI_1]
    simp only [lt_]
    rw [← Nat.pow_succ]
    exact ihd (i + 1) fu (by omega) (by omega)
theorem q14 {n : Nat} (hn : 5000 ≤ n) : Q14 n Rel := by
  intro S k Fn T a1 a2 a3 a4 ⟨np, nf, nt, td, tl, kp, h⟩
  obtain ⟨hPe, hKi, hLa, hTr, hTa, hLw, hPr, hSl⟩ := id h
  have hR : Rel S k Fn T := ⟨np, nf, nt, td, tl, kp, h⟩
  have hno : (∃ (r : Int32) (S' T' : St), some ((-1 : Int32), S) = some (r, S') ∧ some ((-1 : Int32), T) = some (r, T') ∧ Rel S' k Fn T') := ⟨-1, S, T, rfl, rfl, hR⟩
  have h60' := hLa.1
  have h40' := hPe.1
  unfold fX10_given fX11_given
  by_cases c1 : a3 < 1
  · rw [if_pos c1, isI_lo c1]; exact hno
  rw [if_neg c1]
  by_cases c2 : 5 < a3
  · rw [if_pos c2, isI_hi c2]; exact hno
  rw [if_neg c2, isI_ok c1 c2, ob_s, i10]
  obtain ⟨m, hm, rfl⟩ := nI_of2 (x := a3) (M := 5) (n := 5) (by decide) (fun q => c1 (by
      rw [Int32.lt_iff_toInt_lt] at q ⊢
      have e0 : (0 : Int32).toInt = 0 := by decide
      have e1 : (1 : Int32).toInt = 1 := by decide
      omega)) (Int32.not_lt.mp c2)
  have hm0 : 0 < m := by
    rcases Nat.eq_zero_or_pos m with q | q
    · subst q; exact absurd (by decide) c1
    · exact q
  have hf := row_rng a1 (y := S.1 3) h60' hm0 (show m ≤ 8 by omega) hLa.2.1
  have hp := row_rng a2 (y := S.1 1) (show np ≤ 60 by omega) hm0 (show m ≤ 8 by omega) hPe.2.1
  rw [hLa.2.2.1, hPe.2.2.1]
  unfold fX2_hasRow fX2_has fX4_hasRow fX4_has
  rw [hLa.2.1] at hf ⊢
  rw [hPe.2.1] at hp ⊢
  by_cases c3 : a4 < -1
  · rw [if_pos c3, isI_lo c3]
    rcases hf with ⟨e1, e2⟩ | ⟨f, hf, -, e1, e2⟩
    · rw [e2]; exact hno
    · rw [e2, ob_s, i10]
      rcases hp with ⟨e3, e4⟩ | ⟨p, hp, -, e3, e4⟩
      · rw [e4]; exact hno
      · rw [e4]; exact hno
  rw [if_neg c3]
  by_cases c4 : nI m ≤ a4
  · rw [if_pos c4, isI_hi (x := a4) (nI_sub1 (by omega) c4)]
    rcases hf with ⟨e1, e2⟩ | ⟨f, hf, -, e1, e2⟩
    · rw [e2]; exact hno
    · rw [e2, ob_s, i10]
      rcases hp with ⟨e3, e4⟩ | ⟨p, hp, -, e3, e4⟩
      · rw [e4]; exact hno
      · rw [e4]; exact hno
  rw [if_neg c4]
  have c5 : ¬ nI m - 1 < a4 := by
    rcases pk_ix a4 (n := m) (by omega) with u | u | ⟨i, hi, ei⟩
    · intro v
      have v1 := Int32.lt_iff_toInt_lt.mp u
      have v2 := Int32.lt_iff_toInt_lt.mp v
      have e0 : (0 : Int32).toInt = 0 := by decide
      obtain ⟨w, rfl⟩ : ∃ w, m = w + 1 := ⟨m - 1, by omega⟩
      rw [nI_pred, nI_toInt (by omega)] at v2
      omega
    · exact absurd u c4
    · rw [ei]; exact nI_le1 hi (by omega)
  rw [isI_ok (x := a4) c3 c5]
  rcases hf with ⟨e1, e2⟩ | ⟨f, hf, rfl, e1, e2⟩
  · rw [e1, e2]; exact hno
  rw [e1, e2, ob_s, ob_s, i10, i10]
  rcases hp with ⟨e3, e4⟩ | ⟨p, hp, rfl, e3, e4⟩
  · rw [e3, e4]; exact hno
  rw [e3, e4, ob_s, ob_s, i10, i10, ob_s, i10]
  have hw : Rows np nf f p m := ⟨hf, hp, hm0, hm⟩
  have hD := dst_le hPe hLa hw
  obtain ⟨S', x1, x2, hT⟩ := weighX hn hw h
  rw [x1, ob_s, leastX hm0 hm hT, ob_s]
  have hb := blk (D := dst T f p) hm0 hm m 0 0 0 none (Nat.two_pow_pos m) (by rw [pcF_0, Nat.zero_add])
  rw [Nat.zero_add, Nat.zero_add, Nat.sub_zero] at hb
  generalize hK : (fun (x43 x44 : Int32) (S45 : St) => if a4 = (-1) then (some (x43, S45)) else (if a4 < 0 ∨ 5 ≤ Int32.toNatClampNeg a4 then none else some ((S45.2.1 34 (Int32.toNatClampNeg a4)), S45))) = K0
  have hL57 := powL (n := n) (f := f) (p := p) (m := m) (T := T) (x4 := a4) (K := fun x11 x12 => fX11_given_L81 n (nI f) (nI p) (nI m) a4 x11 K0 n (-1) 0 T) hm m 0 n (by omega) (by omega)
  rw [Nat.pow_zero] at hL57
  rw [show fX11_given_L57 n (nI f) (nI p) (nI m) a4 T _ n 1 0 = _ from hL57]
  have hmm : m ^ m ≤ 3125 := by
    have h1 : m ^ m ≤ 5 ^ m := Nat.pow_le_pow_left hm m
    have h2 : 5 ^ m ≤ 5 ^ 5 := Nat.pow_le_pow_right (by omega) hm
    have h3 : (5 : Nat) ^ 5 = 3125 := by decide
    omega
  obtain ⟨T', y1, y2, y3⟩ := givL (n := n) (x4 := a4) (K := K0) hn hw h (m ^ m) 0 n T (by omega) (by omega) ⟨rfl, rfl, fun _ _ _ => rfl⟩ (fun l b hlb => by cases hlb)
  rw [hb] at y1 y3
  have y1' : fX11_given_L81 n (nI f) (nI p) (nI m) a4 (nI (m ^ m)) K0 n (-1) 0 T = K0 (nI (Lk (dst T f p) m m (2 ^ m - 1))) (nI (m ^ m)) T' := y1
  rw [y1', ← hK]
  obtain ⟨-, y4⟩ := y3 _ _ rfl
  have hRz : Rel S' k Fn T' := ⟨np, nf, nt, td, tl, kp, x2.congr (eqX.rf S') y2.eqM⟩
  simp only
  by_cases c6 : a4 = -1
  · rw [if_pos c6, if_pos c6]; exact ⟨_, S', T', rfl, rfl, hRz⟩
  · rw [if_neg c6, if_neg c6]
    rcases pk_ix a4 (n := m) (by omega) with u | u | ⟨i, hi, ei⟩
    · exfalso
      apply c6
      apply Int32.toInt_inj.mp
      have v1 := Int32.lt_iff_toInt_lt.mp u
      have v3 := Int32.le_iff_toInt_le.mp (Int32.not_lt.mp c3)
      have e0 : (0 : Int32).toInt = 0 := by decide
      have e3 : (-1 : Int32).toInt = -1 := by decide
      omega
    · exact absurd u c4
    · subst ei
      rw [choiX hn hm0 hm hD hT hi, ob_s, ig (show i < 5 by omega) (by omega), cl (by omega), y4 i hi, nI_add]
      exact ⟨_, S', T', rfl, rfl, hRz⟩
