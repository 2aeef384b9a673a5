theorem stn_le {d : Nat → Nat → Nat} {hs : Nat → Nat} {m : Nat} (inj : Inj hs m) (h60f : ∀ j, j < m → hs j < 60) : ∀ c g h, Stn d hs m c g h → c ≤ naF g m := by
  intro c
  induction c with
  | zero => intro g h _; exact Nat.zero_le _
  | succ c ihc =>
    intro g h s
    obtain ⟨i, g1, t1, t2⟩ := s
    have h1 := ihc g1 h t2
    have hr := t1.2.2.2.1 0
    have h2 := naF_lt (g := g) (g' := g1) (i := i) t1.2.1 (fun z => by
      have z' : g1 (itr (Pt d hs m g) 0 i) = -1 := z
      rw [hr] at z'
      exact nm1 (h60f _ (itr_act (d := d) inj t1.1 t1.2.1 1).1) z') m t1.1 (fun j _ => t1.sub inj h60f j)
    omega
/-- both sides close the same rings -/
theorem rings_both {np nf nt td tl kp k n : Nat} {S T : St} {Fn : Nat → Nat → Int32} (hn : 5000 ≤ n) (hR : RelP np nf nt td tl kp S k Fn T) (a1 a2 : Int32) : (∃ S', fX10_ringsClose n S a1 a2 = some (0, S') ∧ RelP np nf nt td tl kp S' k Fn T ∧ (fX11_isRow T a1 a2 = some 0 ∨ (fX11_isRow T a1 a2 = some 1 ∧ ∃ T', fX11_turns n T a1 a2 = some (-1, T') ∧ eqV T T'))) ∨ ∃ p m S' T' c h, a1 = nI p ∧ a2 = nI m ∧ p + m ≤ np ∧ 2 ≤ m ∧ m ≤ 8 ∧ fX11_isRow T a1 a2 = some 1 ∧ (∀ j, j < m → hsf T nt nf p j < nf) ∧ Inj (hsf T nt nf p) m ∧ fX10_ringsClose n S a1 a2 = some (1, S') ∧ RelP np nf nt td tl kp S' k Fn T ∧ RgX m p (hsf T nt nf p) S' T ∧ (∀ j, j < m → S'.2.1 28 j = h j) ∧ S'.1 20 = nI c ∧ fX11_turns n T a1 a2 = some (nI c, T') ∧ RgM m (hsf T nt nf p) h T T' ∧ c ≤ m ∧ Nrm m h ∧ OnceG (hsf T nt nf p) m h := by
  have h60' := hR.2.2.1.1
  have h40' := hR.1.1
  unfold fX10_ringsClose fX11_isRow
  by_cases c1 : a2 < 2
  · left; rw [if_pos c1, isI_lo c1]; exact ⟨S, rfl, hR, Or.inl rfl⟩
  rw [if_neg c1]
  by_cases c2 : 8 < a2
  · left; rw [if_pos c2, isI_hi c2]; exact ⟨S, rfl, hR, Or.inl rfl⟩
  rw [if_neg c2, isI_ok c1 c2, ob_s, i10]
  obtain ⟨m, hm, rfl⟩ := nI_of2 (x := a2) (M := 8) (n := 8) (by decide) (fun q => c1 (by
      rw [Int32.lt_iff_toInt_lt] at q ⊢
      have e0 : (0 : Int32).toInt = 0 := by decide
      have e1 : (2 : Int32).toInt = 2 := by decide
      omega)) (Int32.not_lt.mp c2)
  have hm2 : 2 ≤ m := by
    rcases Nat.lt_or_ge m 2 with q | q
    · exact absurd (show nI m < 2 from nI_lt (b := 2) q (by omega)) c1
    · exact q
  have hp := row_rng a1 (y := S.1 1) (show np ≤ 60 by omega) (show 0 < m by omega) hm hR.1.2.1
  unfold fX4_hasRow fX4_has
  rw [hR.1.2.1] at hp ⊢
  rw [hR.1.2.2.1]
  rcases hp with ⟨e3, e4⟩ | ⟨p, hp, rfl, e3, e4⟩
  · left; rw [e3, e4]; exact ⟨S, rfl, hR, Or.inl rfl⟩
  rw [e3, e4, ob_s, ob_s, i10, i10]
  rcases closeX hn hp hm2 hm hR with ⟨S', ⟨j, j1, j2⟩, x1, x2⟩ | ⟨S', c, h, y1, y2, y3, y4, y5, y6, y7, y8⟩
  · left
    rcases turnsM hn hp hm2 hm hR with ⟨T', -, z1, z2⟩ | ⟨T', c, h, z1, -⟩
    · refine ⟨S', ?_, x2, Or.inr ⟨rfl, T', z1, z2⟩⟩
      rw [x1, ob_s]; rfl
    · exact absurd j2 (z1 j j1)
  · right
    rcases turnsM hn hp hm2 hm hR with ⟨T', ⟨j, j1, j2⟩, -⟩ | ⟨T', c', h', z1, z2, z3, z4, z5⟩
    · exact absurd j2 (y1 j j1)
    · have hlt : ∀ j, j < m → hsf T nt nf p j < nf := fun j hj => (hvf_ok h60' (y1 j hj)).1
      have inj : Inj (hsf T nt nf p) m := fun a b ha hb e => by
        have ea := (hvf_ok h60' (y1 a ha)).2.2
        have eb := (hvf_ok h60' (y1 b hb)).2.2
        rw [e, eb] at ea
        have := (nI_eq (by omega) (by omega)).mp ea
        omega
      have h60f : ∀ j, j < m → hsf T nt nf p j < 60 := fun j hj => by have := hlt j hj; omega
      obtain ⟨ec, eh⟩ := stn_uniq inj h60f c c' (g0f m) h h' y7 y8 z4 z5
      subst ec
      subst eh
      have hc : c ≤ m := Nat.le_trans (stn_le inj h60f c (g0f m) h y7) (naF_le m)
      have ho : OnceG (hsf T nt nf p) m h := by
        refine stn_once inj h60f c (g0f m) h y7 ⟨fun j hj q => ?_, fun j l hj hl q _ => ?_⟩
        · exact absurd (show g0f m j = -1 by unfold g0f; rw [if_pos hj]) q
        · exact absurd (show g0f m j = -1 by unfold g0f; rw [if_pos hj]) q
      refine ⟨p, m, S', T', c, h, rfl, rfl, hp, hm2, hm, rfl, hlt, inj, ?_, y3, y4, y5, y6, z2, z3, hc, y8, ho⟩
      rw [y2, ob_s]; rfl
theorem q15 {n : Nat} (hn : 5000 ≤ n) : Q15 n Rel := by
  intro S k Fn T a1 a2 a3 ⟨np, nf, nt, td, tl, kp, h⟩
  have hR : Rel S k Fn T := ⟨np, nf, nt, td, tl, kp, h⟩
  have hno : (∃ (r : Int32) (S' T' : St), some ((-1 : Int32), S) = some (r, S') ∧ some ((-1 : Int32), T) = some (r, T') ∧ Rel S' k Fn T') := ⟨-1, S, T, rfl, rfl, hR⟩
  unfold fX10_rings fX11_rings
  have hM01 : fX11_isRow T a1 a2 = some 0 ∨ fX11_isRow T a1 a2 = some 1 := by
    rcases rings_both hn h a1 a2 with ⟨S', -, -, e | ⟨e, -⟩⟩ | ⟨p, m, S', T', c, hh, -, -, -, -, -, e, -⟩
    · exact Or.inl e
    · exact Or.inr e
    · exact Or.inr e
  by_cases c1 : a3 < -1
  · rw [if_pos c1, isI_lo c1]
    rcases hM01 with e | e
    · rw [e]; exact hno
    · rw [e]; exact hno
  rw [if_neg c1]
  by_cases c2 : a2 ≤ a3
  · rw [if_pos c2]
    rcases rings_both hn h a1 a2 with ⟨S', -, -, e | ⟨e, -⟩⟩ | ⟨p, m, S', T', c, hh, -, em, -, hm2, hm8, e, -⟩
    · rw [e]; exact hno
    · -- a row, so a2 is a small number
      have hz : a2 - 1 < a3 := by
        unfold fX11_isRow at e
        by_cases d1 : a2 < 2
        · rw [isI_lo d1, ob_s, i00] at e; cases e
        · by_cases d2 : 8 < a2
          · rw [isI_hi d2, ob_s, i00] at e; cases e
          · obtain ⟨m, hm, rfl⟩ := nI_of2 (x := a2) (M := 8) (n := 8) (by decide) (fun q => d1 (by
              rw [Int32.lt_iff_toInt_lt] at q ⊢
              have e0 : (0 : Int32).toInt = 0 := by decide
              have e1 : (2 : Int32).toInt = 2 := by decide
              omega)) (Int32.not_lt.mp d2)
            exact nI_sub1 (by omega) c2
      rw [e, ob_s, i10, isI_hi hz]; exact hno
    · subst em
      rw [e, ob_s, i10, isI_hi (nI_sub1 (by omega) c2)]; exact hno
  rw [if_neg c2]
  rcases rings_both hn h a1 a2 with ⟨S', x1, x2, e | ⟨e, T', z1, z2⟩⟩ | ⟨p, m, S', T', c, hh, e1, em, hp, hm2, hm8, e, hlt, inj, x1, x2, x3, x4, x5, z1, z2, hc, hN, ho⟩
  · rw [x1, e]
    exact ⟨-1, S', T, rfl, rfl, np, nf, nt, td, tl, kp, x2⟩
  · rw [x1, e, ob_s, ob_s, i10, z1]
    have hz : Rel S' k Fn T' := ⟨np, nf, nt, td, tl, kp, x2.congr (eqX.rf S') z2.eqM⟩
    simp only [lt_, ob_s, if_true]
    rcases (show fX11_isIn a3 (-1) (a2 - 1) = some 0 ∨ fX11_isIn a3 (-1) (a2 - 1) = some 1 by
      unfold fX11_isIn
      split
      · left; rfl
      · split
        · left; rfl
        · right; rfl) with q | q
    · rw [q]; exact ⟨-1, S', T, rfl, rfl, np, nf, nt, td, tl, kp, x2⟩
    · rw [q]; exact ⟨-1, S', T', rfl, rfl, hz⟩
  · subst e1
    subst em
    have hz : Rel S' k Fn T' := ⟨np, nf, nt, td, tl, kp, x2.congr (eqX.rf S') z2.1.eqM⟩
    have c5 : ¬ nI m - 1 < a3 := by
      rcases pk_ix a3 (n := m) (by omega) with u | u | ⟨i, hi, ei⟩
      · intro v
        have v1 := Int32.lt_iff_toInt_lt.mp u
        have v2 := Int32.lt_iff_toInt_lt.mp v
        have e0 : (0 : Int32).toInt = 0 := by decide
        obtain ⟨w, rfl⟩ : ∃ w, m = w + 1 := ⟨m - 1, by omega⟩
        rw [nI_pred, nI_toInt (by omega)] at v2
        omega
      · exact absurd u c2
      · rw [ei]; exact nI_le1 hi (by omega)
    rw [x1, e, ob_s, ob_s, i10, isI_ok c1 c5, ob_s, i10, z1, ob_s]
    simp only [lt_, i10]
    rw [if_neg (show ¬ nI c = -1 from nm1 (by omega))]
    by_cases c6 : a3 = -1
    · rw [if_pos c6, if_pos c6, x5]
      exact ⟨_, S', T', rfl, rfl, hz⟩
    · rw [if_neg c6, if_neg c6]
      rcases pk_ix a3 (n := m) (by omega) with u | u | ⟨i, hi, ei⟩
      · exfalso
        apply c6
        apply Int32.toInt_inj.mp
        have v1 := Int32.lt_iff_toInt_lt.mp u
        have v3 := Int32.le_iff_toInt_le.mp (Int32.not_lt.mp c1)
        have e0 : (0 : Int32).toInt = 0 := by decide
        have e3 : (-1 : Int32).toInt = -1 := by decide
        omega
      · exact absurd u c2
      · subst ei
        unfold fX6_fieldFor
        rw [x3.1, isB_ok (nI_pos (by omega)) (nI_ge hi (by omega)), ob_s, i10, ig (show i < 8 by omega) (by omega), ob_s, ig (show i < 8 by omega) (by omega), cl (by omega), x4 i hi, (z2.2 i hi).2]
        exact ⟨_, S', T', rfl, rfl, hz⟩
/-! the swap -/
def chF (h : Nat → Int32) (hs : Nat → Nat) : Nat → Nat
  | 0 => 0
  | i + 1 => if h i = nI (hs i) then chF h hs i else chF h hs i + 1
theorem chX {m n : Nat} {h : Nat → Int32} {hs : Nat → Nat} {S : St} (hm : m ≤ 8) (h19 : S.1 19 = nI m) (h28 : ∀ j, j < m → S.2.1 28 j = h j) (h26 : ∀ j, j < m → S.2.1 26 j = nI (hs j)) : ∀ (dd i fu : Nat), i + dd = m → dd < fu → fX6_changes_L4 n S (fun x5 x6 => some x5) fu (nI (chF h hs i)) (nI i) = some (nI (chF h hs m)) := by
  intro dd
  induction dd with
  | zero =>
    intro i fu hi hfu
    obtain ⟨fu, rfl⟩ : ∃ g, fu = g + 1 := ⟨fu - 1, by omega⟩
    have e : i = m := by omega
    subst e
    rw [fX6_changes_L4, h19, if_pos (nI_le (Nat.le_refl _) (by omega))]
  | succ dd ihd =>
    intro i fu hi hfu
    obtain ⟨fu, rfl⟩ : ∃ g, fu = g + 1 := ⟨fu - 1, by omega⟩
    have h := ihd (i + 1) fu (by omega) (by omega)
    rw [chF] at h
    rw [fX6_changes_L4, h19, if_neg (nI_ge (show i < m by omega) (by omega)), ig (show i < 8 by omega) (by omega), ig (show i < 8 by omega) (by omega), cl (by omega), h28 i (by omega), h26 i (by omega)]
    simp only [nI_1]
    split at h
    · rename_i c; rw [if_pos c]; exact h
    · rename_i c; rw [if_neg c]; exact h
theorem chM {m n : Nat} {h : Nat → Int32} {hs : Nat → Nat} {T : St} {x1 : Int32} {K : Int32 → Int32 → Option (Int32 × St)} (hm : m ≤ 8) (h36 : ∀ j, j < m → T.2.1 36 j = h j) (h35 : ∀ j, j < m → T.2.1 35 j = nI (hs j)) : ∀ (dd i fu : Nat), i + dd = m → dd < fu → fX11_swap_L26 n x1 (nI m) T K fu (nI (chF h hs i)) (nI i) = K (nI (chF h hs m)) (nI m) := by
  intro dd
  induction dd with
  | zero =>
    intro i fu hi hfu
    obtain ⟨fu, rfl⟩ : ∃ g, fu = g + 1 := ⟨fu - 1, by omega⟩
    have e : i = m := by omega
    subst e
    rw [fX11_swap_L26, if_pos (nI_le (Nat.le_refl _) (by omega))]
  | succ dd ihd =>
    intro i fu hi hfu
    obtain ⟨fu, rfl⟩ : ∃ g, fu = g + 1 := ⟨fu - 1, by omega⟩
    have h := ihd (i + 1) fu (by omega) (by omega)
    rw [chF] at h
    rw [fX11_swap_L26, if_neg (nI_ge (show i < m by omega) (by omega)), ig (show i < 8 by omega) (by omega), ig (show i < 8 by omega) (by omega), cl (by omega), h36 i (by omega), h35 i (by omega), show fX11_one 1 = some 1 from rfl, show fX11_one 0 = some 0 from rfl, ob_s, ob_s]
    simp only [nI_1, lt_, Int32.add_zero]
    split at h
    · rename_i c; rw [if_pos c]; exact h
    · rename_i c; rw [if_neg c]; exact h
/-- how many of the changes are of fields below f -/
def cfF (h : Nat → Int32) (hs : Nat → Nat) (f : Nat) : Nat → Nat
  | 0 => 0
  | i + 1 => if ¬ h i = nI (hs i) ∧ (h i).toNatClampNeg < f then cfF h hs f i + 1 else cfF h hs f i
theorem cfF_le {h : Nat → Int32} {hs : Nat → Nat} {f : Nat} : ∀ i, cfF h hs f i ≤ chF h hs i := by
  intro i
  induction i with
  | zero => exact Nat.le_refl _
  | succ i ihi =>
    rw [cfF, chF]
    by_cases c : h i = nI (hs i)
    · rw [if_pos c, if_neg (fun q => q.1 c)]; exact ihi
    · rw [if_neg c]; split <;> omega
theorem cfF_0 {h : Nat → Int32} {hs : Nat → Nat} : ∀ i, cfF h hs 0 i = 0 := by
  intro i
  induction i with
  | zero => rfl
  | succ i ihi => rw [cfF, if_neg (fun q => by omega), ihi]
theorem cfF_same {h : Nat → Int32} {hs : Nat → Nat} {f : Nat} : ∀ i, (∀ j, j < i → ¬ ((h j).toNatClampNeg = f ∧ ¬ h j = nI (hs j))) → cfF h hs (f + 1) i = cfF h hs f i := by
  intro i
  induction i with
  | zero => intro _; rfl
  | succ i ihi =>
    intro hno
    have h1 := hno i (by omega)
    rw [cfF, cfF, ihi (fun j hj => hno j (by omega))]
    by_cases c : ¬ h i = nI (hs i) ∧ (h i).toNatClampNeg < f
    · rw [if_pos c, if_pos ⟨c.1, by omega⟩]
    · rw [if_neg c, if_neg (fun q => by
        by_cases e : (h i).toNatClampNeg = f
        · exact h1 ⟨e, q.1⟩
        · exact c ⟨q.1, by omega⟩)]
theorem cfF_one {h : Nat → Int32} {hs : Nat → Nat} {f i0 : Nat} (h1 : (h i0).toNatClampNeg = f) (h2 : ¬ h i0 = nI (hs i0)) : ∀ i, i0 < i → (∀ j, j < i → ¬ j = i0 → ¬ (h j).toNatClampNeg = f) → cfF h hs (f + 1) i = cfF h hs f i + 1 := by
  intro i
  induction i with
  | zero => intro hi; omega
  | succ i ihi =>
    intro hi hno
    by_cases e : i = i0
    · subst e
      rw [cfF, cfF, cfF_same i (fun j hj q => hno j (by omega) (by omega) q.1), if_pos ⟨h2, by omega⟩, if_neg (fun q => by omega)]
    · have hn := hno i (by omega) e
      rw [cfF, cfF, ihi (by omega) (fun j hj => hno j (by omega))]
      by_cases c : ¬ h i = nI (hs i) ∧ (h i).toNatClampNeg < f
      · rw [if_pos c, if_pos ⟨c.1, by omega⟩]
      · rw [if_neg c, if_neg (fun q => c ⟨q.1, by omega⟩)]
theorem winX_no {m n f : Nat} {h : Nat → Int32} {hs : Nat → Nat} {S : St} (hm : m ≤ 8) (h19 : S.1 19 = nI m) (h28 : ∀ j, j < m → S.2.1 28 j = h j) (h26 : ∀ j, j < m → S.2.1 26 j = nI (hs j)) (hno : ∀ j, j < m → ¬ (h j = nI f ∧ ¬ nI (hs j) = nI f)) : ∀ (dd i fu : Nat), i + dd = m → dd < fu → fX6_winnerOf_L2 n (nI f) S (fun x6 => some (-1)) fu (nI i) = some (-1) := by
  intro dd
  induction dd with
  | zero =>
    intro i fu hi hfu
    obtain ⟨fu, rfl⟩ : ∃ g, fu = g + 1 := ⟨fu - 1, by omega⟩
    have e : i = m := by omega
    subst e
    rw [fX6_winnerOf_L2, h19, if_pos (nI_le (Nat.le_refl _) (by omega))]
  | succ dd ihd =>
    intro i fu hi hfu
    obtain ⟨fu, rfl⟩ : ∃ g, fu = g + 1 := ⟨fu - 1, by omega⟩
    have h1 := hno i (by omega)
    rw [fX6_winnerOf_L2, h19, if_neg (nI_ge (show i < m by omega) (by omega)), ig (show i < 8 by omega) (by omega), ig (show i < 8 by omega) (by omega), cl (by omega), h28 i (by omega), h26 i (by omega), nI_1, ihd (i + 1) fu (by omega) (by omega)]
    by_cases c : h i = nI f
    · rw [if_pos c]
      by_cases c3 : nI (hs i) = nI f
      · rw [if_pos c3]
      · exact absurd ⟨c, c3⟩ h1
    · rw [if_neg c]
theorem winX_yes {m n f i0 : Nat} {h : Nat → Int32} {hs : Nat → Nat} {S : St} (hm : m ≤ 8) (h19 : S.1 19 = nI m) (h28 : ∀ j, j < m → S.2.1 28 j = h j) (h26 : ∀ j, j < m → S.2.1 26 j = nI (hs j)) (hi0 : i0 < m) (hy : h i0 = nI f ∧ ¬ nI (hs i0) = nI f) (hno : ∀ j, j < m → ¬ j = i0 → ¬ h j = nI f) : ∀ (dd i fu : Nat), i + dd = i0 → dd < fu → fX6_winnerOf_L2 n (nI f) S (fun x6 => some (-1)) fu (nI i) = some (nI i0) := by
  intro dd
  induction dd with
  | zero =>
    intro i fu hi hfu
    obtain ⟨fu, rfl⟩ : ∃ g, fu = g + 1 := ⟨fu - 1, by omega⟩
    have e : i = i0 := by omega
    subst e
    rw [fX6_winnerOf_L2, h19, if_neg (nI_ge hi0 (by omega)), ig (show i < 8 by omega) (by omega), ig (show i < 8 by omega) (by omega), cl (by omega), h28 i (by omega), h26 i (by omega), if_pos hy.1, if_neg hy.2]
  | succ dd ihd =>
    intro i fu hi hfu
    obtain ⟨fu, rfl⟩ : ∃ g, fu = g + 1 := ⟨fu - 1, by omega⟩
    rw [fX6_winnerOf_L2, h19, if_neg (nI_ge (show i < m by omega) (by omega)), ig (show i < 8 by omega) (by omega), ig (show i < 8 by omega) (by omega), cl (by omega), h28 i (by omega), h26 i (by omega), nI_1, ihd (i + 1) fu (by omega) (by omega), if_neg (hno i (by omega) (by omega))]
theorem winM_no {m n f : Nat} {h : Nat → Int32} {hs : Nat → Nat} {T : St} {x1 x3 : Int32} {K : Int32 → St → Option (Int32 × St)} (hm : m ≤ 8) (h36 : ∀ j, j < m → T.2.1 36 j = h j) (h35 : ∀ j, j < m → T.2.1 35 j = nI (hs j)) : ∀ (dd i fu : Nat), (∀ j, i ≤ j → j < m → ¬ (h j = nI f ∧ ¬ nI (hs j) = nI f)) → i + dd = m → dd < fu → fX11_swap_L95 n x1 (nI m) x3 (nI f) K fu (nI i) T = K (nI m) T := by
  intro dd
  induction dd with
  | zero =>
    intro i fu hno hi hfu
    obtain ⟨fu, rfl⟩ : ∃ g, fu = g + 1 := ⟨fu - 1, by omega⟩
    have e : i = m := by omega
    subst e
    rw [fX11_swap_L95, if_pos (nI_le (Nat.le_refl _) (by omega))]
  | succ dd ihd =>
    intro i fu hno hi hfu
    obtain ⟨fu, rfl⟩ : ∃ g, fu = g + 1 := ⟨fu - 1, by omega⟩
    have h1 := hno i (Nat.le_refl _) (by omega)
    rw [fX11_swap_L95, if_neg (nI_ge (show i < m by omega) (by omega)), ig (show i < 8 by omega) (by omega), ig (show i < 8 by omega) (by omega), cl (by omega), h36 i (by omega), h35 i (by omega), nI_1, ihd (i + 1) fu (fun j h1 h2 => hno j (by omega) h2) (by omega) (by omega)]
    by_cases c : h i = nI f
    · rw [if_pos c]
      by_cases c3 : nI (hs i) = nI f
      · rw [if_pos c3]
      · exact absurd ⟨c, c3⟩ h1
    · rw [if_neg c]
theorem winM_yes {np nf nt td m n f p i0 : Nat} {h : Nat → Int32} {hs : Nat → Nat} {S T : St} {x3 : Int32} {K : Int32 → St → Option (Int32 × St)} (hm : m ≤ 8) (hTr : Tr np nf nt td S T) (hnt : nt < 200) (h36 : ∀ j, j < m → T.2.1 36 j = h j) (h35 : ∀ j, j < m → T.2.1 35 j = nI (hs j)) (hi0 : i0 < m) (hy : h i0 = nI f ∧ ¬ nI (hs i0) = nI f) (hno : ∀ j, j < m → ¬ j = i0 → ¬ h j = nI f) : ∀ (dd i fu : Nat), i + dd = i0 → dd + m < fu → fX11_swap_L95 n (nI p) (nI m) x3 (nI f) K fu (nI i) T = K (nI m) (mvM T nt f (p + i0) td) := by
  intro dd
  induction dd with
  | zero =>
    intro i fu hi hfu
    obtain ⟨fu, rfl⟩ : ∃ g, fu = g + 1 := ⟨fu - 1, by omega⟩
    have e : i = i0 := by omega
    subst e
    rw [fX11_swap_L95, if_neg (nI_ge hi0 (by omega)), ig (show i < 8 by omega) (by omega), ig (show i < 8 by omega) (by omega), cl (by omega), h36 i (by omega), h35 i (by omega), if_pos hy.1, if_neg hy.2, nI_add, mvM_f hTr hnt, ob_s, nI_1]
    have m36 : ∀ j, j < m → (mvM T nt f (p + i) td).2.1 36 j = h j := fun j hj => by unfold mvM; simp [sS_2, sA_2]; exact h36 j hj
    have m35 : ∀ j, j < m → (mvM T nt f (p + i) td).2.1 35 j = nI (hs j) := fun j hj => by unfold mvM; simp [sS_2, sA_2]; exact h35 j hj
    exact winM_no (n := n) hm m36 m35 (m - (i + 1)) (i + 1) fu (fun j h1 h2 q => hno j h2 (by omega) q.1) (by omega) (by omega)
  | succ dd ihd =>
    intro i fu hi hfu
    obtain ⟨fu, rfl⟩ : ∃ g, fu = g + 1 := ⟨fu - 1, by omega⟩
    rw [fX11_swap_L95, if_neg (nI_ge (show i < m by omega) (by omega)), ig (show i < 8 by omega) (by omega), cl (by omega), h36 i (by omega), if_neg (hno i (by omega) (by omega)), nI_1, ihd (i + 1) fu (by omega) (by omega)]
theorem swpL {np nf td tl kp k n m p nt0 : Nat} {h : Nat → Int32} {hs : Nat → Nat} {Fn : Nat → Nat → Int32} {r : Int32} (hn : 5000 ≤ n) (hpm : p + m ≤ np) (hm : m ≤ 8) (h60 : nf ≤ 60) (hlt : ∀ j, j < m → hs j < nf) (hv : ∀ j, j < m → ∃ x, x < m ∧ h j = nI (hs x)) (ho : ∀ j l, j < m → l < m → h j = h l → j = l) (hcap : nt0 + chF h hs m ≤ 200) : ∀ (dd f fu : Nat) (S1 T1 : St), RelP np nf (nt0 + cfF h hs f m) td tl kp S1 k Fn T1 → S1.1 19 = nI m → (∀ j, j < m → S1.2.1 28 j = h j ∧ S1.2.1 26 j = nI (hs j)) → (∀ j, j < m → T1.2.1 36 j = h j ∧ T1.2.1 35 j = nI (hs j)) → f + dd = nf → dd < fu → ∃ S' T', fX10_swap_L35 n (nI p) r (fun x13 S14 => some (r, S14)) fu (nI f) S1 = some (r, S') ∧ fX11_swap_L83 n (nI p) (nI m) r (fun x28 S29 => some (r, S29)) fu (nI f) T1 = some (r, T') ∧ Rel S' k Fn T' := by
  have hvlt : ∀ j, j < m → ∃ v, v < nf ∧ h j = nI v := fun j hj => by
    obtain ⟨x, hx, e⟩ := hv j hj
    exact ⟨hs x, hlt x hx, e⟩
  intro dd
  induction dd with
  | zero =>
    intro f fu S1 T1 hR h19 hX hM hf hfu
    obtain ⟨fu, rfl⟩ : ∃ g, fu = g + 1 := ⟨fu - 1, by omega⟩
    have e : f = nf := by omega
    subst e
    refine ⟨S1, T1, ?_, ?_, np, f, _, td, tl, kp, hR⟩
    · rw [fX10_swap_L35, hR.2.2.1.2.1, if_pos (nI_le (Nat.le_refl _) (by omega))]
    · rw [fX11_swap_L83, hR.2.2.1.2.2.1, if_pos (nI_le (Nat.le_refl _) (by omega))]
  | succ dd ihd =>
    intro f fu S1 T1 hR h19 hX hM hf hfu
    obtain ⟨fu, rfl⟩ : ∃ g, fu = g + 1 := ⟨fu - 1, by omega⟩
    rw [fX10_swap_L35, hR.2.2.1.2.1, if_neg (nI_ge (show f < nf by omega) (by omega)), fX11_swap_L83, hR.2.2.1.2.2.1, if_neg (nI_ge (show f < nf by omega) (by omega)), nI_1]
    unfold fX6_winnerOf
    rcases Classical.em (∃ i0, i0 < m ∧ h i0 = nI f ∧ ¬ nI (hs i0) = nI f) with ⟨i0, hi0, y1, y2⟩ | hno
    · have hno : ∀ j, j < m → ¬ j = i0 → ¬ h j = nI f := fun j hj hne q => hne (ho j i0 hj hi0 (by rw [q, y1]))
      have hcl : (h i0).toNatClampNeg = f := by rw [y1, cl (by omega)]
      have hc1 : cfF h hs (f + 1) m = cfF h hs f m + 1 := cfF_one hcl (fun q => y2 (by rw [← q, y1])) m hi0 (fun j hj hne q => by
        obtain ⟨v, hv1, hv2⟩ := hvlt j hj
        rw [hv2, cl (by omega)] at q
        exact hno j hj hne (by rw [hv2, q]))
      have hc2 := cfF_le (h := h) (hs := hs) (f := f + 1) m
      have hnt : nt0 + cfF h hs f m < 200 := by omega
      rw [show fX6_winnerOf_L2 n (nI f) S1 (fun x6 => some (-1)) n 0 = some (nI i0) from winX_yes (n := n) hm h19 (fun j hj => (hX j hj).1) (fun j hj => (hX j hj).2) hi0 ⟨y1, y2⟩ hno i0 0 n (by omega) (by omega), ob_s, if_neg (show ¬ nI i0 = -1 from nm1 (by omega)), nI_add, mvX_f hR.2.2.1 hR.2.2.2.1 (show f < nf by omega) hnt, ob_s]
      rw [show fX11_swap_L95 n (nI p) (nI m) r (nI f) (fun x26 S27 => fX11_swap_L83 n (nI p) (nI m) r (fun x28 S29 => some (r, S29)) fu (nI (f + 1)) S27) n 0 T1 = _ from winM_yes (n := n) (p := p) (x3 := r) (K := fun x26 S27 => fX11_swap_L83 n (nI p) (nI m) r (fun x28 S29 => some (r, S29)) fu (nI (f + 1)) S27) hm hR.2.2.2.1 hnt (fun j hj => (hM j hj).1) (fun j hj => (hM j hj).2) hi0 ⟨y1, y2⟩ hno i0 0 n (by omega) (by omega)]
      refine ihd (f + 1) fu _ _ (by rw [hc1, ← Nat.add_assoc]; exact mv_rel hR (show f < nf by omega) (show p + i0 < np by omega) hnt) h19 (fun j hj => ?_) (fun j hj => ?_) (by omega) (by omega)
      · unfold mvX; simp [sS_2, sA_2]; exact hX j hj
      · unfold mvM; simp [sS_2, sA_2]; exact hM j hj
    · have hno' : ∀ j, j < m → ¬ (h j = nI f ∧ ¬ nI (hs j) = nI f) := fun j hj q => hno ⟨j, hj, q⟩
      have hc1 : cfF h hs (f + 1) m = cfF h hs f m := cfF_same m (fun j hj q => by
        obtain ⟨v, hv1, hv2⟩ := hvlt j hj
        have q1 := q.1
        rw [hv2, cl (by omega)] at q1
        subst q1
        exact hno' j hj ⟨hv2, fun z => q.2 (by rw [z, hv2])⟩)
      rw [show fX6_winnerOf_L2 n (nI f) S1 (fun x6 => some (-1)) n 0 = some (-1) from winX_no (n := n) hm h19 (fun j hj => (hX j hj).1) (fun j hj => (hX j hj).2) hno' m 0 n (by omega) (by omega), ob_s, if_pos rfl]
      rw [show fX11_swap_L95 n (nI p) (nI m) r (nI f) (fun x26 S27 => fX11_swap_L83 n (nI p) (nI m) r (fun x28 S29 => some (r, S29)) fu (nI (f + 1)) S27) n 0 T1 = _ from winM_no (n := n) (x1 := nI p) (x3 := r) (K := fun x26 S27 => fX11_swap_L83 n (nI p) (nI m) r (fun x28 S29 => some (r, S29)) fu (nI (f + 1)) S27) hm (fun j hj => (hM j hj).1) (fun j hj => (hM j hj).2) m 0 n (fun j _ hj => hno' j hj) (by omega) (by omega)]
      exact ihd (f + 1) fu _ _ (by rw [hc1]; exact hR) h19 hX hM (by omega) (by omega)
theorem q16 {n : Nat} (hn : 5000 ≤ n) : Q16 n Rel := by
  intro S k Fn T a1 a2 ⟨np, nf, nt, td, tl, kp, h⟩
  have hR : Rel S k Fn T := ⟨np, nf, nt, td, tl, kp, h⟩
  have h60' := h.2.2.1.1
  unfold fX10_swap fX11_swap
  rcases rings_both hn h a1 a2 with ⟨S', x1, x2, e | ⟨e, T', z1, z2⟩⟩ | ⟨p, m, S', T', c, hh, e1, em, hp, hm2, hm8, e, hlt, inj, x1, x2, x3, x4, x5, z1, z2, hc, hN, ho⟩
  · rw [x1, e]
    exact ⟨-1, S', T, rfl, rfl, np, nf, nt, td, tl, kp, x2⟩
  · rw [x1, e, ob_s, ob_s, i10, z1]
    exact ⟨-1, S', T', rfl, rfl, np, nf, nt, td, tl, kp, x2.congr (eqX.rf S') z2.eqM⟩
  · subst e1
    subst em
    have hz : RelP np nf nt td tl kp S' k Fn T' := x2.congr (eqX.rf S') z2.1.eqM
    have t1 := hz.2.2.2.1.1
    rw [x1, e, ob_s, ob_s, i10, z1, ob_s]
    simp only [lt_, i10]
    rw [if_neg (show ¬ nI c = -1 from nm1 (by omega))]
    have hX : fX6_changes n S' = some (nI (chF hh (hsf T nt nf p) m)) := chX (n := n) hm8 x3.1 x4 (fun j hj => (x3.2 j hj).2.1) m 0 n (by omega) (by omega)
    have hle : ∀ i, chF hh (hsf T nt nf p) i ≤ i := by
      intro i
      induction i with
      | zero => exact Nat.le_refl _
      | succ i ihi => rw [chF]; split <;> omega
    have hcm := hle m
    rw [hX, ob_s]
    unfold fX2_transfersLeft
    rw [ob_s, hz.2.2.2.1.2.1, show (200 : Int32) - nI nt = nI (200 - nt) from pk_sub t1]
    rw [show fX11_swap_L26 n (nI p) (nI m) T' _ n 0 0 = _ from chM (n := n) (x1 := nI p) hm8 (fun j hj => (z2.2 j hj).2) (fun j hj => (z2.2 j hj).1) m 0 n (by omega) (by omega), hz.2.2.2.1.2.2.1, nI_add]
    rcases Nat.lt_or_ge 200 (nt + chF hh (hsf T nt nf p) m) with q | q
    · rw [if_neg (nI_ge (show 200 - nt < chF hh (hsf T nt nf p) m by omega) (by omega)), if_neg (show ¬ nI (nt + chF hh (hsf T nt nf p) m) ≤ 200 from nI_ge (a := 200) q (by omega))]
      exact ⟨-1, S', T', rfl, rfl, np, nf, nt, td, tl, kp, hz⟩
    · rw [if_pos (nI_le (show chF hh (hsf T nt nf p) m ≤ 200 - nt by omega) (by omega)), if_pos (show nI (nt + chF hh (hsf T nt nf p) m) ≤ 200 from nI_le (b := 200) q (by omega))]
      obtain ⟨S2, T2, r1, r2, r3⟩ := swpL (n := n) (r := nI (chF hh (hsf T nt nf p) m)) hn hp hm8 h60' hlt (fun j hj => by
        obtain ⟨x, hx, ex, -⟩ := ho.1 j hj (hN j hj)
        exact ⟨x, hx, ex⟩) (fun j l hj hl q => ho.2 j l hj hl (hN j hj) q) q nf 0 n S' T' (by rw [cfF_0]; exact hz) x3.1 (fun j hj => ⟨x4 j hj, (x3.2 j hj).2.1⟩) (fun j hj => ⟨(z2.2 j hj).2, (z2.2 j hj).1⟩) (by omega) (by omega)
      exact ⟨_, S2, T2, r1, r2, r3⟩
