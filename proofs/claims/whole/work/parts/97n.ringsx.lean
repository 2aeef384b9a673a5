/-! rings, as the class closes them -/
def fof (T : St) (nt : Nat) (q : Int32) : Nat → Int32
  | 0 => -1
  | i + 1 => if fof T nt q i = -1 then (if own T i nt = q then nI i else -1) else fof T nt q i
theorem fof_in {T : St} {nt : Nat} {q : Int32} : ∀ n, fof T nt q n = -1 ∨ ∃ f, f < n ∧ fof T nt q n = nI f ∧ own T f nt = q := by
  intro n
  induction n with
  | zero => left; rfl
  | succ n ihn =>
    rw [fof]
    by_cases c : fof T nt q n = -1
    · rw [if_pos c]
      by_cases c2 : own T n nt = q
      · rw [if_pos c2]; right; exact ⟨n, by omega, rfl, c2⟩
      · rw [if_neg c2]; left; rfl
    · rw [if_neg c]
      rcases ihn with e | ⟨f, h1, h2, h3⟩
      · exact absurd e c
      · right; exact ⟨f, by omega, h2, h3⟩
theorem fof_stay {T : St} {nt : Nat} {q : Int32} {i : Nat} (h : ¬ fof T nt q i = -1) : ∀ n, i ≤ n → fof T nt q n = fof T nt q i := by
  intro n
  induction n with
  | zero => intro hn; have : i = 0 := by omega
            subst this; rfl
  | succ n ihn =>
    intro hn
    by_cases e : i = n + 1
    · subst e; rfl
    · rw [fof, ihn (by omega), if_neg h]
theorem firX {np nf nt td n : Nat} {S T : St} {q : Int32} (hLa : La np nf S T) (hTr : Tr np nf nt td S T) : ∀ (dd i fu : Nat), i + dd = nf → dd < fu → fof T nt q i = -1 → fX2_firstFieldOf_L2 n q S (fun x4 => some (-1)) fu (nI i) = some (fof T nt q nf) := by
  have h60' := hLa.1
  intro dd
  induction dd with
  | zero =>
    intro i fu hi hfu h
    obtain ⟨fu, rfl⟩ : ∃ g, fu = g + 1 := ⟨fu - 1, by omega⟩
    have e : i = nf := by omega
    subst e
    rw [fX2_firstFieldOf_L2, hLa.2.1, if_pos (nI_le (Nat.le_refl _) (by omega)), h]
  | succ dd ihd =>
    intro i fu hi hfu h
    obtain ⟨fu, rfl⟩ : ∃ g, fu = g + 1 := ⟨fu - 1, by omega⟩
    rw [fX2_firstFieldOf_L2, hLa.2.1, if_neg (nI_ge (show i < nf by omega) (by omega)), ig (show i < 60 by omega) (by omega), cl (by omega), hTr.2.2.2.2.2.2.2.2 i (by omega), nI_1]
    by_cases c : own T i nt = q
    · have e : fof T nt q (i + 1) = nI i := by rw [fof, if_pos h, if_pos c]
      rw [if_pos c, fof_stay (i := i + 1) (by rw [e]; exact nm1 (by omega)) nf (by omega), e]
    · rw [if_neg c]
      exact ihd (i + 1) fu (by omega) (by omega) (by rw [fof, if_pos h, if_neg c])
theorem firM {np nf nt td n : Nat} {S T : St} {q : Int32} (hn : 5000 ≤ n) (hLa : La np nf S T) (hTr : Tr np nf nt td S T) : ∀ (dd i fu : Nat), i + dd = nf → dd < fu → fof T nt q i = -1 → fX11_firstOf_L2 n q T (fun x4 => some (-1)) fu (nI i) = some (fof T nt q nf) := by
  have h60' := hLa.1
  intro dd
  induction dd with
  | zero =>
    intro i fu hi hfu h
    obtain ⟨fu, rfl⟩ : ∃ g, fu = g + 1 := ⟨fu - 1, by omega⟩
    have e : i = nf := by omega
    subst e
    rw [fX11_firstOf_L2, hLa.2.2.1, if_pos (nI_le (Nat.le_refl _) (by omega)), h]
  | succ dd ihd =>
    intro i fu hi hfu h
    obtain ⟨fu, rfl⟩ : ∃ g, fu = g + 1 := ⟨fu - 1, by omega⟩
    rw [fX11_firstOf_L2, hLa.2.2.1, if_neg (nI_ge (show i < nf by omega) (by omega)), (owner_eq hn hLa hTr (show i < nf by omega)).2, ob_s, nI_1]
    by_cases c : own T i nt = q
    · have e : fof T nt q (i + 1) = nI i := by rw [fof, if_pos h, if_pos c]
      rw [if_pos c, fof_stay (i := i + 1) (by rw [e]; exact nm1 (by omega)) nf (by omega), e]
    · rw [if_neg c]
      exact ihd (i + 1) fu (by omega) (by omega) (by rw [fof, if_pos h, if_neg c])
/-- the field that the j-th of the row has -/
def hvf (T : St) (nt nf p j : Nat) : Int32 := fof T nt (nI (p + j)) nf
def hsf (T : St) (nt nf p j : Nat) : Nat := (hvf T nt nf p j).toNatClampNeg
theorem hvf_ok {T : St} {nt nf p j : Nat} (hf : nf ≤ 60) (h : ¬ hvf T nt nf p j = -1) : hsf T nt nf p j < nf ∧ hvf T nt nf p j = nI (hsf T nt nf p j) ∧ own T (hsf T nt nf p j) nt = nI (p + j) := by
  rcases fof_in (T := T) (nt := nt) (q := nI (p + j)) nf with e | ⟨f, h1, h2, h3⟩
  · exact absurd e h
  · have e : hsf T nt nf p j = f := by unfold hsf hvf; rw [h2, cl (by omega)]
    rw [e]; exact ⟨h1, h2, h3⟩
def dRf (T : St) (p : Nat) (hs : Nat → Nat) (i j : Nat) : Nat := if (T.2.1 6 (p + i)).toNatClampNeg ≤ (T.2.1 8 (hs j)).toNatClampNeg then (T.2.1 8 (hs j)).toNatClampNeg - (T.2.1 6 (p + i)).toNatClampNeg else (T.2.1 6 (p + i)).toNatClampNeg - (T.2.1 8 (hs j)).toNatClampNeg
/-- a row of persons, each with a field -/
def RowR (np nf m p : Nat) (hs : Nat → Nat) : Prop := p + m ≤ np ∧ 2 ≤ m ∧ m ≤ 8 ∧ ∀ j, j < m → hs j < nf
theorem abR {np nf m p i j : Nat} {hs : Nat → Nat} {S T : St} (hPe : Pe np S T) (hLa : La np nf S T) (hw : RowR np nf m p hs) (hi : i < m) (hj : j < m) : (if (0 : Int32) ≤ T.2.1 8 (hs j) - T.2.1 6 (p + i) then T.2.1 8 (hs j) - T.2.1 6 (p + i) else 0 - (T.2.1 8 (hs j) - T.2.1 6 (p + i))) = nI (dRf T p hs i j) ∧ dRf T p hs i j ≤ 99 := by
  obtain ⟨w1, w2, w3, w4⟩ := hw
  obtain ⟨-, -, -, b, hb, eb⟩ := hPe.2.2.2 (p + i) (by omega)
  obtain ⟨-, -, -, -, -, ⟨a, ha, ea⟩, -⟩ := hLa.2.2.2 (hs j) (w4 j hj)
  unfold dRf
  rw [ea, eb, cl (by omega), cl (by omega), absd (by omega) (by omega)]
  refine ⟨rfl, ?_⟩
  split <;> omega
theorem dif_pos' {a b : Nat} (ha : a < 1000) (hb : b < 1000) : (0 < nI a - nI b ↔ b < a) ∧ (nI a - nI b < 0 ↔ a < b) ∧ (nI a - nI b = 0 ↔ a = b) := by
  have e := pk_sub_toInt (a := a) (b := b) (by omega) (by omega)
  have e0 : (0 : Int32).toInt = 0 := by decide
  refine ⟨?_, ?_, ?_⟩
  · rw [Int32.lt_iff_toInt_lt, e, e0]; omega
  · rw [Int32.lt_iff_toInt_lt, e, e0]; omega
  · rw [← Int32.toInt_inj, e, e0]; omega
/-- what the class holds while it closes rings -/
def RgX (m p : Nat) (hs : Nat → Nat) (S T : St) : Prop := S.1 19 = nI m ∧ ∀ j, j < m → S.2.1 25 j = T.2.1 6 (p + j) ∧ S.2.1 26 j = nI (hs j) ∧ S.2.1 27 j = T.2.1 8 (hs j)
theorem holdL {np nf nt td m p n i : Nat} {hs : Nat → Nat} {g : Nat → Int32} {S T : St} (hPe : Pe np S T) (hLa : La np nf S T) (hw : RowR np nf m p hs) (inj : Inj hs m) (hg : RgX m p hs S T) (h28 : ∀ j, j < m → S.2.1 28 j = g j) (hi : i < m) : ∀ (dd j fu b : Nat), b < m → g b = -1 → (∀ j', j' < j → g j' = -1 → j' ≠ b → wm (dRf T p hs) hs i b j') → j + dd = m → dd < fu → ∃ t, fX6_holderOfNearest_L4 n (nI i) S (fun x24 x25 => some x24) fu (nI b) (nI j) = some (nI t) ∧ isTp (dRf T p hs) hs m g i t := by
  obtain ⟨w1, w2, w3, w4⟩ := id hw
  have h60' := hLa.1
  intro dd
  induction dd with
  | zero =>
    intro j fu b hb gb hmin hj hfu
    obtain ⟨fu, rfl⟩ : ∃ g, fu = g + 1 := ⟨fu - 1, by omega⟩
    have e : j = m := by omega
    subst e
    refine ⟨b, ?_, hb, gb, hmin⟩
    rw [fX6_holderOfNearest_L4, hg.1, if_pos (nI_le (Nat.le_refl _) (by omega))]
  | succ dd ihd =>
    intro j fu b hb gb hmin hj hfu
    obtain ⟨fu, rfl⟩ : ∃ g, fu = g + 1 := ⟨fu - 1, by omega⟩
    have hjm : j < m := by omega
    obtain ⟨-, b26, b27⟩ := hg.2 b hb
    obtain ⟨-, j26, j27⟩ := hg.2 j hjm
    obtain ⟨i25, -, -⟩ := hg.2 i hi
    obtain ⟨ab, lb⟩ := abR hPe hLa hw hi hb
    obtain ⟨aj, lj⟩ := abR hPe hLa hw hi hjm
    obtain ⟨p1, p2, p3⟩ := dif_pos' (a := dRf T p hs i b) (b := dRf T p hs i j) (by omega) (by omega)
    have hsb := w4 b hb
    have hsj := w4 j hjm
    have up : g j = -1 → wm (dRf T p hs) hs i j b → ∃ t, fX6_holderOfNearest_L4 n (nI i) S (fun x24 x25 => some x24) fu (nI j) (nI (j + 1)) = some (nI t) ∧ isTp (dRf T p hs) hs m g i t := by
      intro gj w
      refine ihd (j + 1) fu j hjm gj (fun j' hj' ga hne => ?_) (by omega) (by omega)
      by_cases e : j' = b
      · rw [e]; exact w
      · have := hmin j' (by omega) ga e
        unfold wm at *; omega
    have stay : (g j = -1 → ¬ wm (dRf T p hs) hs i j b) → ∃ t, fX6_holderOfNearest_L4 n (nI i) S (fun x24 x25 => some x24) fu (nI b) (nI (j + 1)) = some (nI t) ∧ isTp (dRf T p hs) hs m g i t := by
      intro w
      refine ihd (j + 1) fu b hb gb (fun j' hj' ga hne => ?_) (by omega) (by omega)
      by_cases e : j' = j
      · have w' := w (by rw [← e]; exact ga)
        have hi2 := inj j b hjm hb
        rw [e] at hne ⊢
        unfold wm at *
        by_cases q : hs j = hs b
        · exact absurd (hi2 q) hne
        · omega
      · exact hmin j' (by omega) ga hne
    rw [fX6_holderOfNearest_L4, hg.1, if_neg (nI_ge hjm (by omega))]
    simp only [lt_, cl (show b < 2 ^ 31 by omega), cl (show j < 2 ^ 31 by omega), cl (show i < 2 ^ 31 by omega), ih (show b < 8 by omega) (show 8 < 2 ^ 31 by omega), ih (show j < 8 by omega) (show 8 < 2 ^ 31 by omega), ih (show i < 8 by omega) (show 8 < 2 ^ 31 by omega), b26, b27, j26, j27, i25, h28 j hjm, nI_1, ab, aj]
    by_cases c1 : dRf T p hs i j < dRf T p hs i b
    · rw [if_pos (p1.mpr c1)]
      by_cases ga : g j = -1
      · rw [if_pos ga]; exact up ga (Or.inl c1)
      · rw [if_neg ga]; exact stay (fun q => absurd q ga)
    · rw [if_neg (fun q => c1 (p1.mp q))]
      by_cases c2 : dRf T p hs i b = dRf T p hs i j
      · rw [if_pos (p3.mpr c2)]
        by_cases c3 : hs b ≤ hs j
        · rw [if_pos (nI_le c3 (by omega))]
          have := stay (fun _ q => by unfold wm at q; omega)
          split <;> exact this
        · rw [if_neg (nI_ge (by omega) (by omega))]
          by_cases ga : g j = -1
          · rw [if_pos ga]; exact up ga (Or.inr ⟨c2.symm, by omega⟩)
          · rw [if_neg ga]; exact stay (fun q => absurd q ga)
      · rw [if_neg (fun q => c2 (p3.mp q))]
        have := stay (fun _ q => by unfold wm at q; omega)
        split <;> exact this
theorem holdRX {np nf nt td m p n i : Nat} {hs : Nat → Nat} {g : Nat → Int32} {S T : St} (hn : 5000 ≤ n) (hPe : Pe np S T) (hLa : La np nf S T) (hw : RowR np nf m p hs) (inj : Inj hs m) (hg : RgX m p hs S T) (h28 : ∀ j, j < m → S.2.1 28 j = g j) (hi : i < m) (ga : g i = -1) : fX6_holderOfNearest n S (nI i) = some (nI (Pt (dRf T p hs) hs m g i)) := by
  have w3 := hw.2.2.1
  obtain ⟨t, e, h⟩ := holdL (nt := nt) (td := td) (n := n) hPe hLa hw inj hg h28 hi m 0 n i hi ga (fun j' hj' => by omega) (by omega) (by omega)
  unfold fX6_holderOfNearest
  rw [show fX6_holderOfNearest_L4 n (nI i) S (fun x24 x25 => some x24) n (nI i) 0 = some (nI t) from e, isTp_eq h (Pt_tp inj i hi ga)]
theorem eqX_s29 {S : St} {i : Nat} {v : Int32} : eqX S (sA S 29 i v) := eqX_sA (by omega)
theorem pointL {np nf nt td tl kp k n m p : Nat} {hs : Nat → Nat} {g : Nat → Int32} {T : St} {Fn : Nat → Nat → Int32} (hn : 5000 ≤ n) (hw : RowR np nf m p hs) (inj : Inj hs m) : ∀ (dd i fu : Nat) (S1 : St), RelP np nf nt td tl kp S1 k Fn T → RgX m p hs S1 T → (∀ j, j < m → S1.2.1 28 j = g j) → (∀ j, j < i → g j = -1 → S1.2.1 29 j = nI (Pt (dRf T p hs) hs m g j)) → i + dd = m → dd < fu → ∃ S', fX6_point_L2 n (fun x7 S8 => some S8) fu (nI i) S1 = some S' ∧ RelP np nf nt td tl kp S' k Fn T ∧ RgX m p hs S' T ∧ (∀ j, j < m → S'.2.1 28 j = g j) ∧ S'.1 20 = S1.1 20 ∧ ∀ j, j < m → g j = -1 → S'.2.1 29 j = nI (Pt (dRf T p hs) hs m g j) := by
  obtain ⟨w1, w2, w3, w4⟩ := id hw
  intro dd
  induction dd with
  | zero =>
    intro i fu S1 hR hg h28 h29 hi hfu
    obtain ⟨fu, rfl⟩ : ∃ g, fu = g + 1 := ⟨fu - 1, by omega⟩
    have e : i = m := by omega
    subst e
    exact ⟨S1, by rw [fX6_point_L2, hg.1, if_pos (nI_le (Nat.le_refl _) (by omega))], hR, hg, h28, rfl, h29⟩
  | succ dd ihd =>
    intro i fu S1 hR hg h28 h29 hi hfu
    obtain ⟨fu, rfl⟩ : ∃ g, fu = g + 1 := ⟨fu - 1, by omega⟩
    have hgc := hg.1
    rw [fX6_point_L2, hgc, if_neg (nI_ge (show i < m by omega) (by omega)), ig (show i < 8 by omega) (by omega), cl (show i < 2 ^ 31 by omega), h28 i (by omega), nI_1]
    by_cases ga : g i = -1
    · rw [if_pos ga, holdRX (nt := nt) (td := td) hn hR.1 hR.2.2.1 hw inj hg h28 (show i < m by omega) ga, ob_s, ih (show i < 8 by omega) (by omega)]
      simp only [lt_]
      have hot : ∀ a j, ¬ a = 29 → (sA S1 29 i (nI (Pt (dRf T p hs) hs m g i))).2.1 a j = S1.2.1 a j := fun a j ha => by rw [sA_2, if_neg ha]
      obtain ⟨S', a1, a2, a3, a4, a5, a6⟩ := ihd (i + 1) fu (sA S1 29 i (nI (Pt (dRf T p hs) hs m g i))) (hR.congr eqX_s29 (eqM.rf T)) ⟨hg.1, fun j hj => by rw [hot 25 j (by omega), hot 26 j (by omega), hot 27 j (by omega)]; exact hg.2 j hj⟩ (fun j hj => by rw [hot 28 j (by omega)]; exact h28 j hj) (fun j hj gj => by
        rw [sA_2, if_pos rfl]
        by_cases e : j = i
        · rw [if_pos e, e]
        · rw [if_neg e]; exact h29 j (by omega) gj) (by omega) (by omega)
      exact ⟨S', a1, a2, a3, a4, a5, a6⟩
    · rw [if_neg ga]
      exact ihd (i + 1) fu S1 hR hg h28 (fun j hj gj => by
        by_cases e : j = i
        · rw [e] at gj; exact absurd gj ga
        · exact h29 j (by omega) gj) (by omega) (by omega)
theorem itr_mod {P : Nat → Nat} {k i : Nat} (h : itr P k i = i) (r : Nat) : itr P r i = itr P (r % k) i := by
  have e : r = r % k + (r / k) * k := by rw [Nat.mul_comm, Nat.mod_add_div]
  rw (occs := .pos [1]) [e]
  rw [itr_add, itr_mul h]
theorem per_le {P : Nat → Nat} {m i : Nat} (hin : ∀ r, itr P r i < m) (hc : ∃ k, 0 < k ∧ itr P k i = i) : ∃ k, 0 < k ∧ k ≤ m ∧ itr P k i = i := by
  obtain ⟨k, k0, ek⟩ := hc
  obtain ⟨a, b, h1, h2, h3⟩ := hole m (fun r => itr P r i) (fun r _ => hin r)
  refine ⟨b - a, by omega, by omega, ?_⟩
  have hb := itr_back k0 ek a
  have e2 : itr P (a * (k - 1)) (itr P b i) = itr P (b - a) i := by
    rw [← itr_add, show a * (k - 1) + b = (b - a) + (a * (k - 1) + a) by omega, itr_add, itr_add (a * (k - 1)) a, hb]
  have h3' : itr P a i = itr P b i := h3
  rw [← e2, ← h3', hb]
def isLo (P : Nat → Nat) (i l : Nat) : Prop := (∃ r, itr P r i = l) ∧ ∀ r, l ≤ itr P r i
def onC (P : Nat → Nat) (i : Nat) : Prop := ∃ k, 0 < k ∧ itr P k i = i
theorem leastL {np nf m p n i : Nat} {hs : Nat → Nat} {g : Nat → Int32} {S T : St} (hw : RowR np nf m p hs) (inj : Inj hs m) (hg : RgX m p hs S T) (h29 : ∀ j, j < m → g j = -1 → S.2.1 29 j = nI (Pt (dRf T p hs) hs m g j)) (hi : i < m) (ga : g i = -1) : ∀ (dd s fu l : Nat), s + dd = m → dd < fu → (∃ r, r ≤ s ∧ itr (Pt (dRf T p hs) hs m g) r i = l) → (∀ r, r ≤ s → l ≤ itr (Pt (dRf T p hs) hs m g) r i) → (∀ r, 0 < r → r ≤ s → ¬ itr (Pt (dRf T p hs) hs m g) r i = i) → (onC (Pt (dRf T p hs) hs m g) i ∧ ∃ l', isLo (Pt (dRf T p hs) hs m g) i l' ∧ fX6_leastInRing_L12 n (nI i) S (fun x8 x9 x10 => if x9 = nI i then (some x8) else (some (-1))) fu (nI l) (nI (itr (Pt (dRf T p hs) hs m g) (s + 1) i)) (nI s) = some (nI l')) ∨ (¬ onC (Pt (dRf T p hs) hs m g) i ∧ fX6_leastInRing_L12 n (nI i) S (fun x8 x9 x10 => if x9 = nI i then (some x8) else (some (-1))) fu (nI l) (nI (itr (Pt (dRf T p hs) hs m g) (s + 1) i)) (nI s) = some (-1)) := by
  obtain ⟨w1, w2, w3, w4⟩ := id hw
  have hact := itr_act (d := dRf T p hs) inj hi ga
  have fin : ∀ s l, (∃ r, r ≤ s ∧ itr (Pt (dRf T p hs) hs m g) r i = l) → (∀ r, r ≤ s → l ≤ itr (Pt (dRf T p hs) hs m g) r i) → itr (Pt (dRf T p hs) hs m g) (s + 1) i = i → isLo (Pt (dRf T p hs) hs m g) i l := by
    intro s l ⟨r, h1, h2⟩ h3 h4
    refine ⟨⟨r, h2⟩, fun r => ?_⟩
    rw [itr_mod h4 r]
    exact h3 _ (by have := Nat.mod_lt r (show 0 < s + 1 by omega); omega)
  intro dd
  induction dd with
  | zero =>
    intro s fu l hs' hfu h1 h2 h3
    obtain ⟨fu, rfl⟩ : ∃ g, fu = g + 1 := ⟨fu - 1, by omega⟩
    have e : s = m := by omega
    rw [fX6_leastInRing_L12, hg.1, if_pos (nI_le (show m ≤ s by omega) (by omega))]
    by_cases c : itr (Pt (dRf T p hs) hs m g) (s + 1) i = i
    · left
      exact ⟨⟨s + 1, by omega, c⟩, l, fin s l h1 h2 c, by rw [c, if_pos rfl]⟩
    · right
      refine ⟨fun hc => ?_, by
        rw [if_neg (nI_ne (by have := (hact (s + 1)).1; omega) (by omega) c)]⟩
      obtain ⟨k, k0, km, ek⟩ := per_le (fun r => (hact r).1) hc
      exact h3 k k0 (by omega) ek
  | succ dd ihd =>
    intro s fu l hs' hfu h1 h2 h3
    obtain ⟨fu, rfl⟩ : ∃ g, fu = g + 1 := ⟨fu - 1, by omega⟩
    rw [fX6_leastInRing_L12, hg.1, if_neg (nI_ge (show s < m by omega) (by omega))]
    by_cases c : itr (Pt (dRf T p hs) hs m g) (s + 1) i = i
    · left
      exact ⟨⟨s + 1, by omega, c⟩, l, fin s l h1 h2 c, by rw [c, if_pos rfl, if_pos rfl]⟩
    · have ha := hact (s + 1)
      have hl : l < m := by
        obtain ⟨r, -, e⟩ := h1
        rw [← e]; exact (hact r).1
      rw [if_neg (nI_ne (by omega) (by omega) c)]
      simp only [lt_]
      rw [ig (show itr (Pt (dRf T p hs) hs m g) (s + 1) i < 8 by omega) (by omega), cl (by omega), h29 _ ha.1 ha.2, nI_1]
      have hmin : (if nI (itr (Pt (dRf T p hs) hs m g) (s + 1) i) < nI l then nI (itr (Pt (dRf T p hs) hs m g) (s + 1) i) else nI l) = nI (if itr (Pt (dRf T p hs) hs m g) (s + 1) i < l then itr (Pt (dRf T p hs) hs m g) (s + 1) i else l) := by
        by_cases q : itr (Pt (dRf T p hs) hs m g) (s + 1) i < l
        · rw [if_pos q, if_pos (nI_lt q (by omega))]
        · rw [if_neg q, if_neg (nI_nlt (by omega) (by omega))]
      rw [hmin]
      refine ihd (s + 1) fu _ (by omega) (by omega) ?_ (fun r hr => ?_) (fun r r0 hr => ?_)
      · by_cases q : itr (Pt (dRf T p hs) hs m g) (s + 1) i < l
        · rw [if_pos q]; exact ⟨s + 1, Nat.le_refl _, rfl⟩
        · rw [if_neg q]
          obtain ⟨r, e1, e2⟩ := h1
          exact ⟨r, by omega, e2⟩
      · by_cases er : r = s + 1
        · rw [er]; split <;> omega
        · have := h2 r (by omega)
          split <;> omega
      · by_cases er : r = s + 1
        · rw [er]; exact c
        · exact h3 r r0 (by omega)
theorem leastX2 {np nf m p n i : Nat} {hs : Nat → Nat} {g : Nat → Int32} {S T : St} (hn : 5000 ≤ n) (hw : RowR np nf m p hs) (inj : Inj hs m) (hg : RgX m p hs S T) (h29 : ∀ j, j < m → g j = -1 → S.2.1 29 j = nI (Pt (dRf T p hs) hs m g j)) (hi : i < m) (ga : g i = -1) : (onC (Pt (dRf T p hs) hs m g) i ∧ ∃ l', isLo (Pt (dRf T p hs) hs m g) i l' ∧ fX6_leastInRing n S (nI i) = some (nI l')) ∨ (¬ onC (Pt (dRf T p hs) hs m g) i ∧ fX6_leastInRing n S (nI i) = some (-1)) := by
  have w3 := hw.2.2.1
  unfold fX6_leastInRing
  rw [ig (show i < 8 by omega) (by omega), cl (show i < 2 ^ 31 by omega), h29 i hi ga]
  exact leastL (n := n) hw inj hg h29 hi ga m 0 n i (by omega) (by omega) ⟨0, Nat.le_refl _, rfl⟩ (fun r hr => by
    have : r = 0 := by omega
    subst this; exact Nat.le_refl _) (fun r r0 hr => by omega)
