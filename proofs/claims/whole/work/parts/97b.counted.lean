/-! whom a field counts for -/
abbrev fam (T : St) (p o : Nat) : Prop := T.2.1 5 p = T.2.1 5 o ∨ ¬ T.2.1 7 (40 * p + o) = 0
def cst (T : St) (f t : Nat) (o : Int32) : Int32 := if fam T (T.2.1 14 t).toNatClampNeg o.toNatClampNeg then o else T.2.1 14 t
def cnt (T : St) (f : Nat) (d : Int32) : Nat → Int32
  | 0 => T.2.1 12 f
  | t + 1 => if T.2.1 13 t = nI f then (if d < T.2.1 15 t then cst T f t (cnt T f d t) else T.2.1 14 t) else cnt T f d t
def cntM (T : St) (f nt : Nat) (d : Int32) : Nat → Int32
  | 0 => ownD T f d nt
  | t + 1 => if T.2.1 13 t = nI f then (if d < T.2.1 15 t then cst T f t (cntM T f nt d t) else cntM T f nt d t) else cntM T f nt d t
theorem cnt_own {T : St} {f : Nat} {d : Int32} : ∀ t, (∀ u, u < t → ¬ d < T.2.1 15 u) → cnt T f d t = ownD T f d t := by
  intro t
  induction t with
  | zero => intro _; rfl
  | succ t iht =>
    intro h
    rw [cnt, ownD, iht (fun u hu => h u (by omega)), if_neg (h t (by omega)), if_neg (h t (by omega))]
theorem cntM_own {T : St} {f nt : Nat} {d : Int32} : ∀ t, (∀ u, u < t → ¬ d < T.2.1 15 u) → cntM T f nt d t = ownD T f d nt := by
  intro t
  induction t with
  | zero => intro _; rfl
  | succ t iht =>
    intro h
    rw [cntM, iht (fun u hu => h u (by omega)), if_neg (h t (by omega))]
    split <;> rfl
theorem cntM_eq {T : St} {f nt : Nat} {d : Int32} (hs : ∀ i j, i ≤ j → j < nt → T.2.1 15 i ≤ T.2.1 15 j) : ∀ t, t ≤ nt → cntM T f nt d t = cnt T f d t ∨ ∀ u, u < t → ¬ d < T.2.1 15 u := by
  intro t
  induction t with
  | zero => intro _; right; intro u hu; omega
  | succ t iht =>
    intro ht
    have step : cntM T f nt d t = cnt T f d t → d < T.2.1 15 t → cntM T f nt d (t + 1) = cnt T f d (t + 1) := by
      intro e c
      rw [cntM, cnt, e, if_pos c, if_pos c]
    by_cases c : d < T.2.1 15 t
    · left
      apply step _ c
      rcases iht (by omega) with e | e
      · exact e
      · rw [cntM_own t e, cnt_own t e]
        exact ownD_stop nt (by omega) (fun u h1 h2 => Int32.lt_of_lt_of_le c (hs t u h1 h2))
    · right
      intro u hu
      by_cases e : u = t
      · rw [e]; exact c
      · intro q
        exact c (Int32.lt_of_lt_of_le q (hs u t (by omega) (by omega)))
theorem cntM_end {T : St} {f nt : Nat} {d : Int32} (hs : ∀ i j, i ≤ j → j < nt → T.2.1 15 i ≤ T.2.1 15 j) : cntM T f nt d nt = cnt T f d nt := by
  rcases cntM_eq (f := f) (d := d) hs nt (Nat.le_refl _) with e | e
  · exact e
  · rw [cntM_own nt e, cnt_own nt e]
theorem ownD_in {np nf nt td f : Nat} {S T : St} {d : Int32} (hLa : La np nf S T) (hTr : Tr np nf nt td S T) (hf : f < nf) : ∀ t, t ≤ nt → ∃ p, p < np ∧ ownD T f d t = nI p := by
  intro t
  induction t with
  | zero => intro _; exact (hLa.2.2.2 f hf).2.2.2.2.2.2.2.2.2
  | succ t iht =>
    intro ht
    rw [ownD]
    split
    · split
      · exact iht (by omega)
      · exact (hTr.2.2.2.2.2.2.1 t (by omega)).2.2.2.2.1
    · exact iht (by omega)
theorem cst_in {np nf nt td f t : Nat} {S T : St} {o : Int32} (hTr : Tr np nf nt td S T) (ht : t < nt) (h : ∃ p, p < np ∧ o = nI p) : ∃ p, p < np ∧ cst T f t o = nI p := by
  unfold cst
  split
  · exact h
  · exact (hTr.2.2.2.2.2.2.1 t ht).2.2.2.2.1
theorem cnt_in {np nf nt td f : Nat} {S T : St} {d : Int32} (hLa : La np nf S T) (hTr : Tr np nf nt td S T) (hf : f < nf) : ∀ t, t ≤ nt → ∃ p, p < np ∧ cnt T f d t = nI p := by
  intro t
  induction t with
  | zero => intro _; exact (hLa.2.2.2 f hf).2.2.2.2.2.2.2.2.2
  | succ t iht =>
    intro ht
    rw [cnt]
    split
    · split
      · exact cst_in hTr (by omega) (iht (by omega))
      · exact (hTr.2.2.2.2.2.2.1 t (by omega)).2.2.2.2.1
    · exact iht (by omega)
theorem cntM_in {np nf nt td f : Nat} {S T : St} {d : Int32} (hLa : La np nf S T) (hTr : Tr np nf nt td S T) (hf : f < nf) : ∀ t, t ≤ nt → ∃ p, p < np ∧ cntM T f nt d t = nI p := by
  intro t
  induction t with
  | zero => intro _; exact ownD_in hLa hTr hf nt (Nat.le_refl _)
  | succ t iht =>
    intro ht
    rw [cntM]
    split
    · split
      · exact cst_in hTr (by omega) (iht (by omega))
      · exact iht (by omega)
    · exact iht (by omega)
theorem houseX {np p : Nat} {S T : St} (hPe : Pe np S T) (hp : p < np) : fX4_houseOf S (nI p) = some (T.2.1 5 p) := by
  have h1 := hPe.1
  unfold fX4_houseOf
  rw [(has1 hPe hp).1, ob_s, i10, ig (show p < 40 by omega) (by omega), cl (by omega), (hPe.2.2.2 p hp).1]
theorem famX {np p o : Nat} {S T : St} (hPe : Pe np S T) (hKi : Ki S T) (hp : p < np) (ho : o < np) : fX4_areOfOneFamily S (nI p) (nI o) = some (if fam T p o then 1 else 0) := by
  unfold fX4_areOfOneFamily
  rw [houseX hPe hp, ob_s, houseX hPe ho, ob_s]
  by_cases c : T.2.1 5 p = T.2.1 5 o
  · rw [if_pos c, if_pos (show fam T p o from Or.inl c)]
  · rw [if_neg c]
    rcases kin_at hPe hKi hp ho with ⟨k1, k2⟩ | ⟨k1, k2⟩
    · rw [k1, ob_s, i10, if_pos (show fam T p o from Or.inr (by rw [k2]; decide))]
    · rw [k1, ob_s, i00, if_neg (show ¬ fam T p o from fun q => q.elim c (fun z => z k2))]
theorem cntML {np nf nt td f n : Nat} {S T : St} {K : Int32 → Int32 → Option Int32} (hPe : Pe np S T) (hLa : La np nf S T) (hTr : Tr np nf nt td S T) (hf : f < nf) : ∀ (dd i fu : Nat) (acc : Int32), i + dd = nt → dd < fu → acc = cntM T f nt (T.2.1 16 2) i → fX11_counted_L14 n (nI f) T K fu acc (nI i) = K (cntM T f nt (T.2.1 16 2) nt) (nI nt) := by
  obtain ⟨t1, t2, t3, t4, t5, t6, t7, t8, t9⟩ := id hTr
  have h40 := hPe.1
  intro dd
  induction dd with
  | zero =>
    intro i fu acc hi hfu hacc
    obtain ⟨fu, rfl⟩ : ∃ g, fu = g + 1 := ⟨fu - 1, by omega⟩
    have e : i = nt := by omega
    subst e
    rw [fX11_counted_L14, t3, if_pos (nI_le (Nat.le_refl _) (by omega)), hacc]
  | succ dd ihd =>
    intro i fu acc hi hfu hacc
    obtain ⟨fu, rfl⟩ : ∃ g, fu = g + 1 := ⟨fu - 1, by omega⟩
    rw [fX11_counted_L14, t3, if_neg (nI_ge (by omega) (by omega))]
    simp only [lt_, cl (show i < 2 ^ 31 by omega), ih (show i < 200 by omega) h200, nI_1, show Int32.toNatClampNeg 2 = 2 by decide]
    by_cases c1 : T.2.1 13 i = nI f
    · rw [if_pos c1]
      by_cases c2 : T.2.1 16 2 < T.2.1 15 i
      · rw [if_pos c2]
        obtain ⟨-, -, -, -, ⟨p, hp, ep⟩, -⟩ := t7 i (by omega)
        obtain ⟨o, ho, eo⟩ := cntM_in (d := T.2.1 16 2) hLa hTr hf i (by omega)
        rw [eo] at hacc
        have es : cntM T f nt (T.2.1 16 2) (i + 1) = if fam T p o then nI o else nI p := by
          rw [cntM, if_pos c1, if_pos c2, cst, eo, ep, cl (by omega), cl (by omega)]
        rw [ep, hacc, ig (show p < 40 by omega) (by omega), ig (show o < 40 by omega) (by omega), cl (show p < 2 ^ 31 by omega), cl (show o < 2 ^ 31 by omega), show ((40 : Int32) * nI p) = nI (40 * p) from pk_mul 40 p, nI_add, ig (show 40 * p + o < 1600 by omega) (by omega), cl (show 40 * p + o < 2 ^ 31 by omega)]
        by_cases c3 : T.2.1 5 p = T.2.1 5 o
        · rw [if_pos c3]
          exact ihd (i + 1) fu _ (by omega) (by omega) (by rw [es, if_pos (show fam T p o from Or.inl c3)])
        · rw [if_neg c3]
          by_cases c4 : T.2.1 7 (40 * p + o) = 0
          · rw [if_pos c4]
            exact ihd (i + 1) fu _ (by omega) (by omega) (by rw [es, if_neg (show ¬ fam T p o from fun q => q.elim c3 (fun z => z c4))])
          · rw [if_neg c4]
            exact ihd (i + 1) fu _ (by omega) (by omega) (by rw [es, if_pos (show fam T p o from Or.inr c4)])
      · rw [if_neg c2]
        exact ihd (i + 1) fu _ (by omega) (by omega) (by rw [cntM, if_pos c1, if_neg c2, hacc])
    · rw [if_neg c1]
      exact ihd (i + 1) fu acc (by omega) (by omega) (by rw [cntM, if_neg c1, hacc])
/-- whom the field counts for -/
def cown (T : St) (f nt : Nat) : Int32 := cnt T f (T.2.1 16 2) nt
theorem counted_M {np nf nt td f n : Nat} {S T : St} (hn : 5000 ≤ n) (hPe : Pe np S T) (hLa : La np nf S T) (hTr : Tr np nf nt td S T) (hf : f < nf) : fX11_counted n T (nI f) = some (cown T f nt) := by
  have h60' := hLa.1
  have t1 := hTr.1
  unfold fX11_counted cown
  rw [show Int32.toNatClampNeg 2 = 2 by decide, mOwn hn (by omega) t1 hTr.2.2.1, ob_s]
  have := cntML (n := n) (K := fun x14 x15 => some x14) hPe hLa hTr hf nt 0 n _ (by omega) (by omega) rfl
  rw [cntM_end hTr.2.2.2.2.2.2.2.1] at this
  exact this
theorem cownXL {np nf nt td tl kp k n : Nat} {S T : St} {Fn : Nat → Nat → Int32} : ∀ (dd i fu : Nat) (S1 : St), RelP np nf nt td tl kp S1 k Fn T → (∀ f, f < nf → S1.2.1 12 f = cnt T f (T.2.1 16 2) i) → eqX S S1 → (∀ a, ¬ a = 12 → S1.2.1 a = S.2.1 a) → S1.1 = S.1 → i + dd = nt → dd < fu → ∃ S', fX1_countOwners_L20 n (fun x21 S22 => some S22) fu (nI i) S1 = some S' ∧ eqX S S' ∧ (∀ a, ¬ a = 12 → S'.2.1 a = S.2.1 a) ∧ S'.1 = S.1 ∧ ∀ f, f < nf → S'.2.1 12 f = cown T f nt := by
  intro dd
  induction dd with
  | zero =>
    intro i fu S1 h hc hx hx2 hx3 hi hfu
    obtain ⟨fu, rfl⟩ : ∃ g, fu = g + 1 := ⟨fu - 1, by omega⟩
    have e : i = nt := by omega
    subst e
    have hTr := h.2.2.2.1
    have t1 := hTr.1
    exact ⟨S1, by rw [fX1_countOwners_L20, hTr.2.1, if_pos (nI_le (Nat.le_refl _) (by omega))], hx, hx2, hx3, hc⟩
  | succ dd ihd =>
    intro i fu S1 h hc hx hx2 hx3 hi hfu
    obtain ⟨fu, rfl⟩ : ∃ g, fu = g + 1 := ⟨fu - 1, by omega⟩
    obtain ⟨hPe, hKi, hLa, hTr, hTa, hLw, hPr, hSl⟩ := id h
    obtain ⟨t1, t2, t3, t4, t5, t6, t7, t8, t9⟩ := id hTr
    have h40 := hPe.1
    have h60' := hLa.1
    obtain ⟨a1, a2, a3, ⟨f, hf, ef⟩, ⟨p, hp, ep⟩, -⟩ := t7 i (by omega)
    have hset : ∀ v : Int32, (∀ g, g < nf → (if g = f then v else cnt T g (T.2.1 16 2) i) = cnt T g (T.2.1 16 2) (i + 1)) → ∃ S', fX1_countOwners_L20 n (fun x21 S22 => some S22) fu (nI (i + 1)) (sA S1 12 f v) = some S' ∧ eqX S S' ∧ (∀ a, ¬ a = 12 → S'.2.1 a = S.2.1 a) ∧ S'.1 = S.1 ∧ ∀ f, f < nf → S'.2.1 12 f = cown T f nt := by
      intro v hv
      have hq : ∀ a, ¬ a = 12 → (sA S1 12 f v).2.1 a = S1.2.1 a := fun a ha => by funext j; rw [sA_2, if_neg ha]
      have hx' : eqX S1 (sA S1 12 f v) := ⟨fun _ _ => rfl, fun a ha => hq a (by omega), rfl⟩
      refine ihd (i + 1) fu _ (h.congr hx' (eqM.rf T)) (fun g hg => ?_) (hx.tr hx') (fun a ha => (hq a ha).trans (hx2 a ha)) hx3 (by omega) (by omega)
      rw [sA_2, if_pos rfl, ← hv g hg]
      split
      · rfl
      · exact hc g hg
    have hsame : (∀ g, g < nf → cnt T g (T.2.1 16 2) i = cnt T g (T.2.1 16 2) (i + 1)) → ∃ S', fX1_countOwners_L20 n (fun x21 S22 => some S22) fu (nI (i + 1)) S1 = some S' ∧ eqX S S' ∧ (∀ a, ¬ a = 12 → S'.2.1 a = S.2.1 a) ∧ S'.1 = S.1 ∧ ∀ f, f < nf → S'.2.1 12 f = cown T f nt :=
      fun hv => ihd (i + 1) fu _ h (fun g hg => (hc g hg).trans (hv g hg)) hx hx2 hx3 (by omega) (by omega)
    rw [fX1_countOwners_L20, t2, if_neg (nI_ge (by omega) (by omega))]
    simp only [lt_, cl (show i < 2 ^ 31 by omega), ih (show i < 200 by omega) h200, nI_1, a1, a2, a3, ef, ep]
    rw [hLa.2.1, isB_ok (nI_pos (by omega)) (nI_ge hf (by omega)), ob_s, i10, hLw.2.2.1]
    simp only [cl (show f < 2 ^ 31 by omega), ih (show f < 60 by omega) h60, hc f hf]
    have hoth : ∀ g, g < nf → ¬ g = f → cnt T g (T.2.1 16 2) (i + 1) = cnt T g (T.2.1 16 2) i := by
      intro g hg hne
      rw [cnt, ef, if_neg (nI_ne (by omega) (by omega) (fun q => hne q.symm))]
    by_cases c2 : T.2.1 16 2 < T.2.1 15 i
    · rw [if_pos c2]
      obtain ⟨o, ho, eo⟩ := cnt_in (d := T.2.1 16 2) hLa hTr hf i (by omega)
      have es : cnt T f (T.2.1 16 2) (i + 1) = if fam T p o then nI o else nI p := by
        rw [cnt, if_pos ef, if_pos c2, cst, eo, ep, cl (by omega), cl (by omega)]
      rw [eo, famX hPe hKi hp ho, ob_s]
      by_cases c3 : fam T p o
      · rw [if_pos c3, i10]
        apply hsame
        intro g hg
        by_cases e : g = f
        · subst e; rw [es, if_pos c3, eo]
        · exact (hoth g hg e).symm
      · rw [if_neg c3, i00]
        apply hset
        intro g hg
        by_cases e : g = f
        · subst e; rw [if_pos rfl, es, if_neg c3]
        · rw [if_neg e]; exact (hoth g hg e).symm
    · rw [if_neg c2]
      apply hset
      intro g hg
      by_cases e : g = f
      · subst e; rw [if_pos rfl, cnt, if_pos ef, if_neg c2, ep]
      · rw [if_neg e]; exact (hoth g hg e).symm
theorem cown_X {np nf nt td tl kp k n : Nat} {S T : St} {Fn : Nat → Nat → Int32} (hn : 5000 ≤ n) (h : RelP np nf nt td tl kp S k Fn T) : ∃ S', fX1_countOwners n S = some S' ∧ eqX S S' ∧ (∀ a, ¬ a = 12 → S'.2.1 a = S.2.1 a) ∧ S'.1 = S.1 ∧ ∀ f, f < nf → S'.2.1 12 f = cown T f nt := by
  obtain ⟨hPe, hKi, hLa, hTr, hTa, hLw, hPr, hSl⟩ := id h
  have h60' := hLa.1
  have t1 := hTr.1
  unfold fX1_countOwners
  rw [hLa.2.1, cl (by omega), if_neg (fun q => q.elim (nI_pos (by omega)) (by omega))]
  simp only [lt_]
  have hq : ∀ a, ¬ a = 12 → (sR S 12 (va_cpy (S.2.1 6) (S.2.1 12) 0 0 nf)).2.1 a = S.2.1 a := fun a ha => by rw [sR_2, if_neg ha]
  have hx' : eqX S (sR S 12 (va_cpy (S.2.1 6) (S.2.1 12) 0 0 nf)) := ⟨fun _ _ => rfl, fun a ha => hq a (by omega), rfl⟩
  refine cownXL (n := n) nt 0 n _ (h.congr hx' (eqM.rf T)) (fun f hf => ?_) hx' hq rfl (by omega) (by omega)
  rw [sR_2, if_pos rfl, pk_cpy_in (Nat.zero_le _) (by omega), Nat.zero_add, Nat.sub_zero, (hLa.2.2.2 f hf).2.2.2.2.1]
  rfl
