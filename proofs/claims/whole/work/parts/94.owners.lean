theorem h200 : (200 : Nat) < 2 ^ 31 := by omega
theorem h60 : (60 : Nat) < 2 ^ 31 := by omega
theorem h40 : (40 : Nat) < 2 ^ 31 := by omega
/-- who owned the field f as the day d ended, by the first t transfers -/
def ownD (T : St) (f : Nat) (d : Int32) : Nat → Int32
  | 0 => T.2.1 12 f
  | t + 1 => if T.2.1 13 t = nI f then (if d < T.2.1 15 t then ownD T f d t else T.2.1 14 t) else ownD T f d t
theorem ownD_all {T : St} {f nt : Nat} {d : Int32} (h : ∀ t, t < nt → ¬ d < T.2.1 15 t) : ownD T f d nt = own T f nt := by
  induction nt with
  | zero => rfl
  | succ t iht =>
    unfold ownD own
    rw [iht (fun u hu => h u (by omega)), if_neg (h t (by omega))]
theorem ownD_stop {T : St} {f i : Nat} {d : Int32} : ∀ nt, i ≤ nt → (∀ u, i ≤ u → u < nt → d < T.2.1 15 u) → ownD T f d nt = ownD T f d i := by
  intro nt
  induction nt with
  | zero => intro hi _; have : i = 0 := by omega
            subst this; rfl
  | succ t iht =>
    intro hi h
    by_cases e : i = t + 1
    · subst e; rfl
    · unfold ownD
      rw [if_pos (h t (by omega) (by omega)), iht (by omega) (fun u h1 h2 => h u h1 (by omega))]
      split
      · cases i <;> rfl
      · cases i <;> rfl
theorem mOwnL {T : St} {n f nt : Nat} {d : Int32} {k : Int32 → Int32 → Option Int32} (hnt : nt ≤ 200) (h3 : T.1 3 = nI nt) : ∀ (dd i fu : Nat) (acc : Int32), i + dd = nt → dd < fu → acc = ownD T f d i → fX11_ownerOn_L10 n (nI f) d T k fu acc (nI i) = k (ownD T f d nt) (nI nt) := by
  intro dd
  induction dd with
  | zero =>
    intro i fu acc hi hfu hacc
    obtain ⟨fu, rfl⟩ : ∃ g, fu = g + 1 := ⟨fu - 1, by omega⟩
    have e : i = nt := by omega
    subst e
    rw [fX11_ownerOn_L10, h3, if_pos (nI_le (Nat.le_refl _) (by omega)), hacc]
  | succ dd ihd =>
    intro i fu acc hi hfu hacc
    obtain ⟨fu, rfl⟩ : ∃ g, fu = g + 1 := ⟨fu - 1, by omega⟩
    rw [fX11_ownerOn_L10, h3, if_neg (nI_ge (by omega) (by omega))]
    simp only [lt_, cl (show i < 2 ^ 31 by omega), ih (show i < 200 by omega) h200, nI_1]
    by_cases c1 : T.2.1 13 i = nI f
    · rw [if_pos c1]
      by_cases c2 : d < T.2.1 15 i
      · rw [if_pos c2]
        exact ihd (i + 1) fu acc (by omega) (by omega) (by rw [ownD, if_pos c1, if_pos c2, hacc])
      · rw [if_neg c2]
        exact ihd (i + 1) fu _ (by omega) (by omega) (by rw [ownD, if_pos c1, if_neg c2])
    · rw [if_neg c1]
      exact ihd (i + 1) fu acc (by omega) (by omega) (by rw [ownD, if_neg c1, hacc])
theorem mOwn {T : St} {n f nt : Nat} {d : Int32} (hn : 5000 ≤ n) (hf : f < 60) (hnt : nt ≤ 200) (h3 : T.1 3 = nI nt) : fX11_ownerOn n T (nI f) d = some (ownD T f d nt) := by
  unfold fX11_ownerOn
  simp only [lt_, cl (show f < 2 ^ 31 by omega), ih hf h60]
  exact mOwnL hnt h3 nt 0 n _ (by omega) (by omega) rfl
theorem xOwnL {S T : St} {np nf n f nt td : Nat} {d : Int32} (h : Tr np nf nt td S T) : ∀ (dd i fu : Nat) (acc : Int32), i + dd = nt → dd < fu → acc = ownD T f d i → fX2_ownerAsDayEnded_L22 n (nI f) d S (fun x _ => some x) fu acc (nI i) = some (ownD T f d nt) := by
  obtain ⟨t1, t2, t3, t4, t5, t6, t7, t8, t9⟩ := h
  intro dd
  induction dd with
  | zero =>
    intro i fu acc hi hfu hacc
    obtain ⟨fu, rfl⟩ : ∃ g, fu = g + 1 := ⟨fu - 1, by omega⟩
    have e : i = nt := by omega
    subst e
    rw [fX2_ownerAsDayEnded_L22, t2, if_pos (nI_le (Nat.le_refl _) (by omega)), hacc]
  | succ dd ihd =>
    intro i fu acc hi hfu hacc
    obtain ⟨fu, rfl⟩ : ∃ g, fu = g + 1 := ⟨fu - 1, by omega⟩
    obtain ⟨a1, a2, a3, -⟩ := t7 i (by omega)
    rw [fX2_ownerAsDayEnded_L22, t2, if_neg (nI_ge (by omega) (by omega))]
    simp only [lt_, cl (show i < 2 ^ 31 by omega), ih (show i < 200 by omega) h200, nI_1, a1, a2, a3]
    by_cases c2 : d < T.2.1 15 i
    · rw [if_pos c2, hacc, ownD_stop nt (by omega) (fun u h1 h2 => Int32.lt_of_lt_of_le c2 (t8 i u h1 h2))]
    · rw [if_neg c2]
      by_cases c1 : T.2.1 13 i = nI f
      · rw [if_pos c1]
        exact ihd (i + 1) fu _ (by omega) (by omega) (by rw [ownD, if_pos c1, if_neg c2])
      · rw [if_neg c1]
        exact ihd (i + 1) fu acc (by omega) (by omega) (by rw [ownD, if_neg c1, hacc])
theorem has1 {np : Nat} {S T : St} (h : Pe np S T) {j : Nat} (hj : j < np) : fX4_has S (nI j) = some 1 ∧ fX11_isPerson T (nI j) = some 1 := by
  have h1 := h.1
  rcases has_rng h (nI j) with ⟨q, -⟩ | ⟨-, -, -, q1, q2⟩
  · unfold fX4_has at q; rw [h.2.1, isB_ok (nI_pos (by omega)) (nI_ge hj (by omega))] at q; cases q
  · exact ⟨q1, q2⟩
theorem fld1 {np nf : Nat} {S T : St} (h : La np nf S T) {j : Nat} (hj : j < nf) : fX2_has S (nI j) = some 1 ∧ fX11_isField T (nI j) = some 1 := by
  have h1 := h.1
  rcases fld_rng h (nI j) with ⟨q, -⟩ | ⟨-, -, -, q1, q2⟩
  · unfold fX2_has at q; rw [h.2.1, isB_ok (nI_pos (by omega)) (nI_ge hj (by omega))] at q; cases q
  · exact ⟨q1, q2⟩
theorem q9 {n : Nat} (hn : 5000 ≤ n) : Q9 n Rel := by
  intro S k Fn T a1 a2 ⟨np, nf, nt, td, tl, kp, h⟩
  obtain ⟨hPe, hKi, hLa, hTr, hTa, hLw, hPr, hSl⟩ := id h
  have hR : Rel S k Fn T := ⟨np, nf, nt, td, tl, kp, h⟩
  have h60' := hLa.1
  have h200' := hTr.1
  unfold fX10_owned fX11_owned
  rcases fld_rng hLa a1 with ⟨e1, e2⟩ | ⟨f, hf, rfl, e1, e2⟩
  · rw [e1, e2]; exact ⟨-1, rfl, rfl, hR⟩
  rw [e1, e2, ob_s, ob_s, i10, i10]
  by_cases c1 : a2 < 0
  · rw [if_pos c1, isI_lo c1]; exact ⟨-1, rfl, rfl, hR⟩
  rw [if_neg c1]
  by_cases c2 : a2 ≤ 1000
  · rw [if_pos c2, isI_ok c1 (Int32.not_lt.mpr c2), ob_s, i10, mOwn hn (by omega) h200' hTr.2.2.1]
    refine ⟨ownD T f a2 nt, ?_, rfl, hR⟩
    unfold fX2_ownerAsDayEnded
    rw [e1, ob_s, i10]
    simp only [lt_, cl (show f < 2 ^ 31 by omega), ih (show f < 60 by omega) h60]
    have e9 : fX2_ownerAsDayEnded_L22 n (nI f) a2 S (fun x14 x15 => some x14) n (S.2.1 6 f) 0 = some (ownD T f a2 nt) := xOwnL (n := n) (f := f) (d := a2) hTr nt 0 n (S.2.1 6 f) (by omega) (by omega) (by rw [(hLa.2.2.2 f hf).2.2.2.2.1]; rfl)
    rw [e9]
    rfl
  · rw [if_neg c2, isI_hi (Int32.not_le.mp c2)]; exact ⟨-1, rfl, rfl, hR⟩
/-- a transfer, on both sides -/
def mvX (S : St) (nt f p td : Nat) : St := sA (sS (sA (sA (sA S 8 nt (nI f)) 9 nt (nI p)) 10 nt (nI td)) 4 (nI (nt + 1))) 7 f (nI p)
def mvM (T : St) (nt f p td : Nat) : St := sS (sA (sA (sA T 13 nt (nI f)) 14 nt (nI p)) 15 nt (nI td)) 3 (nI (nt + 1))
theorem mvX_f {np nf nt td : Nat} {S T : St} (hLa : La np nf S T) (hTr : Tr np nf nt td S T) {f p : Nat} (hf : f < nf) (hnt : nt < 200) : fX2_move S (nI f) (nI p) = some (mvX S nt f p td) := by
  obtain ⟨t1, t2, t3, t4, t5, t6, t7, t8, t9⟩ := hTr
  have h60' := hLa.1
  unfold fX2_move
  rw [(fld1 hLa hf).1, ob_s, i10, if_pos (by rw [t2]; exact nI_lt (b := 200) hnt (by omega))]
  simp only [lt_, sA_1, t2, t5, cl (show nt < 2 ^ 31 by omega), cl (show f < 2 ^ 31 by omega), ih hnt h200, ih (show f < 60 by omega) h60, nI_1]
  rfl
theorem mvM_f {np nf nt td : Nat} {S T : St} (hTr : Tr np nf nt td S T) {f p : Nat} (hnt : nt < 200) : fX11_goes T (nI f) (nI p) = some (mvM T nt f p td) := by
  obtain ⟨t1, t2, t3, t4, t5, t6, t7, t8, t9⟩ := hTr
  unfold fX11_goes
  simp only [lt_, sA_1, t3, t6, cl (show nt < 2 ^ 31 by omega), ih hnt h200, nI_1]
  rfl
theorem own_mv {T : St} {nt f p td g : Nat} : ∀ t, t ≤ nt → own (mvM T nt f p td) g t = own T g t := by
  intro t
  induction t with
  | zero => intro _; rfl
  | succ t iht =>
    intro ht
    unfold own
    rw [iht (by omega)]
    have e1 : (mvM T nt f p td).2.1 13 t = T.2.1 13 t := by
      unfold mvM; simp [sS_2, sA_2, show ¬ t = nt by omega]
    have e2 : (mvM T nt f p td).2.1 14 t = T.2.1 14 t := by
      unfold mvM; simp [sS_2, sA_2, show ¬ t = nt by omega]
    rw [e1, e2]
theorem mv_rel {np nf nt td tl kp k : Nat} {S T : St} {Fn : Nat → Nat → Int32} (h : RelP np nf nt td tl kp S k Fn T) {f p : Nat} (hf : f < nf) (hp : p < np) (hnt : nt < 200) : RelP np nf (nt + 1) td tl kp (mvX S nt f p td) k Fn (mvM T nt f p td) := by
  obtain ⟨hPe, hKi, hLa, hTr, hTa, hLw, hPr, hSl⟩ := h
  obtain ⟨t1, t2, t3, t4, t5, t6, t7, t8, t9⟩ := hTr
  have h60' := hLa.1
  have h40' := hPe.1
  have m13 : ∀ i, (mvM T nt f p td).2.1 13 i = if i = nt then nI f else T.2.1 13 i := fun i => by unfold mvM; simp [sS_2, sA_2]
  have m14 : ∀ i, (mvM T nt f p td).2.1 14 i = if i = nt then nI p else T.2.1 14 i := fun i => by unfold mvM; simp [sS_2, sA_2]
  have m15 : ∀ i, (mvM T nt f p td).2.1 15 i = if i = nt then nI td else T.2.1 15 i := fun i => by unfold mvM; simp [sS_2, sA_2]
  have x8 : ∀ i, (mvX S nt f p td).2.1 8 i = if i = nt then nI f else S.2.1 8 i := fun i => by unfold mvX; simp [sS_2, sA_2]
  have x9 : ∀ i, (mvX S nt f p td).2.1 9 i = if i = nt then nI p else S.2.1 9 i := fun i => by unfold mvX; simp [sS_2, sA_2]
  have x10 : ∀ i, (mvX S nt f p td).2.1 10 i = if i = nt then nI td else S.2.1 10 i := fun i => by unfold mvX; simp [sS_2, sA_2]
  have x7 : ∀ i, (mvX S nt f p td).2.1 7 i = if i = f then nI p else S.2.1 7 i := fun i => by unfold mvX; simp [sS_2, sA_2]
  refine ⟨hPe, hKi, hLa, ⟨by omega, rfl, rfl, t4, t5, t6, fun i hi => ?_, fun i j hij hj => ?_, fun g hg => ?_⟩, hTa, hLw, hPr, hSl⟩
  · rw [x8, x9, x10, m13, m14, m15]
    by_cases e : i = nt
    · simp only [if_pos e]
      exact ⟨trivial, trivial, trivial, ⟨f, hf, rfl⟩, ⟨p, hp, rfl⟩, td, Nat.le_refl _, rfl⟩
    · simp only [if_neg e]
      exact t7 i (by omega)
  · rw [m15, m15]
    by_cases ej : j = nt
    · rw [if_pos ej]
      by_cases ei : i = nt
      · rw [if_pos ei]; exact Int32.le_refl _
      · rw [if_neg ei]
        obtain ⟨-, -, -, -, -, q, hq, e⟩ := t7 i (by omega)
        rw [e]; exact nI_le hq (by omega)
    · rw [if_neg ej, if_neg (by omega)]
      exact t8 i j hij (by omega)
  · rw [x7]
    unfold own
    rw [m13, m14, if_pos rfl, if_pos rfl, own_mv nt (Nat.le_refl _)]
    by_cases e : g = f
    · rw [if_pos e, if_pos (by rw [e])]
    · rw [if_neg e, if_neg (nI_ne (by omega) (by omega) (fun q => e q.symm))]
      exact t9 g hg
theorem owner_eq {np nf nt td n : Nat} {S T : St} (hn : 5000 ≤ n) (hLa : La np nf S T) (hTr : Tr np nf nt td S T) {f : Nat} (hf : f < nf) : fX2_ownerOf S (nI f) = some (own T f nt) ∧ fX11_owner n T (nI f) = some (own T f nt) := by
  obtain ⟨t1, t2, t3, t4, t5, t6, t7, t8, t9⟩ := id hTr
  have h60' := hLa.1
  constructor
  · unfold fX2_ownerOf
    rw [(fld1 hLa hf).1, ob_s, i10, ig (show f < 60 by omega) h60, cl (by omega), t9 f hf]
  · unfold fX11_owner
    rw [mOwn hn (by omega) t1 t3, ob_s, ownD_all (fun t ht => ?_)]
    obtain ⟨-, -, -, -, -, q, hq, e⟩ := t7 t ht
    rw [e, t6]; exact nI_nlt hq (by omega)
theorem q4 {n : Nat} (hn : 5000 ≤ n) : Q4 n Rel := by
  intro S k Fn T a1 a2 ⟨np, nf, nt, td, tl, kp, h⟩
  obtain ⟨hPe, hKi, hLa, hTr, hTa, hLw, hPr, hSl⟩ := id h
  have hR : Rel S k Fn T := ⟨np, nf, nt, td, tl, kp, h⟩
  have hno : (∃ (r : Int32) (S' T' : St), some ((0 : Int32), S) = some (r, S') ∧ some ((0 : Int32), T) = some (r, T') ∧ Rel S' k Fn T') := ⟨0, S, T, rfl, rfl, hR⟩
  unfold fX10_transfer fX11_transfer
  rcases fld_rng hLa a1 with ⟨e1, e2⟩ | ⟨f, hf, rfl, e1, e2⟩
  · rw [e1, e2]; exact hno
  rw [e1, e2, ob_s, ob_s, i10, i10]
  rcases has_rng hPe a2 with ⟨e3, e4⟩ | ⟨p, hp, rfl, e3, e4⟩
  · rw [e3, e4]; exact hno
  obtain ⟨o1, o2⟩ := owner_eq hn hLa hTr hf
  rw [e3, e4, ob_s, ob_s, i10, i10, o1, o2, ob_s, ob_s]
  by_cases c1 : own T f nt = nI p
  · rw [if_pos c1, if_pos c1]; exact hno
  rw [if_neg c1, if_neg c1]
  unfold fX2_transfersLeft
  rw [ob_s, hTr.2.1, hTr.2.2.1]
  have h200' := hTr.1
  rcases Nat.lt_or_ge nt 200 with q | q
  · rw [show (200 : Int32) = nI 200 from rfl, pk_sub h200', if_pos (show (1 : Int32) ≤ nI (200 - nt) from nI_le (a := 1) (by omega) (by omega)), if_neg (nI_ne (by omega) (by omega) (by omega)), mvX_f hLa hTr hf q, mvM_f hTr q, ob_s, ob_s]
    exact ⟨1, _, _, rfl, rfl, np, nf, nt + 1, td, tl, kp, mv_rel h hf hp q⟩
  · have e : nt = 200 := by omega
    subst e
    rw [if_neg (by decide), if_pos (by decide)]
    exact hno
