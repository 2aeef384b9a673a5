/-! what counts as a house's land -/
theorem eqX_sS {S : St} {k : Nat} {v : Int32} (h : ¬ (k < 7 ∨ k = 10 ∨ k = 17 ∨ (21 ≤ k ∧ k < 29))) : eqX S (sS S k v) := ⟨fun j hj => by rw [sS_1, if_neg (by intro q; subst q; exact h hj)], fun _ _ => rfl, rfl⟩
theorem eqX_sA {S : St} {a i : Nat} {v : Int32} (h : ¬ (a < 12 ∨ (16 ≤ a ∧ a < 19) ∨ a = 30)) : eqX S (sA S a i v) := ⟨fun _ _ => rfl, fun c hc => by
  funext j; rw [sA_2, if_neg (by intro q; subst q; exact h hc)], rfl⟩
theorem eqM_sS {T : St} {k : Nat} {v : Int32} (h : ¬ (k < 21 ∨ k = 23 ∨ k = 29 ∨ k = 38)) : eqM T (sS T k v) := ⟨fun j hj => by rw [sS_1, if_neg (by intro q; subst q; exact h hj)], fun _ _ => rfl, fun _ _ => rfl⟩
theorem eqM_sR {T : St} {a : Nat} {g : Nat → Int32} (h : ¬ (a < 17 ∨ a = 18 ∨ (30 ≤ a ∧ a < 33) ∨ (39 ≤ a ∧ a < 47))) : eqM T (sR T a g) := ⟨fun _ _ => rfl, fun c hc => by
  rw [sR_2, if_neg (by intro q; subst q; exact h (by omega))], fun j hj => by rw [sR_2, if_neg (by omega)]⟩
theorem sA_sR (T : St) (a : Nat) (g : Nat → Int32) (i : Nat) (v : Int32) : sA (sR T a g) a i v = sR T a (upd g i v) := by
  apply Prod.ext
  · rfl
  · apply Prod.ext
    · funext c j
      rw [sA_2]
      show _ = (sR T a (upd g i v)).2.1 c j
      rw [sR_2, sR_2, sR_2]
      by_cases e : c = a
      · rw [if_pos e, if_pos e, if_pos rfl]; rfl
      · rw [if_neg e, if_neg e, if_neg e]
    · rfl
theorem sR_self (T : St) (a : Nat) : sR T a (T.2.1 a) = T := by
  apply Prod.ext
  · rfl
  · apply Prod.ext
    · funext c
      show (sR T a (T.2.1 a)).2.1 c = _
      rw [sR_2]
      by_cases e : c = a
      · rw [if_pos e, e]
      · rw [if_neg e]
    · rfl
def ncf (T : St) (nt : Nat) (h : Int32) : Nat → Nat
  | 0 => 0
  | i + 1 => if T.2.1 5 (cown T i nt).toNatClampNeg = h ∧ exm T i = 0 then ncf T nt h i + 1 else ncf T nt h i
def rof (T : St) (nt : Nat) (h : Int32) : Nat → Nat → Nat
  | 0, _ => 0
  | i + 1, j => if T.2.1 5 (cown T i nt).toNatClampNeg = h ∧ exm T i = 0 then (if j = ncf T nt h i then i else rof T nt h i j) else rof T nt h i j
def sumR (g : Nat → Int32) : Nat → Int32
  | 0 => 0
  | m + 1 => sumR g m + g m
theorem sumR_cg {g g' : Nat → Int32} : ∀ m, (∀ j, j < m → g j = g' j) → sumR g m = sumR g' m := by
  intro m
  induction m with
  | zero => intro _; rfl
  | succ m ihm => intro h; rw [sumR, sumR, ihm (fun j hj => h j (by omega)), h m (by omega)]
theorem ncf_le {T : St} {nt : Nat} {h : Int32} : ∀ i, ncf T nt h i ≤ i := by
  intro i
  induction i with
  | zero => exact Nat.le_refl _
  | succ i ihi => rw [ncf]; split <;> omega
theorem rof_lt {T : St} {nt : Nat} {h : Int32} : ∀ i j, j < ncf T nt h i → rof T nt h i j < i := by
  intro i
  induction i with
  | zero => intro j hj; exact absurd hj (by simp [ncf])
  | succ i ihi =>
    intro j hj
    rw [ncf] at hj
    rw [rof]
    by_cases c : T.2.1 5 (cown T i nt).toNatClampNeg = h ∧ exm T i = 0
    · rw [if_pos c] at hj ⊢
      by_cases e : j = ncf T nt h i
      · rw [if_pos e]; omega
      · rw [if_neg e]; have := ihi j (by omega); omega
    · rw [if_neg c] at hj ⊢
      have := ihi j hj; omega
/-- the standard land of the house -/
def hsum (T : St) (nt : Nat) (h : Int32) (i : Nat) : Int32 := sumR (fun j => std T (rof T nt h i j)) (ncf T nt h i)
theorem hsum_s {T : St} {nt i : Nat} {h : Int32} : hsum T nt h (i + 1) = if T.2.1 5 (cown T i nt).toNatClampNeg = h ∧ exm T i = 0 then hsum T nt h i + std T i else hsum T nt h i := by
  by_cases c : T.2.1 5 (cown T i nt).toNatClampNeg = h ∧ exm T i = 0
  · rw [if_pos c]
    unfold hsum
    rw [ncf, if_pos c, sumR]
    congr 1
    · apply sumR_cg
      intro j hj
      rw [rof, if_pos c, if_neg (by omega)]
    · rw [rof, if_pos c, if_pos rfl]
  · rw [if_neg c]
    unfold hsum
    rw [ncf, if_neg c]
    apply sumR_cg
    intro j hj
    rw [rof, if_neg c]
def memF (T : St) (h : Int32) : Nat → Int32
  | 0 => 0
  | i + 1 => if T.2.1 5 i = h then memF T h i + 1 else memF T h i
def alw (T : St) (h : Int32) (np : Nat) : Int32 := T.2.1 16 0 + T.2.1 16 1 * (if (0 : Int32) < memF T h np - 5 then memF T h np - 5 else 0)
theorem memX {np n : Nat} {S T : St} {h : Int32} (hPe : Pe np S T) : ∀ (dd i fu : Nat), i + dd = np → dd < fu → fX4_membersOf_L4 n h S (fun x4 x5 => some x4) fu (memF T h i) (nI i) = some (memF T h np) := by
  obtain ⟨t1, t2, t3, t4⟩ := id hPe
  intro dd
  induction dd with
  | zero =>
    intro i fu hi hfu
    obtain ⟨fu, rfl⟩ : ∃ g, fu = g + 1 := ⟨fu - 1, by omega⟩
    have e : i = np := by omega
    subst e
    rw [fX4_membersOf_L4, t2, if_pos (nI_le (Nat.le_refl _) (by omega))]
  | succ dd ihd =>
    intro i fu hi hfu
    obtain ⟨fu, rfl⟩ : ∃ g, fu = g + 1 := ⟨fu - 1, by omega⟩
    have := ihd (i + 1) fu (by omega) (by omega)
    rw [memF] at this
    rw [fX4_membersOf_L4, t2, if_neg (nI_ge (by omega) (by omega)), ig (show i < 40 by omega) (by omega), cl (by omega), (t4 i (by omega)).1, nI_1]
    by_cases c : T.2.1 5 i = h
    · rw [if_pos c] at this ⊢; exact this
    · rw [if_neg c] at this ⊢; exact this
theorem memM {np n : Nat} {S T : St} {h : Int32} (hPe : Pe np S T) : ∀ (dd i fu : Nat), i + dd = np → dd < fu → fX11_peopleOf_L4 n h T (fun x4 x5 => some x4) fu (memF T h i) (nI i) = some (memF T h np) := by
  obtain ⟨t1, t2, t3, t4⟩ := id hPe
  intro dd
  induction dd with
  | zero =>
    intro i fu hi hfu
    obtain ⟨fu, rfl⟩ : ∃ g, fu = g + 1 := ⟨fu - 1, by omega⟩
    have e : i = np := by omega
    subst e
    rw [fX11_peopleOf_L4, t3, if_pos (nI_le (Nat.le_refl _) (by omega))]
  | succ dd ihd =>
    intro i fu hi hfu
    obtain ⟨fu, rfl⟩ : ∃ g, fu = g + 1 := ⟨fu - 1, by omega⟩
    have := ihd (i + 1) fu (by omega) (by omega)
    rw [memF] at this
    rw [fX11_peopleOf_L4, t3, if_neg (nI_ge (by omega) (by omega)), ig (show i < 40 by omega) (by omega), cl (by omega), nI_1, show fX11_one 1 = some 1 from rfl, show fX11_one 0 = some 0 from rfl, ob_s, ob_s]
    simp only [lt_, Int32.add_zero]
    by_cases c : T.2.1 5 i = h
    · rw [if_pos c] at this ⊢; exact this
    · rw [if_neg c] at this ⊢; exact this
theorem peopleM {np n : Nat} {S T : St} (h : Int32) (hn : 5000 ≤ n) (hPe : Pe np S T) : fX11_peopleOf n T h = some (memF T h np) := by
  have := hPe.1
  exact memM hPe np 0 n (by omega) (by omega)
theorem mayM {np n : Nat} {S T : St} (h : Int32) (hn : 5000 ≤ n) (hPe : Pe np S T) : fX11_mayHave n T h = some (alw T h np) := by
  unfold fX11_mayHave
  rw [peopleM h hn hPe, ob_s]
  rfl
theorem cnt_sR {T : St} {f t : Nat} {g : Nat → Int32} {d : Int32} : cnt (sR T 26 g) f d t = cnt T f d t := by
  induction t with
  | zero => rfl
  | succ t iht => rw [cnt, cnt, iht]; rfl
theorem cown_sR {T : St} {f nt : Nat} {g : Nat → Int32} : cown (sR T 26 g) f nt = cown T f nt := cnt_sR
theorem exm_sR {T : St} {f : Nat} {g : Nat → Int32} : exm (sR T 26 g) f = exm T f := rfl
theorem std_sR {T : St} {f : Nat} {g : Nat → Int32} : std (sR T 26 g) f = std T f := rfl
theorem mem_sR {T : St} {h : Int32} {g : Nat → Int32} : ∀ i, memF (sR T 26 g) h i = memF T h i := by
  intro i
  induction i with
  | zero => rfl
  | succ i ihi => rw [memF, memF, ihi]; rfl
theorem alw_sR {T : St} {h : Int32} {np : Nat} {g : Nat → Int32} : alw (sR T 26 g) h np = alw T h np := by
  unfold alw; rw [mem_sR]; rfl
theorem ncf_sR {T : St} {h : Int32} {nt : Nat} {g : Nat → Int32} : ∀ i, ncf (sR T 26 g) nt h i = ncf T nt h i := by
  intro i
  induction i with
  | zero => rfl
  | succ i ihi => rw [ncf, ncf, ihi, cown_sR]; rfl
theorem rof_sR {T : St} {h : Int32} {nt : Nat} {g : Nat → Int32} : ∀ i j, rof (sR T 26 g) nt h i j = rof T nt h i j := by
  intro i
  induction i with
  | zero => intro j; rfl
  | succ i ihi => intro j; rw [rof, rof, ihi, cown_sR, ncf_sR]; rfl
theorem countsML {np nf nt td tl kp k n : Nat} {S T : St} {Fn : Nat → Nat → Int32} {h : Int32} (hn : 5000 ≤ n) (hR : RelP np nf nt td tl kp S k Fn T) : ∀ (dd i fu : Nat) (g : Nat → Int32), (∀ j, j < ncf T nt h i → g j = nI (rof T nt h i j)) → i + dd = nf → dd < fu → ∃ g', fX11_counts_L4 n h (fun x9 x10 S11 => some (x9, S11)) fu (nI (ncf T nt h i)) (nI i) (sR T 26 g) = some (nI (ncf T nt h nf), sR T 26 g') ∧ ∀ j, j < ncf T nt h nf → g' j = nI (rof T nt h nf j) := by
  intro dd
  have h60' := hR.2.2.1.1
  have h40' := hR.1.1
  induction dd with
  | zero =>
    intro i fu g hg hi hfu
    obtain ⟨fu, rfl⟩ : ∃ g, fu = g + 1 := ⟨fu - 1, by omega⟩
    have e : i = nf := by omega
    subst e
    refine ⟨g, ?_, hg⟩
    rw [fX11_counts_L4, sR_1, hR.2.2.1.2.2.1, if_pos (nI_le (Nat.le_refl _) (by omega))]
  | succ dd ihd =>
    intro i fu g hg hi hfu
    obtain ⟨fu, rfl⟩ : ∃ g, fu = g + 1 := ⟨fu - 1, by omega⟩
    have hi' : i < nf := by omega
    have hR1 : RelP np nf nt td tl kp S k Fn (sR T 26 g) := hR.congr (eqX.rf S) (eqM_sR (by omega))
    obtain ⟨hPe, hKi, hLa, hTr, hTa, hLw, hPr, hSl⟩ := id hR1
    obtain ⟨p, hp, ep⟩ := cnt_in (d := T.2.1 16 2) hR.2.2.1 hR.2.2.2.1 hi' nt (Nat.le_refl _)
    have ep' : cown T i nt = nI p := ep
    rw [fX11_counts_L4, hLa.2.2.1, if_neg (nI_ge hi' (by omega)), exm_M hLa hi', ob_s, counted_M hn hPe hLa hTr hi', exm_sR, cown_sR, ob_s, ep', ig (show p < 40 by omega) (by omega), cl (show p < 2 ^ 31 by omega), show (sR T 26 g).2.1 5 p = T.2.1 5 p from rfl]
    simp only [nI_1]
    have hnc := ncf_le (T := T) (nt := nt) (h := h) i
    have hv : cown T i nt = nI p := ep'
    have hcl : (cown T i nt).toNatClampNeg = p := by rw [ep', cl (by omega)]
    by_cases c1 : exm T i = 0
    · rw [if_pos c1]
      by_cases c2 : T.2.1 5 p = h
      · have c : T.2.1 5 (cown T i nt).toNatClampNeg = h ∧ exm T i = 0 := ⟨by rw [hcl]; exact c2, c1⟩
        rw [if_pos c2, ig (show ncf T nt h i < 60 by omega) (by omega), cl (show ncf T nt h i < 2 ^ 31 by omega)]
        simp only [lt_]
        rw [sA_sR]
        have := ihd (i + 1) fu (upd g (ncf T nt h i) (nI i)) (by
          intro j hj
          rw [ncf, if_pos c] at hj
          rw [rof, if_pos c]
          by_cases e : j = ncf T nt h i
          · rw [if_pos e, e, pk_us]
          · rw [if_neg e, pk_un e, hg j (by omega)]) (by omega) (by omega)
        rw [show ncf T nt h (i + 1) = ncf T nt h i + 1 by rw [ncf, if_pos c]] at this
        exact this
      · have c : ¬ (T.2.1 5 (cown T i nt).toNatClampNeg = h ∧ exm T i = 0) := fun q => c2 (by have := q.1; rw [hcl] at this; exact this)
        rw [if_neg c2]
        have := ihd (i + 1) fu g (by
          intro j hj
          rw [ncf, if_neg c] at hj
          rw [rof, if_neg c, hg j (by omega)]) (by omega) (by omega)
        rw [show ncf T nt h (i + 1) = ncf T nt h i by rw [ncf, if_neg c]] at this
        exact this
    · have c : ¬ (T.2.1 5 (cown T i nt).toNatClampNeg = h ∧ exm T i = 0) := fun q => c1 q.2
      rw [if_neg c1]
      have := ihd (i + 1) fu g (by
        intro j hj
        rw [ncf, if_neg c] at hj
        rw [rof, if_neg c, hg j (by omega)]) (by omega) (by omega)
      rw [show ncf T nt h (i + 1) = ncf T nt h i by rw [ncf, if_neg c]] at this
      exact this
theorem countsM {np nf nt td tl kp k n : Nat} {S T : St} {Fn : Nat → Nat → Int32} (h : Int32) (hn : 5000 ≤ n) (hR : RelP np nf nt td tl kp S k Fn T) : ∃ g, fX11_counts n T h = some (nI (ncf T nt h nf), sR T 26 g) ∧ ∀ j, j < ncf T nt h nf → g j = nI (rof T nt h nf j) := by
  have h60' := hR.2.2.1.1
  have := countsML (h := h) hn hR nf 0 n (T.2.1 26) (by intro j hj; exact absurd hj (by simp [ncf])) (by omega) (by omega)
  rw [sR_self] at this
  exact this
theorem holdML {np nf n m : Nat} {S T : St} {g : Nat → Int32} {ro : Nat → Nat} (hLa : La np nf S (sR T 26 g)) (hg : ∀ j, j < m → g j = nI (ro j) ∧ ro j < nf) (hm : m ≤ 60) : ∀ (dd i fu : Nat), i + dd = m → dd < fu → fX11_holding_L11 n (nI m) (sR T 26 g) (fun x8 x9 => some (x8, sR T 26 g)) fu (sumR (fun j => std T (ro j)) i) (nI i) = some (sumR (fun j => std T (ro j)) m, sR T 26 g) := by
  intro dd
  induction dd with
  | zero =>
    intro i fu hi hfu
    obtain ⟨fu, rfl⟩ : ∃ g, fu = g + 1 := ⟨fu - 1, by omega⟩
    have e : i = m := by omega
    subst e
    rw [fX11_holding_L11, if_pos (nI_le (Nat.le_refl _) (by omega))]
  | succ dd ihd =>
    intro i fu hi hfu
    obtain ⟨fu, rfl⟩ : ∃ g, fu = g + 1 := ⟨fu - 1, by omega⟩
    obtain ⟨e1, e2⟩ := hg i (by omega)
    rw [fX11_holding_L11, if_neg (nI_ge (show i < m by omega) (by omega)), ig (show i < 60 by omega) (by omega), cl (by omega), show (sR T 26 g).2.1 26 i = g i from rfl, e1, stdM' hLa e2, ob_s, nI_1, std_sR]
    exact ihd (i + 1) fu (by omega) (by omega)
theorem holdM {np nf nt td tl kp k n : Nat} {S T : St} {Fn : Nat → Nat → Int32} (h : Int32) (hn : 5000 ≤ n) (hR : RelP np nf nt td tl kp S k Fn T) : ∃ g, fX11_holding n T h = some (hsum T nt h nf, sR T 26 g) ∧ ∀ j, j < ncf T nt h nf → g j = nI (rof T nt h nf j) := by
  have h60' := hR.2.2.1.1
  have hnc := ncf_le (T := T) (nt := nt) (h := h) nf
  obtain ⟨g, e, hg⟩ := countsM h hn hR
  refine ⟨g, ?_, hg⟩
  unfold fX11_holding
  rw [e, ob_s]
  simp only [lt_]
  have hR1 : RelP np nf nt td tl kp S k Fn (sR T 26 g) := hR.congr (eqX.rf S) (eqM_sR (by omega))
  exact holdML (n := n) (ro := rof T nt h nf) hR1.2.2.1 (fun j hj => ⟨hg j hj, rof_lt nf j hj⟩) (by omega) (ncf T nt h nf) 0 n (by omega) (by omega)
/-- what the class has gathered -/
def Gat (np nf nt : Nat) (h : Int32) (S T : St) : Prop := S.1 11 = nI (ncf T nt h nf) ∧ S.1 12 = memF T h np ∧ S.1 13 = hsum T nt h nf ∧ S.1 14 = alw T h np ∧ ∀ j, j < ncf T nt h nf → S.2.1 13 j = nI (rof T nt h nf j)
theorem gatL {np nf nt td tl kp k n : Nat} {T : St} {Fn : Nat → Nat → Int32} {h : Int32} (hn : 5000 ≤ n) : ∀ (dd i fu : Nat) (S1 : St), RelP np nf nt td tl kp S1 k Fn T → (∀ f, f < nf → S1.2.1 12 f = cown T f nt) → S1.1 11 = nI (ncf T nt h i) → S1.1 13 = hsum T nt h i → (∀ j, j < ncf T nt h i → S1.2.1 13 j = nI (rof T nt h i j)) → i + dd = nf → dd < fu → ∃ S', fX1_gather_L21 n h (fun x17 S18 => ob (fX4_membersOf n S18 h) fun r19 => lt_ (sS S18 12 r19) fun S20 => ob (fX3_allows S20 (S20.1 12)) fun r21 => lt_ (sS S20 14 r21) fun S22 => some S22) fu (nI i) S1 = some S' ∧ RelP np nf nt td tl kp S' k Fn T ∧ Gat np nf nt h S' T := by
  intro dd
  induction dd with
  | zero =>
    intro i fu S1 hR hc h11 h13 hro hi hfu
    obtain ⟨fu, rfl⟩ : ∃ g, fu = g + 1 := ⟨fu - 1, by omega⟩
    have e : i = nf := by omega
    subst e
    have h60' := hR.2.2.1.1
    have h40' := hR.1.1
    have hm : fX4_membersOf n S1 h = some (memF T h np) := memX hR.1 np 0 n (by omega) (by omega)
    rw [fX1_gather_L21, hR.2.2.1.2.1, if_pos (nI_le (Nat.le_refl _) (by omega)), hm, ob_s]
    simp only [lt_, fX3_allows, ob_s]
    refine ⟨_, rfl, (hR.congr (eqX_sS (k := 12) (by omega)) (eqM.rf T)).congr (eqX_sS (k := 14) (by omega)) (eqM.rf T), ?_, ?_, ?_, ?_, hro⟩
    · rw [sS_1, if_neg (by omega), sS_1, if_neg (by omega), h11]
    · rw [sS_1, if_neg (by omega), sS_1, if_pos rfl]
    · rw [sS_1, if_neg (by omega), sS_1, if_neg (by omega), h13]
    · rw [sS_1, if_pos rfl, sS_1, sS_1, sS_1, if_neg (by omega), if_neg (by omega), if_pos rfl, hR.2.2.2.2.2.1.1, hR.2.2.2.2.2.1.2.1]
      rfl
  | succ dd ihd =>
    intro i fu S1 hR hc h11 h13 hro hi hfu
    obtain ⟨fu, rfl⟩ : ∃ g, fu = g + 1 := ⟨fu - 1, by omega⟩
    have h60' := hR.2.2.1.1
    have h40' := hR.1.1
    have hi' : i < nf := by omega
    obtain ⟨hPe, hKi, hLa, hTr, hTa, hLw, hPr, hSl⟩ := id hR
    obtain ⟨p, hp, ep⟩ := cnt_in (d := T.2.1 16 2) hLa hTr hi' nt (Nat.le_refl _)
    have ep' : cown T i nt = nI p := ep
    have hcl : (cown T i nt).toNatClampNeg = p := by rw [ep', cl (by omega)]
    have hnc := ncf_le (T := T) (nt := nt) (h := h) i
    rw [fX1_gather_L21, hLa.2.1, if_neg (nI_ge hi' (by omega)), ig (show i < 60 by omega) (by omega), cl (show i < 2 ^ 31 by omega), hc i hi', ep', houseX hPe hp, ob_s, ih (show i < 60 by omega) h60, (hLa.2.2.2 i hi').2.2.2.1, exm_X hLa hLw hi', ob_s, nI_1]
    by_cases c2 : T.2.1 5 p = h
    · rw [if_pos c2]
      by_cases c1 : exm T i = 0
      · have c : T.2.1 5 (cown T i nt).toNatClampNeg = h ∧ exm T i = 0 := ⟨by rw [hcl]; exact c2, c1⟩
        rw [if_pos c1, h11, ig (show ncf T nt h i < 60 by omega) (by omega), cl (show ncf T nt h i < 2 ^ 31 by omega)]
        simp only [lt_]
        have hR2 : RelP np nf nt td tl kp (sS (sA S1 13 (ncf T nt h i) (nI i)) 11 ((sA S1 13 (ncf T nt h i) (nI i)).1 11 + 1)) k Fn T := (hR.congr (eqX_sA (a := 13) (by omega)) (eqM.rf T)).congr (eqX_sS (k := 11) (by omega)) (eqM.rf T)
        rw [stdX hR2.2.2.1 hR2.2.2.2.2.2.1 hi', ob_s]
        refine ihd (i + 1) fu _ (hR2.congr (eqX_sS (k := 13) (by omega)) (eqM.rf T)) (fun f hf => ?_) ?_ ?_ (fun j hj => ?_) (by omega) (by omega)
        · rw [sS_2, sS_2, sA_2, if_neg (by omega)]; exact hc f hf
        · rw [sS_1, if_neg (by omega), sS_1, if_pos rfl, sA_1, h11, nI_1, ncf, if_pos c]
        · rw [sS_1, if_pos rfl, sS_1, if_neg (by omega), sA_1, h13, hsum_s, if_pos c]
        · rw [ncf, if_pos c] at hj
          rw [sS_2, sS_2, sA_2, if_pos rfl, rof, if_pos c]
          by_cases e : j = ncf T nt h i
          · rw [if_pos e, if_pos e]
          · rw [if_neg e, if_neg e, hro j (by omega)]
      · have c : ¬ (T.2.1 5 (cown T i nt).toNatClampNeg = h ∧ exm T i = 0) := fun q => c1 q.2
        rw [if_neg c1]
        refine ihd (i + 1) fu _ hR hc ?_ ?_ (fun j hj => ?_) (by omega) (by omega)
        · rw [ncf, if_neg c, h11]
        · rw [hsum_s, if_neg c, h13]
        · rw [ncf, if_neg c] at hj; rw [rof, if_neg c, hro j hj]
    · have c : ¬ (T.2.1 5 (cown T i nt).toNatClampNeg = h ∧ exm T i = 0) := fun q => c2 (by have := q.1; rw [hcl] at this; exact this)
      rw [if_neg c2]
      refine ihd (i + 1) fu _ hR hc ?_ ?_ (fun j hj => ?_) (by omega) (by omega)
      · rw [ncf, if_neg c, h11]
      · rw [hsum_s, if_neg c, h13]
      · rw [ncf, if_neg c] at hj; rw [rof, if_neg c, hro j hj]
theorem gatX {np nf nt td tl kp k n : Nat} {S T : St} {Fn : Nat → Nat → Int32} (h : Int32) (hn : 5000 ≤ n) (hR : RelP np nf nt td tl kp S k Fn T) : ∃ S', fX1_gather n S h = some S' ∧ RelP np nf nt td tl kp S' k Fn T ∧ Gat np nf nt h S' T := by
  have h60' := hR.2.2.1.1
  obtain ⟨S1, g1, g2, g3, g4, g5⟩ := cown_X hn hR
  unfold fX1_gather
  rw [g1, ob_s]
  simp only [lt_]
  refine gatL hn nf 0 n _ (((hR.congr g2 (eqM.rf T)).congr (eqX_sS (k := 11) (v := 0) (by omega)) (eqM.rf T)).congr (eqX_sS (k := 13) (v := 0) (by omega)) (eqM.rf T)) g5 rfl rfl (fun j hj => ?_) (by omega) (by omega)
  exact absurd hj (by simp [ncf])
theorem hou_rng (x : Int32) : (fX10_isBelow x 20 = some 0 ∧ fX11_isHouse x = some 0) ∨ ∃ j, j < 20 ∧ x = nI j ∧ fX10_isBelow x 20 = some 1 ∧ fX11_isHouse x = some 1 := by
  unfold fX11_isHouse
  rcases rng x 20 (y := 20) (z := 19) (by omega) rfl (by decide) with ⟨e1, e2⟩ | ⟨j, hj, e0, e1, e2⟩
  · left; rw [e1, e2]; exact ⟨rfl, rfl⟩
  · right; refine ⟨j, hj, e0, e1, ?_⟩
    rw [e2]; rfl
theorem q10 {n : Nat} (hn : 5000 ≤ n) : Q10 n Rel := by
  intro S k Fn T a1 a2 ⟨np, nf, nt, td, tl, kp, h⟩
  have hR : Rel S k Fn T := ⟨np, nf, nt, td, tl, kp, h⟩
  unfold fX10_house fX11_house
  rcases hou_rng a1 with ⟨e1, e2⟩ | ⟨j, hj, -, e1, e2⟩
  · rw [e1, e2]; exact ⟨-1, S, T, rfl, rfl, hR⟩
  rw [e1, e2, ob_s, ob_s, i10, i10]
  obtain ⟨S', x1, x2, y11, y12, y13, y14, y15⟩ := gatX a1 hn h
  obtain ⟨g, m1, m2⟩ := countsM a1 hn h
  obtain ⟨g', m3, m4⟩ := holdM a1 hn h
  have hR1 : Rel S' k Fn T := ⟨np, nf, nt, td, tl, kp, x2⟩
  have hR2 : ∀ g, RelP np nf nt td tl kp S' k Fn (sR T 26 g) := fun g => x2.congr (eqX.rf S') (eqM_sR (by omega))
  have hR3 : ∀ g, Rel S' k Fn (sR T 26 g) := fun g => ⟨np, nf, nt, td, tl, kp, hR2 g⟩
  rw [x1, ob_s, peopleM a1 hn h.1, m3, mayM a1 hn h.1, m1]
  simp only [ob_s, lt_, fX1_above, mayM a1 hn (hR2 g').1, alw_sR, y11, y12, y13, y14]
  by_cases c0 : a2 = 0
  · rw [if_pos c0, if_pos c0]; exact ⟨_, _, _, rfl, rfl, hR1⟩
  rw [if_neg c0, if_neg c0]
  by_cases c1 : a2 = 1
  · rw [if_pos c1, if_pos c1]; exact ⟨_, _, _, rfl, rfl, hR3 _⟩
  rw [if_neg c1, if_neg c1]
  by_cases c2 : a2 = 2
  · rw [if_pos c2, if_pos c2]; exact ⟨_, _, _, rfl, rfl, hR1⟩
  rw [if_neg c2, if_neg c2]
  by_cases c3 : a2 = 3
  · rw [if_pos c3, if_pos c3]; exact ⟨_, _, _, rfl, rfl, hR3 _⟩
  rw [if_neg c3, if_neg c3]
  by_cases c4 : a2 = 4
  · rw [if_pos c4, if_pos c4]; exact ⟨_, _, _, rfl, rfl, hR3 _⟩
  rw [if_neg c4, if_neg c4]
  exact ⟨_, _, _, rfl, rfl, hR1⟩
