/-! swaps in rings: one ring at a time, or all at once -/
abbrev wm (d : Nat → Nat → Nat) (hs : Nat → Nat) (i j k : Nat) : Prop := d i j < d i k ∨ (d i j = d i k ∧ hs j < hs k)
def tpF (d : Nat → Nat → Nat) (hs : Nat → Nat) (g : Nat → Int32) (i : Nat) : Nat → Option Nat
  | 0 => none
  | j + 1 => if g j = -1 then (match tpF d hs g i j with
    | none => some j
    | some b => if wm d hs i j b then some j else some b) else tpF d hs g i j
def isTp (d : Nat → Nat → Nat) (hs : Nat → Nat) (m : Nat) (g : Nat → Int32) (i t : Nat) : Prop := t < m ∧ g t = -1 ∧ ∀ j, j < m → g j = -1 → j ≠ t → wm d hs i t j
def Inj (hs : Nat → Nat) (m : Nat) : Prop := ∀ a b, a < m → b < m → hs a = hs b → a = b
theorem tpF_spec {d : Nat → Nat → Nat} {hs : Nat → Nat} {g : Nat → Int32} {i m : Nat} (inj : Inj hs m) : ∀ n, n ≤ m → (tpF d hs g i n = none ∧ ∀ j, j < n → ¬ g j = -1) ∨ ∃ b, tpF d hs g i n = some b ∧ b < n ∧ g b = -1 ∧ ∀ j, j < n → g j = -1 → j ≠ b → wm d hs i b j := by
  intro n
  induction n with
  | zero => intro _; left; exact ⟨rfl, fun j hj => by omega⟩
  | succ n ihn =>
    intro hn
    rw [tpF]
    by_cases c : g n = -1
    · rw [if_pos c]
      right
      rcases ihn (by omega) with ⟨e, h⟩ | ⟨b, e, h1, h2, h3⟩
      · rw [e]
        refine ⟨n, rfl, by omega, c, fun j hj ha hne => ?_⟩
        exact absurd ha (h j (by omega))
      · rw [e]
        simp only
        by_cases w : wm d hs i n b
        · rw [if_pos w]
          refine ⟨n, rfl, by omega, c, fun j hj ha hne => ?_⟩
          by_cases ej : j = b
          · rw [ej]; exact w
          · have := h3 j (by omega) ha ej
            unfold wm at *
            omega
        · rw [if_neg w]
          refine ⟨b, rfl, by omega, h2, fun j hj ha hne => ?_⟩
          by_cases ej : j = n
          · rw [ej]
            have hi := inj n b (by omega) (by omega)
            unfold wm at *
            by_cases q : hs n = hs b
            · exact absurd (hi q) (by omega)
            · omega
          · exact h3 j (by omega) ha hne
    · rw [if_neg c]
      rcases ihn (by omega) with ⟨e, h⟩ | ⟨b, e, h1, h2, h3⟩
      · left
        refine ⟨e, fun j hj => ?_⟩
        by_cases ej : j = n
        · rw [ej]; exact c
        · exact h j (by omega)
      · right
        refine ⟨b, e, by omega, h2, fun j hj ha hne => ?_⟩
        by_cases ej : j = n
        · rw [ej] at ha; exact absurd ha c
        · exact h3 j (by omega) ha hne
def Pt (d : Nat → Nat → Nat) (hs : Nat → Nat) (m : Nat) (g : Nat → Int32) (i : Nat) : Nat := (tpF d hs g i m).getD 0
theorem Pt_tp {d : Nat → Nat → Nat} {hs : Nat → Nat} {g : Nat → Int32} {m : Nat} (inj : Inj hs m) (i : Nat) {j : Nat} (hj : j < m) (ha : g j = -1) : isTp d hs m g i (Pt d hs m g i) := by
  unfold Pt
  rcases tpF_spec (d := d) (i := i) (g := g) inj m (Nat.le_refl _) with ⟨e, h⟩ | ⟨b, e, h1, h2, h3⟩
  · exact absurd ha (h j hj)
  · rw [e]; exact ⟨h1, h2, h3⟩
theorem isTp_eq {d : Nat → Nat → Nat} {hs : Nat → Nat} {g : Nat → Int32} {m i t u : Nat} (h : isTp d hs m g i t) (h' : isTp d hs m g i u) : t = u := by
  apply Classical.byContradiction
  intro q
  have h1 := h.2.2 u h'.1 h'.2.1 (fun z => q z.symm)
  have h2 := h'.2.2 t h.1 h.2.1 q
  unfold wm at *
  omega
theorem isTp_sub {d : Nat → Nat → Nat} {hs : Nat → Nat} {g g' : Nat → Int32} {m i t : Nat} (h : isTp d hs m g i t) (hs' : ∀ j, g' j = -1 → g j = -1) (ht : g' t = -1) : isTp d hs m g' i t := ⟨h.1, ht, fun j hj ha hne => h.2.2 j hj (hs' j ha) hne⟩
def itr (P : Nat → Nat) : Nat → Nat → Nat
  | 0, i => i
  | k + 1, i => P (itr P k i)
theorem itr_add {P : Nat → Nat} : ∀ a b i, itr P (a + b) i = itr P a (itr P b i) := by
  intro a
  induction a with
  | zero => intro b i; rw [Nat.zero_add]; rfl
  | succ a iha => intro b i; rw [show a + 1 + b = (a + b) + 1 by omega, itr, itr, iha]
theorem itr_mul {P : Nat → Nat} {k i : Nat} (h : itr P k i = i) : ∀ a, itr P (a * k) i = i := by
  intro a
  induction a with
  | zero => rw [Nat.zero_mul]; rfl
  | succ a iha => rw [Nat.succ_mul, itr_add, h, iha]
theorem itr_back {P : Nat → Nat} {k i : Nat} (hk : 0 < k) (h : itr P k i = i) (a : Nat) : itr P (a * (k - 1)) (itr P a i) = i := by
  rw [← itr_add]
  have e : a * (k - 1) + a = a * k := by
    obtain ⟨k, rfl⟩ : ∃ c, k = c + 1 := ⟨k - 1, by omega⟩
    rw [Nat.add_sub_cancel, Nat.mul_succ]
  rw [e]; exact itr_mul h a
/-- pointing keeps to those who have not left -/
theorem itr_act {d : Nat → Nat → Nat} {hs : Nat → Nat} {g : Nat → Int32} {m i : Nat} (inj : Inj hs m) (hi : i < m) (ha : g i = -1) : ∀ r, itr (Pt d hs m g) r i < m ∧ g (itr (Pt d hs m g) r i) = -1 := by
  intro r
  induction r with
  | zero => exact ⟨hi, ha⟩
  | succ r ihr =>
    rw [itr]
    have := Pt_tp (d := d) inj (itr (Pt d hs m g) r i) hi ha
    exact ⟨this.1, this.2.1⟩
theorem nm1 {a : Nat} (h : a < 60) : ¬ nI a = -1 := fun q => nI_pos (show a < 2 ^ 31 by omega) (by rw [q]; decide)
/-- one ring leaves: the one that i0 is in -/
def Ste (d : Nat → Nat → Nat) (hs : Nat → Nat) (m : Nat) (g : Nat → Int32) (i0 : Nat) (g' : Nat → Int32) : Prop := i0 < m ∧ g i0 = -1 ∧ (∃ k, 0 < k ∧ itr (Pt d hs m g) k i0 = i0) ∧ (∀ r, g' (itr (Pt d hs m g) r i0) = nI (hs (Pt d hs m g (itr (Pt d hs m g) r i0)))) ∧ ∀ j, (∀ r, ¬ itr (Pt d hs m g) r i0 = j) → g' j = g j
theorem Ste.sub {d : Nat → Nat → Nat} {hs : Nat → Nat} {m i0 : Nat} {g g' : Nat → Int32} (inj : Inj hs m) (h60 : ∀ j, j < m → hs j < 60) (h : Ste d hs m g i0 g') : ∀ j, g' j = -1 → g j = -1 := by
  intro j hj
  obtain ⟨h1, h2, h3, h4, h5⟩ := h
  by_cases c : ∃ r, itr (Pt d hs m g) r i0 = j
  · obtain ⟨r, e⟩ := c
    rw [← e, h4 r] at hj
    have := itr_act (d := d) inj h1 h2 (r + 1)
    exact absurd hj (nm1 (h60 _ this.1))
  · rw [h5 j (fun r q => c ⟨r, q⟩)] at hj; exact hj
/-- a ring stays a ring when others leave -/
theorem ring_keep {d : Nat → Nat → Nat} {hs : Nat → Nat} {m i : Nat} {g g' : Nat → Int32} (inj : Inj hs m) (hi : i < m) (ha : g i = -1) (hsub : ∀ j, g' j = -1 → g j = -1) (hk : ∀ r, g' (itr (Pt d hs m g) r i) = -1) : ∀ r, itr (Pt d hs m g') r i = itr (Pt d hs m g) r i ∧ Pt d hs m g' (itr (Pt d hs m g) r i) = Pt d hs m g (itr (Pt d hs m g) r i) := by
  have hp : ∀ r, Pt d hs m g' (itr (Pt d hs m g) r i) = Pt d hs m g (itr (Pt d hs m g) r i) := by
    intro r
    have h1 := Pt_tp (d := d) inj (itr (Pt d hs m g) r i) hi ha
    have h2 := isTp_sub h1 hsub (hk (r + 1))
    have h3 := Pt_tp (d := d) inj (itr (Pt d hs m g) r i) hi (hk 0)
    exact isTp_eq h3 h2
  intro r
  refine ⟨?_, hp r⟩
  induction r with
  | zero => rfl
  | succ r ihr => rw [itr, itr, ihr, hp r]
theorem ste_keep {d : Nat → Nat → Nat} {hs : Nat → Nat} {m i1 i2 : Nat} {g g1 g3 : Nat → Int32} (inj : Inj hs m) (h60 : ∀ j, j < m → hs j < 60) (h1 : Ste d hs m g i1 g1) (hi2 : i2 < m) (ha2 : g i2 = -1) (hc2 : ∃ k, 0 < k ∧ itr (Pt d hs m g) k i2 = i2) (hdis : ∀ a b, ¬ itr (Pt d hs m g) a i1 = itr (Pt d hs m g) b i2) (h3 : ∀ r, g3 (itr (Pt d hs m g) r i2) = nI (hs (Pt d hs m g (itr (Pt d hs m g) r i2)))) (h4 : ∀ j, (∀ r, ¬ itr (Pt d hs m g) r i2 = j) → g3 j = g1 j) : Ste d hs m g1 i2 g3 := by
  have hk : ∀ r, g1 (itr (Pt d hs m g) r i2) = -1 := fun r => by
    rw [h1.2.2.2.2 _ (fun a => hdis a r)]
    exact (itr_act inj hi2 ha2 r).2
  have hr := ring_keep inj hi2 ha2 (h1.sub inj h60) hk
  refine ⟨hi2, hk 0, ?_, fun r => ?_, fun j hj => ?_⟩
  · obtain ⟨k, k0, ek⟩ := hc2
    exact ⟨k, k0, by rw [(hr k).1]; exact ek⟩
  · rw [(hr r).1, (hr r).2]; exact h3 r
  · exact h4 j (fun r q => hj r (by rw [(hr r).1]; exact q))
theorem dia {d : Nat → Nat → Nat} {hs : Nat → Nat} {m i1 i2 : Nat} {g g1 g2 : Nat → Int32} (inj : Inj hs m) (h60 : ∀ j, j < m → hs j < 60) (h1 : Ste d hs m g i1 g1) (h2 : Ste d hs m g i2 g2) : g1 = g2 ∨ ∃ g3, Ste d hs m g1 i2 g3 ∧ Ste d hs m g2 i1 g3 := by
  classical
  by_cases hx : ∃ a b, itr (Pt d hs m g) a i1 = itr (Pt d hs m g) b i2
  · left
    obtain ⟨a, b, e⟩ := hx
    obtain ⟨k1, k10, e1⟩ := h1.2.2.1
    obtain ⟨k2, k20, e2⟩ := h2.2.2.1
    have o1 : i1 = itr (Pt d hs m g) (a * (k1 - 1) + b) i2 := by rw [itr_add, ← e, itr_back k10 e1]
    have o2 : i2 = itr (Pt d hs m g) (b * (k2 - 1) + a) i1 := by rw [itr_add, e, itr_back k20 e2]
    funext j
    by_cases c : ∃ r, itr (Pt d hs m g) r i1 = j
    · obtain ⟨r, er⟩ := c
      have er2 : itr (Pt d hs m g) (r + (a * (k1 - 1) + b)) i2 = j := by rw [itr_add, ← o1, er]
      have p1 := h1.2.2.2.1 r
      have p2 := h2.2.2.2.1 (r + (a * (k1 - 1) + b))
      rw [er] at p1
      rw [er2] at p2
      rw [p1, p2]
    · have c2 : ∀ r, ¬ itr (Pt d hs m g) r i2 = j := fun r q => c ⟨r + (b * (k2 - 1) + a), by rw [itr_add, ← o2, q]⟩
      rw [h1.2.2.2.2 j (fun r q => c ⟨r, q⟩), h2.2.2.2.2 j c2]
  · right
    have hdis : ∀ a b, ¬ itr (Pt d hs m g) a i1 = itr (Pt d hs m g) b i2 := fun a b q => hx ⟨a, b, q⟩
    have hdis' : ∀ a b, ¬ itr (Pt d hs m g) a i2 = itr (Pt d hs m g) b i1 := fun a b q => hx ⟨b, a, q.symm⟩
    refine ⟨fun j => if ∃ r, itr (Pt d hs m g) r i2 = j then nI (hs (Pt d hs m g j)) else g1 j, ste_keep inj h60 h1 h2.1 h2.2.1 h2.2.2.1 hdis (fun r => ?_) (fun j hj => ?_), ste_keep inj h60 h2 h1.1 h1.2.1 h1.2.2.1 hdis' (fun r => ?_) (fun j hj => ?_)⟩
    · rw [if_pos ⟨r, rfl⟩]
    · rw [if_neg (fun q => hj q.choose q.choose_spec)]
    · rw [if_neg (fun q => hdis' q.choose r q.choose_spec)]; exact h1.2.2.2.1 r
    · by_cases c : ∃ r, itr (Pt d hs m g) r i2 = j
      · rw [if_pos c]
        obtain ⟨r, er⟩ := c
        have p2 := h2.2.2.2.1 r
        rw [er] at p2
        exact p2.symm
      · rw [if_neg c, h1.2.2.2.2 j hj, h2.2.2.2.2 j (fun r q => c ⟨r, q⟩)]
def Stn (d : Nat → Nat → Nat) (hs : Nat → Nat) (m : Nat) : Nat → (Nat → Int32) → (Nat → Int32) → Prop
  | 0, g, g' => g = g'
  | c + 1, g, g' => ∃ i g1, Ste d hs m g i g1 ∧ Stn d hs m c g1 g'
def Nrm (m : Nat) (g : Nat → Int32) : Prop := ∀ j, j < m → ¬ g j = -1
theorem stn_first {d : Nat → Nat → Nat} {hs : Nat → Nat} {m : Nat} (inj : Inj hs m) (h60 : ∀ j, j < m → hs j < 60) : ∀ c g h i g1, Stn d hs m (c + 1) g h → Nrm m h → Ste d hs m g i g1 → Stn d hs m c g1 h := by
  intro c
  induction c with
  | zero =>
    intro g h i g1 hn hN hs1
    obtain ⟨i', g', s1, s2⟩ := hn
    rw [Stn] at s2
    subst s2
    rcases dia inj h60 s1 hs1 with e | ⟨g3, t1, t2⟩
    · exact e.symm
    · exact absurd t1.2.1 (hN _ t1.1)
  | succ c ihc =>
    intro g h i g1 hn hN hs1
    obtain ⟨i', g', s1, s2⟩ := hn
    rcases dia inj h60 s1 hs1 with e | ⟨g3, t1, t2⟩
    · rw [← e]; exact s2
    · exact ⟨i', g3, t2, ihc g' h i g3 s2 hN t1⟩
theorem stn_uniq {d : Nat → Nat → Nat} {hs : Nat → Nat} {m : Nat} (inj : Inj hs m) (h60 : ∀ j, j < m → hs j < 60) : ∀ c c' g h h', Stn d hs m c g h → Nrm m h → Stn d hs m c' g h' → Nrm m h' → c = c' ∧ h = h' := by
  intro c
  induction c with
  | zero =>
    intro c' g h h' s1 n1 s2 n2
    rw [Stn] at s1
    subst s1
    cases c' with
    | zero => exact ⟨rfl, s2⟩
    | succ c' =>
      obtain ⟨i, g1, t1, -⟩ := s2
      exact absurd t1.2.1 (n1 _ t1.1)
  | succ c ihc =>
    intro c' g h h' s1 n1 s2 n2
    obtain ⟨i, g1, t1, t2⟩ := s1
    cases c' with
    | zero =>
      rw [Stn] at s2
      subst s2
      exact absurd t1.2.1 (n2 _ t1.1)
    | succ c' =>
      obtain ⟨e1, e2⟩ := ihc c' g1 h h' t2 n1 (stn_first inj h60 c' g h' i g1 s2 n2 t1) n2
      exact ⟨by omega, e2⟩
theorem stn_add {d : Nat → Nat → Nat} {hs : Nat → Nat} {m : Nat} : ∀ a b g g1 h, Stn d hs m a g g1 → Stn d hs m b g1 h → Stn d hs m (a + b) g h := by
  intro a
  induction a with
  | zero => intro b g g1 h s1 s2; rw [Stn] at s1; subst s1; rw [Nat.zero_add]; exact s2
  | succ a iha =>
    intro b g g1 h s1 s2
    obtain ⟨i, g', t1, t2⟩ := s1
    rw [show a + 1 + b = (a + b) + 1 by omega]
    exact ⟨i, g', t1, iha b g' g1 h t2 s2⟩
theorem stn_one {d : Nat → Nat → Nat} {hs : Nat → Nat} {m i : Nat} {g h : Nat → Int32} (s : Ste d hs m g i h) : Stn d hs m 1 g h := ⟨i, h, s, rfl⟩
theorem hole : ∀ (m : Nat) (f : Nat → Nat), (∀ i, i ≤ m → f i < m) → ∃ a b, a < b ∧ b ≤ m ∧ f a = f b := by
  intro m
  induction m with
  | zero => intro f h; have := h 0 (Nat.le_refl _); omega
  | succ m ihm =>
    intro f h
    by_cases c : ∃ a, a < m + 1 ∧ f a = f (m + 1)
    · obtain ⟨a, h1, h2⟩ := c
      exact ⟨a, m + 1, h1, Nat.le_refl _, h2⟩
    · have hne : ∀ a, a < m + 1 → f a ≠ f (m + 1) := fun a ha q => c ⟨a, ha, q⟩
      obtain ⟨a, b, h1, h2, h3⟩ := ihm (fun i => if f i = m then f (m + 1) else f i) (by
        intro i hi
        have e1 := h i (by omega)
        have e2 := h (m + 1) (Nat.le_refl _)
        have e3 := hne i (by omega)
        split <;> omega)
      have e3 := hne a (by omega)
      have e4 := hne b (by omega)
      refine ⟨a, b, h1, by omega, ?_⟩
      by_cases ca : f a = m
      · by_cases cb : f b = m
        · rw [ca, cb]
        · rw [if_pos ca, if_neg cb] at h3; exact absurd h3.symm e4
      · by_cases cb : f b = m
        · rw [if_neg ca, if_pos cb] at h3; exact absurd h3 e3
        · rw [if_neg ca, if_neg cb] at h3; exact h3
/-- m steps lead into a ring, of at most m -/
theorem into_ring {P : Nat → Nat} {m i : Nat} (h : ∀ r, itr P r i < m) : ∃ k, 0 < k ∧ k ≤ m ∧ itr P k (itr P m i) = itr P m i := by
  obtain ⟨a, b, h1, h2, h3⟩ := hole m (fun r => itr P r i) (fun r _ => h r)
  refine ⟨b - a, by omega, by omega, ?_⟩
  rw [← itr_add, show b - a + m = (m - a) + b by omega, itr_add, ← h3, ← itr_add, show m - a + a = m by omega]
/-- who has not left -/
def naF (g : Nat → Int32) : Nat → Nat
  | 0 => 0
  | j + 1 => if g j = -1 then naF g j + 1 else naF g j
theorem naF_le {g : Nat → Int32} : ∀ m, naF g m ≤ m := by
  intro m
  induction m with
  | zero => exact Nat.le_refl _
  | succ m ihm => rw [naF]; split <;> omega
theorem naF_0 {g : Nat → Int32} : ∀ m, naF g m = 0 → Nrm m g := by
  intro m
  induction m with
  | zero => intro _ j hj; omega
  | succ m ihm =>
    intro h j hj
    rw [naF] at h
    split at h
    · omega
    · rename_i c
      by_cases e : j = m
      · rw [e]; exact c
      · exact ihm h j (by omega)
theorem naF_pos {g : Nat → Int32} : ∀ m, 0 < naF g m → ∃ j, j < m ∧ g j = -1 ∧ ∀ i, i < j → ¬ g i = -1 := by
  intro m
  induction m with
  | zero => intro h; exact absurd h (by simp [naF])
  | succ m ihm =>
    intro h
    rcases Nat.eq_zero_or_pos (naF g m) with q | q
    · rw [naF, q] at h
      split at h
      · rename_i c
        exact ⟨m, by omega, c, fun i hi => naF_0 m q i hi⟩
      · omega
    · obtain ⟨j, h1, h2, h3⟩ := ihm q
      exact ⟨j, by omega, h2, h3⟩
theorem naF_mono {g g' : Nat → Int32} : ∀ m, (∀ j, j < m → g' j = -1 → g j = -1) → naF g' m ≤ naF g m := by
  intro m
  induction m with
  | zero => intro _; exact Nat.le_refl _
  | succ m ihm =>
    intro h
    have := ihm (fun j hj => h j (by omega))
    rw [naF, naF]
    by_cases c : g' m = -1
    · rw [if_pos c, if_pos (h m (by omega) c)]; omega
    · rw [if_neg c]; split <;> omega
theorem naF_lt {g g' : Nat → Int32} {i : Nat} (h1 : g i = -1) (h2 : ¬ g' i = -1) : ∀ m, i < m → (∀ j, j < m → g' j = -1 → g j = -1) → naF g' m < naF g m := by
  intro m
  induction m with
  | zero => intro h; omega
  | succ m ihm =>
    intro hi h
    rw [naF, naF]
    by_cases e : i = m
    · have := naF_mono m (fun j hj => h j (show j < m + 1 by omega))
      rw [← e, if_neg h2, if_pos h1, e]; omega
    · have := ihm (by omega) (fun j hj => h j (by omega))
      by_cases c : g' m = -1
      · rw [if_pos c, if_pos (h m (by omega) c)]; omega
      · rw [if_neg c]; split <;> omega
theorem naF_upd {g : Nat → Int32} {i : Nat} {v : Int32} (h1 : g i = -1) (h2 : ¬ v = -1) : ∀ m, i < m → naF (upd g i v) m + 1 = naF g m := by
  have same : ∀ m, m ≤ i → naF (upd g i v) m = naF g m := by
    intro m
    induction m with
    | zero => intro _; rfl
    | succ m ihm => intro h; rw [naF, naF, ihm (by omega), pk_un (by omega)]
  intro m
  induction m with
  | zero => intro h; omega
  | succ m ihm =>
    intro hi
    by_cases e : i = m
    · subst e
      rw [naF, naF, pk_us, if_neg h2, if_pos h1, same i (Nat.le_refl _)]
    · rw [naF, naF, pk_un (fun q => e q.symm)]
      have := ihm (by omega)
      split <;> omega
/-- what was given is given once -/
def OnceG (hs : Nat → Nat) (m : Nat) (g : Nat → Int32) : Prop := (∀ j, j < m → ¬ g j = -1 → ∃ x, x < m ∧ g j = nI (hs x) ∧ ¬ g x = -1) ∧ ∀ j k, j < m → k < m → ¬ g j = -1 → g j = g k → j = k
theorem ste_once {d : Nat → Nat → Nat} {hs : Nat → Nat} {m i0 : Nat} {g g' : Nat → Int32} (inj : Inj hs m) (h60 : ∀ j, j < m → hs j < 60) (h : Ste d hs m g i0 g') (ho : OnceG hs m g) : OnceG hs m g' := by
  obtain ⟨h1, h2, ⟨k, k0, ek⟩, h4, h5⟩ := id h
  have hin := fun r => itr_act (d := d) inj h1 h2 r
  have hasg : ∀ r, ¬ g' (itr (Pt d hs m g) r i0) = -1 := fun r q => by
    rw [h4 r] at q
    exact nm1 (h60 _ (hin (r + 1)).1) q
  have hcy : ∀ j, (∃ r, itr (Pt d hs m g) r i0 = j) ∨ (∀ r, ¬ itr (Pt d hs m g) r i0 = j) := fun j => by
    rcases Classical.em (∃ r, itr (Pt d hs m g) r i0 = j) with q | q
    · exact Or.inl q
    · exact Or.inr (fun r z => q ⟨r, z⟩)
  have hold : ∀ x, ¬ g x = -1 → ¬ g' x = -1 := fun x hx => by
    rcases hcy x with ⟨r, e⟩ | q
    · rw [← e]; exact hasg r
    · rw [h5 x q]; exact hx
  -- whom a given field belonged to
  have key : ∀ r j, j < m → (∀ s, ¬ itr (Pt d hs m g) s i0 = j) → ¬ g' (itr (Pt d hs m g) r i0) = g' j := by
    intro r j hj hno q
    rw [h4 r, h5 j hno] at q
    by_cases ga : g j = -1
    · rw [ga] at q; exact nm1 (h60 _ (hin (r + 1)).1) q
    · obtain ⟨x, hx, ex, hxa⟩ := ho.1 j hj ga
      rw [ex] at q
      have hP := hin (r + 1)
      have e1 := (nI_eq (show hs (Pt d hs m g (itr (Pt d hs m g) r i0)) < 2 ^ 31 by have := h60 _ hP.1; rw [itr] at this; omega) (show hs x < 2 ^ 31 by have := h60 _ hx; omega)).mp q
      have e2 := inj _ _ hP.1 hx e1
      rw [itr] at hP
      rw [show Pt d hs m g (itr (Pt d hs m g) r i0) = x from e2] at hP
      exact hxa hP.2
  refine ⟨fun j hj hg => ?_, fun j l hj hl hg e => ?_⟩
  · rcases hcy j with ⟨r, e⟩ | q
    · rw [← e, h4 r]
      exact ⟨_, (hin (r + 1)).1, rfl, hasg (r + 1)⟩
    · rw [h5 j q] at hg ⊢
      obtain ⟨x, hx, ex, hxa⟩ := ho.1 j hj hg
      exact ⟨x, hx, ex, hold x hxa⟩
  · rcases hcy j with ⟨r, ej⟩ | qj
    · rcases hcy l with ⟨s, el⟩ | ql
      · rw [← ej, ← el, h4 r, h4 s] at e
        have e1 := (nI_eq (show hs (Pt d hs m g (itr (Pt d hs m g) r i0)) < 2 ^ 31 by have := h60 _ (hin (r + 1)).1; rw [itr] at this; omega) (show hs (Pt d hs m g (itr (Pt d hs m g) s i0)) < 2 ^ 31 by have := h60 _ (hin (s + 1)).1; rw [itr] at this; omega)).mp e
        have e2 : itr (Pt d hs m g) (r + 1) i0 = itr (Pt d hs m g) (s + 1) i0 := inj _ _ (hin (r + 1)).1 (hin (s + 1)).1 e1
        have e3 := congrArg (itr (Pt d hs m g) (k - 1)) e2
        rw [← itr_add, ← itr_add, show k - 1 + (r + 1) = r + k by omega, show k - 1 + (s + 1) = s + k by omega, itr_add r, itr_add s, ek] at e3
        rw [← ej, ← el]; exact e3
      · rw [← ej] at e; exact absurd e (key r l hl ql)
    · rcases hcy l with ⟨s, el⟩ | ql
      · rw [← el] at e; exact absurd e.symm (key s j hj qj)
      · rw [h5 j qj] at hg
        rw [h5 j qj, h5 l ql] at e
        exact ho.2 j l hj hl hg e
theorem stn_once {d : Nat → Nat → Nat} {hs : Nat → Nat} {m : Nat} (inj : Inj hs m) (h60 : ∀ j, j < m → hs j < 60) : ∀ c g h, Stn d hs m c g h → OnceG hs m g → OnceG hs m h := by
  intro c
  induction c with
  | zero => intro g h s o; rw [Stn] at s; subst s; exact o
  | succ c ihc =>
    intro g h s o
    obtain ⟨i, g1, t1, t2⟩ := s
    exact ihc g1 h t2 (ste_once inj h60 t1 o)
