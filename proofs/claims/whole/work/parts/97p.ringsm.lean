/-! rings, as the reference turns them -/
def eqV (T T1 : St) : Prop := T1.1 = T.1 ∧ T1.2.2 = T.2.2 ∧ ∀ a, ¬ a = 35 → ¬ a = 36 → ¬ a = 37 → T1.2.1 a = T.2.1 a
theorem eqV.eqM {T T1 : St} (h : eqV T T1) : eqM T T1 := ⟨fun k _ => by rw [h.1], fun a ha => h.2.2 a (by omega) (by omega) (by omega), fun j _ => by rw [h.2.2 16 (by omega) (by omega) (by omega)]⟩
theorem eqV.sA {T T1 : St} (h : eqV T T1) {a i : Nat} {v : Int32} (ha : a = 35 ∨ a = 36 ∨ a = 37) : eqV T (sA T1 a i v) := ⟨h.1, h.2.1, fun c h1 h2 h3 => by
  funext j; rw [sA_2, if_neg (by omega), h.2.2 c h1 h2 h3]⟩
def encB (o : Option Nat) : Int32 := match o with
  | none => -1
  | some b => nI b
theorem wantL {np nf m p n i : Nat} {hs : Nat → Nat} {g : Nat → Int32} {S T T1 : St} (hPe : Pe np S T) (hLa : La np nf S T) (hw : RowR np nf m p hs) (inj : Inj hs m) (hq : eqV T T1) (h35 : ∀ j, j < m → T1.2.1 35 j = nI (hs j)) (h36 : ∀ j, j < m → T1.2.1 36 j = g j) (hi : i < m) : ∀ (dd j fu : Nat), j + dd = m → dd < fu → fX11_wanted_L5 n (T.2.1 6 (p + i)) (nI m) T1 (fun x16 x17 => some x16) fu (encB (tpF (dRf T p hs) hs g i j)) (nI j) = some (encB (tpF (dRf T p hs) hs g i m)) := by
  obtain ⟨w1, w2, w3, w4⟩ := id hw
  have h60' := hLa.1
  have e8 := hq.2.2 8 (by omega) (by omega) (by omega)
  intro dd
  induction dd with
  | zero =>
    intro j fu hj hfu
    obtain ⟨fu, rfl⟩ : ∃ g, fu = g + 1 := ⟨fu - 1, by omega⟩
    have e : j = m := by omega
    subst e
    rw [fX11_wanted_L5, if_pos (nI_le (Nat.le_refl _) (by omega))]
  | succ dd ihd =>
    intro j fu hj hfu
    obtain ⟨fu, rfl⟩ : ∃ g, fu = g + 1 := ⟨fu - 1, by omega⟩
    have hjm : j < m := by omega
    have hsj := w4 j hjm
    have h := ihd (j + 1) fu (by omega) (by omega)
    rw [tpF] at h
    rw [fX11_wanted_L5, if_neg (nI_ge hjm (by omega)), ig (show j < 8 by omega) (by omega), cl (show j < 2 ^ 31 by omega), h36 j hjm, nI_1]
    by_cases ga : g j = -1
    · rw [if_pos ga] at h ⊢
      rcases tpF_spec (d := dRf T p hs) (i := i) (g := g) inj j (by omega) with ⟨e, -⟩ | ⟨b, e, hb, -, -⟩
      · rw [e] at h ⊢
        rw [if_pos (show encB none = -1 from rfl)]
        exact h
      · rw [e] at h ⊢
        simp only at h
        have hsb := w4 b (by omega)
        obtain ⟨ab, lb⟩ := abR hPe hLa hw hi (show b < m by omega)
        obtain ⟨aj, lj⟩ := abR hPe hLa hw hi hjm
        obtain ⟨p1, p2, p3⟩ := dif_pos' (a := dRf T p hs i j) (b := dRf T p hs i b) (by omega) (by omega)
        rw [if_neg (show ¬ encB (some b) = -1 from nm1 (by omega))]
        simp only [lt_, encB, ih (show j < 8 by omega) (show 8 < 2 ^ 31 by omega), cl (show b < 2 ^ 31 by omega), ih (show b < 8 by omega) (show 8 < 2 ^ 31 by omega), h35 j hjm, h35 b (by omega), cl (show hs j < 2 ^ 31 by omega), cl (show hs b < 2 ^ 31 by omega), ih (show hs j < 60 by omega) h60, ih (show hs b < 60 by omega) h60, e8, ab, aj]
        by_cases c1 : dRf T p hs i j < dRf T p hs i b
        · rw [if_pos (p2.mpr c1)]
          rw [if_pos (show wm (dRf T p hs) hs i j b from Or.inl c1)] at h
          exact h
        · rw [if_neg (fun q => c1 (p2.mp q))]
          by_cases c2 : dRf T p hs i j = dRf T p hs i b
          · rw [if_pos (p3.mpr c2)]
            by_cases c3 : hs b ≤ hs j
            · rw [if_pos (nI_le c3 (by omega))]
              rw [if_neg (show ¬ wm (dRf T p hs) hs i j b from fun q => by unfold wm at q; omega)] at h
              exact h
            · rw [if_neg (nI_ge (by omega) (by omega))]
              rw [if_pos (show wm (dRf T p hs) hs i j b from Or.inr ⟨c2, by omega⟩)] at h
              exact h
          · rw [if_neg (fun q => c2 (p3.mp q))]
            rw [if_neg (show ¬ wm (dRf T p hs) hs i j b from fun q => by unfold wm at q; omega)] at h
            exact h
    · rw [if_neg ga] at h ⊢
      exact h
theorem wantM {np nf m p n i : Nat} {hs : Nat → Nat} {g : Nat → Int32} {S T T1 : St} (hn : 5000 ≤ n) (hPe : Pe np S T) (hLa : La np nf S T) (hw : RowR np nf m p hs) (inj : Inj hs m) (hq : eqV T T1) (h35 : ∀ j, j < m → T1.2.1 35 j = nI (hs j)) (h36 : ∀ j, j < m → T1.2.1 36 j = g j) (hi : i < m) (ga : g i = -1) : fX11_wanted n T1 (T.2.1 6 (p + i)) (nI m) = some (nI (Pt (dRf T p hs) hs m g i)) := by
  have w3 := hw.2.2.1
  have := wantL (n := n) hPe hLa hw inj hq h35 h36 hi m 0 n (by omega) (by omega)
  unfold fX11_wanted
  rw [show fX11_wanted_L5 n (T.2.1 6 (p + i)) (nI m) T1 (fun x16 x17 => some x16) n (-1) 0 = _ from this]
  unfold Pt
  rcases tpF_spec (d := dRf T p hs) (i := i) (g := g) inj m (Nat.le_refl _) with ⟨e, h⟩ | ⟨b, e, hb, -, -⟩
  · exact absurd ga (h i hi)
  · rw [e]; rfl
/-- what the reference holds while it turns rings -/
def RgM (m : Nat) (hs : Nat → Nat) (g : Nat → Int32) (T T1 : St) : Prop := eqV T T1 ∧ ∀ j, j < m → T1.2.1 35 j = nI (hs j) ∧ T1.2.1 36 j = g j
theorem ptsL {np nf m p n : Nat} {hs : Nat → Nat} {g : Nat → Int32} {S T : St} {x3 x4 : Int32} {K : Int32 → St → Option (Int32 × St)} (hn : 5000 ≤ n) (hPe : Pe np S T) (hLa : La np nf S T) (hw : RowR np nf m p hs) (inj : Inj hs m) : ∀ (dd i fu : Nat) (T1 : St), RgM m hs g T T1 → (∀ j, j < i → g j = -1 → T1.2.1 37 j = nI (Pt (dRf T p hs) hs m g j)) → i + dd = m → dd < fu → ∃ T', fX11_turns_L58 n (nI p) (nI m) x3 x4 K fu (nI i) T1 = K (nI m) T' ∧ RgM m hs g T T' ∧ ∀ j, j < m → g j = -1 → T'.2.1 37 j = nI (Pt (dRf T p hs) hs m g j) := by
  obtain ⟨w1, w2, w3, w4⟩ := id hw
  have h40' := hPe.1
  intro dd
  induction dd with
  | zero =>
    intro i fu T1 hg h37 hi hfu
    obtain ⟨fu, rfl⟩ : ∃ g, fu = g + 1 := ⟨fu - 1, by omega⟩
    have e : i = m := by omega
    subst e
    exact ⟨T1, by rw [fX11_turns_L58, if_pos (nI_le (Nat.le_refl _) (by omega))], hg, h37⟩
  | succ dd ihd =>
    intro i fu T1 hg h37 hi hfu
    obtain ⟨fu, rfl⟩ : ∃ g, fu = g + 1 := ⟨fu - 1, by omega⟩
    have him : i < m := by omega
    have e6 := hg.1.2.2 6 (by omega) (by omega) (by omega)
    have nx : ∀ v : Int32, (g i = -1 → v = nI (Pt (dRf T p hs) hs m g i)) → ∃ T', fX11_turns_L58 n (nI p) (nI m) x3 x4 K fu (nI (i + 1)) (sA T1 37 i v) = K (nI m) T' ∧ RgM m hs g T T' ∧ ∀ j, j < m → g j = -1 → T'.2.1 37 j = nI (Pt (dRf T p hs) hs m g j) := by
      intro v hv
      refine ihd (i + 1) fu (sA T1 37 i v) ⟨hg.1.sA (by omega), fun j hj => ?_⟩ (fun j hj gj => ?_) (by omega) (by omega)
      · rw [sA_2, if_neg (by omega), sA_2, if_neg (by omega)]; exact hg.2 j hj
      · rw [sA_2, if_pos rfl]
        by_cases e : j = i
        · rw [if_pos e, e]; exact hv (by rw [← e]; exact gj)
        · rw [if_neg e]; exact h37 j (by omega) gj
    rw [fX11_turns_L58, if_neg (nI_ge him (by omega)), ig (show i < 8 by omega) (by omega), cl (show i < 2 ^ 31 by omega), (hg.2 i him).2, nI_add, nI_1]
    by_cases ga : g i = -1
    · rw [if_pos ga, ig (show p + i < 40 by omega) (by omega), cl (show p + i < 2 ^ 31 by omega), e6, wantM hn hPe hLa hw inj hg.1 (fun j hj => (hg.2 j hj).1) (fun j hj => (hg.2 j hj).2) him ga, ob_s, ih (show i < 8 by omega) (by omega)]
      exact nx _ (fun _ => rfl)
    · rw [if_neg ga, ih (show i < 8 by omega) (by omega)]
      exact nx _ (fun q => absurd q ga)
theorem fstL {m n x : Nat} {g : Nat → Int32} {T1 : St} {x1 x2 x3 x4 : Int32} {K : Int32 → Option (Int32 × St)} (hm : m ≤ 8) (h36 : ∀ j, j < m → T1.2.1 36 j = g j) (hx : x < m) (gx : g x = -1) (hb : ∀ i, i < x → ¬ g i = -1) : ∀ (dd i fu : Nat), i + dd = x → dd < fu → fX11_turns_L109 n x1 x2 x3 x4 T1 K fu (nI i) = K (nI x) := by
  intro dd
  induction dd with
  | zero =>
    intro i fu hi hfu
    obtain ⟨fu, rfl⟩ : ∃ g, fu = g + 1 := ⟨fu - 1, by omega⟩
    have e : i = x := by omega
    subst e
    rw [fX11_turns_L109, ig (show i < 8 by omega) (by omega), cl (by omega), h36 i hx, if_pos gx]
  | succ dd ihd =>
    intro i fu hi hfu
    obtain ⟨fu, rfl⟩ : ∃ g, fu = g + 1 := ⟨fu - 1, by omega⟩
    rw [fX11_turns_L109, ig (show i < 8 by omega) (by omega), cl (by omega), h36 i (by omega), if_neg (hb i (by omega)), nI_1]
    exact ihd (i + 1) fu (by omega) (by omega)
theorem wlkL {m n x : Nat} {P : Nat → Nat} {g : Nat → Int32} {T1 : St} {x1 x3 x4 : Int32} {K : Int32 → Int32 → Option (Int32 × St)} (hm : m ≤ 8) (hact : ∀ r, itr P r x < m ∧ g (itr P r x) = -1) (h37 : ∀ j, j < m → g j = -1 → T1.2.1 37 j = nI (P j)) : ∀ (dd s fu : Nat), s + dd = m → dd < fu → fX11_turns_L129 n x1 (nI m) x3 x4 T1 K fu (nI (itr P s x)) (nI s) = K (nI (itr P m x)) (nI m) := by
  intro dd
  induction dd with
  | zero =>
    intro s fu hs hfu
    obtain ⟨fu, rfl⟩ : ∃ g, fu = g + 1 := ⟨fu - 1, by omega⟩
    have e : s = m := by omega
    subst e
    rw [fX11_turns_L129, if_pos (nI_le (Nat.le_refl _) (by omega))]
  | succ dd ihd =>
    intro s fu hs hfu
    obtain ⟨fu, rfl⟩ : ∃ g, fu = g + 1 := ⟨fu - 1, by omega⟩
    have h := hact s
    rw [fX11_turns_L129, if_neg (nI_ge (show s < m by omega) (by omega)), ig (show itr P s x < 8 by omega) (by omega), cl (by omega), h37 _ h.1 h.2, nI_1]
    exact ihd (s + 1) fu (by omega) (by omega)
def asg (hs : Nat → Nat) (P : Nat → Nat) (g : Nat → Int32) (i0 : Nat) : Nat → Nat → Int32
  | 0 => g
  | s + 1 => upd (asg hs P g i0 s) (itr P s i0) (nI (hs (P (itr P s i0))))
theorem asg_in {hs P : Nat → Nat} {g : Nat → Int32} {i0 : Nat} : ∀ s r, r < s → asg hs P g i0 s (itr P r i0) = nI (hs (P (itr P r i0))) := by
  intro s
  induction s with
  | zero => intro r hr; omega
  | succ s ihs =>
    intro r hr
    rw [asg]
    by_cases e : itr P r i0 = itr P s i0
    · rw [e, pk_us]
    · rw [pk_un e]
      exact ihs r (by
        rcases Nat.lt_or_ge r s with q | q
        · exact q
        · exact absurd (by rw [show r = s by omega]) e)
theorem asg_out {hs P : Nat → Nat} {g : Nat → Int32} {i0 j : Nat} : ∀ s, (∀ r, r < s → ¬ itr P r i0 = j) → asg hs P g i0 s j = g j := by
  intro s
  induction s with
  | zero => intro _; rfl
  | succ s ihs =>
    intro h
    rw [asg, pk_un (fun q => h s (by omega) q.symm)]
    exact ihs (fun r hr => h r (by omega))
theorem trnL {m n i0 kq : Nat} {hs : Nat → Nat} {P : Nat → Nat} {g : Nat → Int32} {T : St} {x1 x2 x3 : Int32} {K : Int32 → Int32 → St → Option (Int32 × St)} (hm : m ≤ 8) (h60f : ∀ j, j < m → hs j < 60) (hact : ∀ r, itr P r i0 < m ∧ g (itr P r i0) = -1) (k0 : 0 < kq) (ek : itr P kq i0 = i0) (hmin : ∀ r, 0 < r → r < kq → ¬ itr P r i0 = i0) : ∀ (dd s fu : Nat) (T1 : St), RgM m hs (asg hs P g i0 s) T T1 → (∀ j, j < m → g j = -1 → T1.2.1 37 j = nI (P j)) → s + (dd + 1) = kq → dd < fu → ∃ T', fX11_turns_L154 n x1 x2 x3 (nI i0) K fu (nI (naF (asg hs P g i0 s) m)) (nI (itr P s i0)) T1 = K (nI (naF (asg hs P g i0 kq) m)) (nI i0) T' ∧ RgM m hs (asg hs P g i0 kq) T T' := by
  have hi0 : i0 < m := (hact 0).1
  intro dd
  have step : ∀ (s : Nat) (T1 : St), s < kq → RgM m hs (asg hs P g i0 s) T T1 → (∀ j, j < m → g j = -1 → T1.2.1 37 j = nI (P j)) → ∀ fu, fX11_turns_L154 n x1 x2 x3 (nI i0) K (fu + 1) (nI (naF (asg hs P g i0 s) m)) (nI (itr P s i0)) T1 = (if nI (itr P (s + 1) i0) = nI i0 then K (nI (naF (asg hs P g i0 (s + 1)) m)) (nI (itr P (s + 1) i0)) (sA T1 36 (itr P s i0) (nI (hs (P (itr P s i0))))) else fX11_turns_L154 n x1 x2 x3 (nI i0) K fu (nI (naF (asg hs P g i0 (s + 1)) m)) (nI (itr P (s + 1) i0)) (sA T1 36 (itr P s i0) (nI (hs (P (itr P s i0)))))) ∧ RgM m hs (asg hs P g i0 (s + 1)) T (sA T1 36 (itr P s i0) (nI (hs (P (itr P s i0))))) ∧ ∀ j, j < m → g j = -1 → (sA T1 36 (itr P s i0) (nI (hs (P (itr P s i0))))).2.1 37 j = nI (P j) := by
    intro s T1 hs1 hg h37 fu
    have hA := hact s
    have hB := hact (s + 1)
    have hB1 : P (itr P s i0) < m := hB.1
    have hold : asg hs P g i0 s (itr P s i0) = -1 := by
      rw [asg_out s (fun r hr q => ?_)]
      · exact hA.2
      · have e3 := congrArg (itr P (kq - s)) q
        rw [← itr_add, ← itr_add, show kq - s + s = kq by omega, ek] at e3
        exact hmin (kq - s + r) (by omega) (by omega) e3
    have hna := naF_upd (v := nI (hs (P (itr P s i0)))) hold (nm1 (h60f _ hB1)) m hA.1
    refine ⟨?_, ⟨hg.1.sA (by omega), fun j hj => ?_⟩, fun j hj gj => ?_⟩
    · rw [fX11_turns_L154, ig (show itr P s i0 < 8 by omega) (by omega), cl (show itr P s i0 < 2 ^ 31 by omega), h37 _ hA.1 hA.2, ig (show P (itr P s i0) < 8 by omega) (by omega), cl (show P (itr P s i0) < 2 ^ 31 by omega), ih (show itr P s i0 < 8 by omega) (by omega), (hg.2 _ hB1).1]
      simp only [lt_]
      rw [ih (show itr P s i0 < 8 by omega) (by omega), show (sA T1 36 (itr P s i0) (nI (hs (P (itr P s i0))))).2.1 37 (itr P s i0) = nI (P (itr P s i0)) by rw [sA_2, if_neg (by omega)]; exact h37 _ hA.1 hA.2, ← hna, pk_m1]
      rfl
    · rw [sA_2, if_neg (by omega), sA_2, if_pos rfl, asg]
      refine ⟨(hg.2 j hj).1, ?_⟩
      by_cases e : j = itr P s i0
      · rw [if_pos e, e, pk_us]
      · rw [if_neg e, pk_un e]; exact (hg.2 j hj).2
    · rw [sA_2, if_neg (by omega)]; exact h37 j hj gj
  induction dd with
  | zero =>
    intro s fu T1 hg h37 hs' hfu
    obtain ⟨fu, rfl⟩ : ∃ g, fu = g + 1 := ⟨fu - 1, by omega⟩
    obtain ⟨e1, e2, e3⟩ := step s T1 (by omega) hg h37 fu
    have ekq : s + 1 = kq := by omega
    rw [ekq] at e1 e2
    rw [e1, ek, if_pos rfl]
    exact ⟨_, rfl, e2⟩
  | succ dd ihd =>
    intro s fu T1 hg h37 hs' hfu
    obtain ⟨fu, rfl⟩ : ∃ g, fu = g + 1 := ⟨fu - 1, by omega⟩
    obtain ⟨e1, e2, e3⟩ := step s T1 (by omega) hg h37 fu
    have hB := (hact (s + 1)).1
    rw [e1, if_neg (nI_ne (by omega) (by omega) (hmin (s + 1) (by omega) (by omega)))]
    exact ihd (s + 1) fu _ e2 e3 (by omega) (by omega)
theorem turL {np nf m p n : Nat} {hs : Nat → Nat} {G0 : Nat → Int32} {S T : St} (hn : 5000 ≤ n) (hPe : Pe np S T) (hLa : La np nf S T) (hw : RowR np nf m p hs) (inj : Inj hs m) (h60f : ∀ j, j < m → hs j < 60) : ∀ (dd fu c : Nat) (T1 : St) (g : Nat → Int32), RgM m hs g T T1 → Stn (dRf T p hs) hs m c G0 g → naF g m ≤ dd → dd < fu → ∃ T' c' h, fX11_turns_L50 n (nI p) (nI m) (fun x41 x42 S43 => some (x41, S43)) fu (nI c) (nI (naF g m)) T1 = some (nI c', T') ∧ RgM m hs h T T' ∧ Stn (dRf T p hs) hs m c' G0 h ∧ Nrm m h := by
  obtain ⟨w1, w2, w3, w4⟩ := id hw
  intro dd
  have hle : ∀ g : Nat → Int32, naF g m ≤ m := fun g => naF_le m
  induction dd with
  | zero =>
    intro fu c T1 g hg hst hna hfu
    obtain ⟨fu, rfl⟩ : ∃ g, fu = g + 1 := ⟨fu - 1, by omega⟩
    have e : naF g m = 0 := by omega
    refine ⟨T1, c, g, ?_, hg, hst, naF_0 m e⟩
    rw [fX11_turns_L50, e, if_pos (show nI 0 ≤ 0 by decide)]
  | succ dd ihd =>
    intro fu c T1 g hg hst hna hfu
    obtain ⟨fu, rfl⟩ : ∃ g, fu = g + 1 := ⟨fu - 1, by omega⟩
    rcases Nat.eq_zero_or_pos (naF g m) with q | q
    · refine ⟨T1, c, g, ?_, hg, hst, naF_0 m q⟩
      rw [fX11_turns_L50, q, if_pos (show nI 0 ≤ 0 by decide)]
    · have hl := hle g
      obtain ⟨x, x1, x2, x3⟩ := naF_pos m q
      have hact := itr_act (d := dRf T p hs) inj x1 x2
      obtain ⟨kk, k0, km, ek⟩ := into_ring (fun r => (hact r).1)
      obtain ⟨kq, ⟨q0, eq⟩, hmin⟩ := pk_least (fun r => 0 < r ∧ itr (Pt (dRf T p hs) hs m g) r (itr (Pt (dRf T p hs) hs m g) m x) = itr (Pt (dRf T p hs) hs m g) m x) ⟨kk, k0, ek⟩
      have hkq : kq ≤ m := by
        rcases Nat.lt_or_ge m kq with z | z
        · exact absurd ⟨k0, ek⟩ (hmin kk (by omega))
        · exact z
      have hxm := hact m
      have hact2 : ∀ r, itr (Pt (dRf T p hs) hs m g) r (itr (Pt (dRf T p hs) hs m g) m x) < m ∧ g (itr (Pt (dRf T p hs) hs m g) r (itr (Pt (dRf T p hs) hs m g) m x)) = -1 := itr_act (d := dRf T p hs) inj hxm.1 hxm.2
      rw [fX11_turns_L50, if_neg (nI_nle q (by omega))]
      obtain ⟨T2, a1, a2, a3⟩ := ptsL (n := n) (x3 := nI c) (x4 := nI (naF g m)) (K := fun x21 S22 => fX11_turns_L109 n (nI p) (nI m) (nI c) (nI (naF g m)) S22 (fun x25 => fX11_turns_L129 n (nI p) (nI m) (nI c) (nI (naF g m)) S22 (fun x29 x30 => fX11_turns_L154 n (nI p) (nI m) (nI c) x29 (fun x38 x39 S40 => fX11_turns_L50 n (nI p) (nI m) (fun x41 x42 S43 => some (x41, S43)) fu (nI c + 1) x38 S40) n (nI (naF g m)) x29 S22) n x25 0) n 0) hn hPe hLa hw inj m 0 n T1 hg (fun j hj => by omega) (by omega) (by omega)
      rw [show fX11_turns_L58 n (nI p) (nI m) (nI c) (nI (naF g m)) _ n 0 T1 = _ from a1]
      rw [show fX11_turns_L109 n (nI p) (nI m) (nI c) (nI (naF g m)) T2 _ n 0 = _ from fstL (n := n) (x := x) w3 (fun j hj => (a2.2 j hj).2) x1 x2 x3 x 0 n (by omega) (by omega)]
      rw [show fX11_turns_L129 n (nI p) (nI m) (nI c) (nI (naF g m)) T2 _ n (nI x) 0 = _ from wlkL (n := n) (x := x) w3 hact a3 m 0 n (by omega) (by omega)]
      generalize hi0 : itr (Pt (dRf T p hs) hs m g) m x = i0 at *
      obtain ⟨T3, b1, b2⟩ := trnL (n := n) (x1 := nI p) (x2 := nI m) (x3 := nI c) (K := fun x38 x39 S40 => fX11_turns_L50 n (nI p) (nI m) (fun x41 x42 S43 => some (x41, S43)) fu (nI c + 1) x38 S40) w3 h60f hact2 q0 eq (fun r r0 hr z => hmin r hr ⟨r0, z⟩) (kq - 1) 0 n T2 a2 a3 (by omega) (by omega)
      rw [show fX11_turns_L154 n (nI p) (nI m) (nI c) (nI i0) _ n (nI (naF g m)) (nI i0) T2 = _ from b1, nI_1]
      have hste : Ste (dRf T p hs) hs m g i0 (asg hs (Pt (dRf T p hs) hs m g) g i0 kq) := by
        refine ⟨(hact2 0).1, (hact2 0).2, ⟨kq, q0, eq⟩, fun r => ?_, fun j hj => ?_⟩
        · rw [itr_mod eq r]; exact asg_in kq _ (Nat.mod_lt _ q0)
        · exact asg_out kq (fun r _ => hj r)
      refine ihd fu (c + 1) T3 _ b2 (stn_add c 1 G0 g _ hst (stn_one hste)) ?_ (by omega)
      have h1 := naF_lt (g := g) (g' := asg hs (Pt (dRf T p hs) hs m g) g i0 kq) (hact2 0).2 (fun z => by
        have := asg_in (hs := hs) (P := Pt (dRf T p hs) hs m g) (g := g) (i0 := i0) kq 0 q0
        rw [this] at z
        exact nm1 (h60f _ (hact2 1).1) z) m (hact2 0).1 (fun j _ => hste.sub inj h60f j)
      omega
theorem setM {np nf nt td tl kp k n m p : Nat} {S T : St} {Fn : Nat → Nat → Int32} {K : Int32 → St → Option (Int32 × St)} (hn : 5000 ≤ n) (hR : RelP np nf nt td tl kp S k Fn T) (hm : m ≤ 8) : ∀ (dd i fu : Nat) (T1 : St), eqV T T1 → (∀ j, j < i → ¬ hvf T nt nf p j = -1 ∧ T1.2.1 35 j = hvf T nt nf p j ∧ T1.2.1 36 j = -1) → i + dd = m → dd < fu → (∃ T', (∃ j, j < m ∧ hvf T nt nf p j = -1) ∧ fX11_turns_L2 n (nI p) (nI m) K fu (nI i) T1 = some (-1, T') ∧ eqV T T') ∨ ∃ T', fX11_turns_L2 n (nI p) (nI m) K fu (nI i) T1 = K (nI m) T' ∧ eqV T T' ∧ ∀ j, j < m → ¬ hvf T nt nf p j = -1 ∧ T'.2.1 35 j = hvf T nt nf p j ∧ T'.2.1 36 j = -1 := by
  intro dd
  induction dd with
  | zero =>
    intro i fu T1 hq hall hi hfu
    obtain ⟨fu, rfl⟩ : ∃ g, fu = g + 1 := ⟨fu - 1, by omega⟩
    have e : i = m := by omega
    subst e
    right
    exact ⟨T1, by rw [fX11_turns_L2, if_pos (nI_le (Nat.le_refl _) (by omega))], hq, hall⟩
  | succ dd ihd =>
    intro i fu T1 hq hall hi hfu
    obtain ⟨fu, rfl⟩ : ∃ g, fu = g + 1 := ⟨fu - 1, by omega⟩
    have hR1 : RelP np nf nt td tl kp S k Fn T1 := hR.congr (eqX.rf S) hq.eqM
    have h60' := hR.2.2.1.1
    have hof : ∀ f, own T1 f nt = own T f nt := fun f => own_congr (hq.2.2 12 (by omega) (by omega) (by omega)) (hq.2.2 13 (by omega) (by omega) (by omega)) (hq.2.2 14 (by omega) (by omega) (by omega)) f nt
    have hfo : ∀ q x, fof T1 nt q x = fof T nt q x := by
      intro q x
      induction x with
      | zero => rfl
      | succ x ihx => rw [fof, fof, ihx, hof]
    have hf : fX11_firstOf n T1 (nI p + nI i) = some (hvf T nt nf p i) := by
      rw [nI_add]
      have := firM (q := nI (p + i)) hn hR1.2.2.1 hR1.2.2.2.1 nf 0 n (by omega) (by omega) rfl
      rw [hfo] at this
      exact this
    rw [fX11_turns_L2, if_neg (nI_ge (show i < m by omega) (by omega)), hf, ob_s, ig (show i < 8 by omega) (by omega), cl (show i < 2 ^ 31 by omega)]
    simp only [lt_, ih (show i < 8 by omega) (show 8 < 2 ^ 31 by omega), nI_1]
    rw [show (sA (sA T1 35 i (hvf T nt nf p i)) 36 i (-1)).2.1 35 i = hvf T nt nf p i by simp [sA_2]]
    have hq2 : eqV T (sA (sA T1 35 i (hvf T nt nf p i)) 36 i (-1)) := (hq.sA (by omega)).sA (by omega)
    by_cases c : hvf T nt nf p i = -1
    · left
      rw [if_pos c]
      exact ⟨_, ⟨i, by omega, c⟩, rfl, hq2⟩
    · rw [if_neg c]
      refine ihd (i + 1) fu _ hq2 (fun j hj => ?_) (by omega) (by omega)
      by_cases e : j = i
      · subst e
        simp [sA_2]
        exact c
      · simp [sA_2, e]
        exact hall j (by omega)
theorem turnsM {np nf nt td tl kp k n m p : Nat} {S T : St} {Fn : Nat → Nat → Int32} (hn : 5000 ≤ n) (hpm : p + m ≤ np) (hm2 : 2 ≤ m) (hm : m ≤ 8) (hR : RelP np nf nt td tl kp S k Fn T) : (∃ T', (∃ j, j < m ∧ hvf T nt nf p j = -1) ∧ fX11_turns n T (nI p) (nI m) = some (-1, T') ∧ eqV T T') ∨ ∃ T' c h, (∀ j, j < m → ¬ hvf T nt nf p j = -1) ∧ fX11_turns n T (nI p) (nI m) = some (nI c, T') ∧ RgM m (hsf T nt nf p) h T T' ∧ Stn (dRf T p (hsf T nt nf p)) (hsf T nt nf p) m c (g0f m) h ∧ Nrm m h := by
  have h60' := hR.2.2.1.1
  have h40' := hR.1.1
  unfold fX11_turns
  rcases setM (n := n) (p := p) (K := fun x9 S10 => fX11_turns_L50 n (nI p) (nI m) (fun x41 x42 S43 => some (x41, S43)) n 0 (nI m) S10) hn hR hm m 0 n T ⟨rfl, rfl, fun _ _ _ _ => rfl⟩ (fun j hj => by omega) (by omega) (by omega) with ⟨T', e1, e2, e3⟩ | ⟨T1, e1, e2, e5⟩
  · left; exact ⟨T', e1, e2, e3⟩
  · right
    have hw : RowR np nf m p (hsf T nt nf p) := ⟨hpm, hm2, hm, fun j hj => (hvf_ok h60' (e5 j hj).1).1⟩
    have inj : Inj (hsf T nt nf p) m := fun a b ha hb e => by
      have ea := (hvf_ok h60' (e5 a ha).1).2.2
      have eb := (hvf_ok h60' (e5 b hb).1).2.2
      rw [e, eb] at ea
      have := (nI_eq (by omega) (by omega)).mp ea
      omega
    have hna : ∀ x, x ≤ m → naF (g0f m) x = x := by
      intro x
      induction x with
      | zero => intro _; rfl
      | succ x ihx => intro hx; rw [naF, if_pos (show g0f m x = -1 by unfold g0f; rw [if_pos (by omega)]), ihx (by omega)]
    obtain ⟨T2, c, h, r1, r2, r3, r4⟩ := turL (n := n) (G0 := g0f m) hn hR.1 hR.2.2.1 hw inj (fun j hj => by have := hw.2.2.2 j hj; omega) m n 0 T1 (g0f m) ⟨e2, fun j hj => ⟨by rw [(e5 j hj).2.1]; exact (hvf_ok h60' (e5 j hj).1).2.1, by rw [(e5 j hj).2.2]; unfold g0f; rw [if_pos hj]⟩⟩ rfl (by rw [hna m (Nat.le_refl _)]; omega) (by omega)
    rw [hna m (Nat.le_refl _)] at r1
    exact ⟨T2, c, h, fun j hj => (e5 j hj).1, by rw [← r1]; exact e1, r2, r3, r4⟩
