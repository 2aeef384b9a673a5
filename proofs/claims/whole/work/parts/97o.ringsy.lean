theorem lo_eq {P : Nat → Nat} {i l l' : Nat} (h : isLo P i l) (h' : isLo P i l') : l = l' := by
  obtain ⟨⟨r, e⟩, h2⟩ := h
  obtain ⟨⟨r', e'⟩, h2'⟩ := h'
  have a := h2 r'
  have b := h2' r
  omega
/-- in one ring all have the same least -/
theorem lo_orb {P : Nat → Nat} {i a l : Nat} (hc : onC P i) (h : isLo P i l) : isLo P (itr P a i) l := by
  obtain ⟨⟨r, e⟩, h2⟩ := h
  obtain ⟨k, k0, ek⟩ := hc
  refine ⟨⟨r + a * (k - 1), by rw [itr_add, itr_back k0 ek, e]⟩, fun s => ?_⟩
  rw [← itr_add]; exact h2 _
theorem onC_orb {P : Nat → Nat} {i a : Nat} (hc : onC P i) : onC P (itr P a i) := by
  obtain ⟨k, k0, ek⟩ := hc
  exact ⟨k, k0, by rw [← itr_add, Nat.add_comm, itr_add, ek]⟩
theorem orb_back {P : Nat → Nat} {i a : Nat} (hc : onC P i) : ∃ b, itr P b (itr P a i) = i := by
  obtain ⟨k, k0, ek⟩ := hc
  exact ⟨_, itr_back k0 ek a⟩
theorem lo_ex {P : Nat → Nat} (i : Nat) : ∃ l, isLo P i l := by
  obtain ⟨l, h1, h2⟩ := pk_least (fun x => ∃ r, itr P r i = x) ⟨i, 0, rfl⟩
  refine ⟨l, h1, fun r => ?_⟩
  rcases Nat.lt_or_ge (itr P r i) l with q | q
  · exact absurd ⟨r, rfl⟩ (h2 _ q)
  · exact q
theorem leaveL {np nf nt td tl kp k n m p : Nat} {hs : Nat → Nat} {g G0 : Nat → Int32} {T : St} {Fn : Nat → Nat → Int32} (hn : 5000 ≤ n) (hw : RowR np nf m p hs) (inj : Inj hs m) (h60f : ∀ j, j < m → hs j < 60) (hsup : ∀ j, g j = -1 → j < m) : ∀ (dd i fu c : Nat) (S1 : St) (h : Nat → Int32), RelP np nf nt td tl kp S1 k Fn T → RgX m p hs S1 T → (∀ j, j < m → g j = -1 → S1.2.1 29 j = nI (Pt (dRf T p hs) hs m g j)) → (∀ j, j < i → g j = -1 → onC (Pt (dRf T p hs) hs m g) j → S1.2.1 28 j = nI (hs (Pt (dRf T p hs) hs m g j))) → (∀ j, j < m → ¬ (j < i ∧ g j = -1 ∧ onC (Pt (dRf T p hs) hs m g) j) → S1.2.1 28 j = g j) → S1.1 20 = nI c → Stn (dRf T p hs) hs m c G0 h → (∀ j l, g j = -1 → onC (Pt (dRf T p hs) hs m g) j → isLo (Pt (dRf T p hs) hs m g) j l → l < i → h j = nI (hs (Pt (dRf T p hs) hs m g j))) → (∀ j, (∀ l, g j = -1 → onC (Pt (dRf T p hs) hs m g) j → isLo (Pt (dRf T p hs) hs m g) j l → ¬ l < i) → h j = g j) → i + dd = m → dd < fu → ∃ S' c' h', fX6_leaveInRings_L2 n (fun x13 S14 => some S14) fu (nI i) S1 = some S' ∧ RelP np nf nt td tl kp S' k Fn T ∧ RgX m p hs S' T ∧ (∀ j, j < m → S'.2.1 28 j = h' j) ∧ S'.1 20 = nI c' ∧ Stn (dRf T p hs) hs m c' G0 h' ∧ (∀ j, h' j = -1 → g j = -1) ∧ ∀ j, g j = -1 → onC (Pt (dRf T p hs) hs m g) j → ¬ h' j = -1 := by
  obtain ⟨w1, w2, w3, w4⟩ := id hw
  generalize hP : Pt (dRf T p hs) hs m g = P
  have hact : ∀ {x}, x < m → g x = -1 → ∀ r, itr P r x < m ∧ g (itr P r x) = -1 := fun hx gx r => by
    have := itr_act (d := dRf T p hs) inj hx gx r
    rw [hP] at this; exact this
  intro dd
  induction dd with
  | zero =>
    intro i fu c S1 h hR hg h29 hA1 hA2 h20 hst hH1 hH2 hi hfu
    obtain ⟨fu, rfl⟩ : ∃ g, fu = g + 1 := ⟨fu - 1, by omega⟩
    have e : i = m := by omega
    subst e
    have hlo : ∀ j l, g j = -1 → isLo P j l → l < i := fun j l gj hl => by
      have h1 := hl.2 0
      have h2 := hsup j gj
      have h3 : itr P 0 j = j := rfl
      omega
    have hin : ∀ j, g j = -1 → onC P j → h j = nI (hs (P j)) := fun j gj hc => by
      obtain ⟨l, hl⟩ := lo_ex (P := P) j
      exact hH1 j l gj hc hl (hlo j l gj hl)
    have hout : ∀ j, ¬ (g j = -1 ∧ onC P j) → h j = g j := fun j q => hH2 j (fun l gj hc _ => absurd ⟨gj, hc⟩ q)
    refine ⟨S1, c, h, by rw [fX6_leaveInRings_L2, hg.1, if_pos (nI_le (Nat.le_refl _) (by omega))], hR, hg, fun j hj => ?_, h20, hst, fun j hj => ?_, fun j gj hc q => ?_⟩
    · rcases Classical.em (g j = -1 ∧ onC P j) with q | q
      · rw [hA1 j hj q.1 q.2, hin j q.1 q.2]
      · rw [hA2 j hj (fun z => q z.2), hout j q]
    · rcases Classical.em (g j = -1 ∧ onC P j) with q | q
      · exact q.1
      · rw [hout j q] at hj; exact hj
    · rw [hin j gj hc] at q
      have := hact (hsup j gj) gj 1
      exact nm1 (h60f _ this.1) q
  | succ dd ihd =>
    intro i fu c S1 h hR hg h29 hA1 hA2 h20 hst hH1 hH2 hi hfu
    obtain ⟨fu, rfl⟩ : ∃ g, fu = g + 1 := ⟨fu - 1, by omega⟩
    have him : i < m := by omega
    have e28 : S1.2.1 28 i = g i := hA2 i him (fun z => by omega)
    -- nobody's least is i: what was rung stays
    have same : (∀ j, g j = -1 → onC P j → ¬ isLo P j i) → (∀ j l, g j = -1 → onC P j → isLo P j l → l < i + 1 → h j = nI (hs (P j))) ∧ (∀ j, (∀ l, g j = -1 → onC P j → isLo P j l → ¬ l < i + 1) → h j = g j) := by
      intro hno
      refine ⟨fun j l gj hc hl hlt => ?_, fun j hj => ?_⟩
      · by_cases e : l = i
        · rw [e] at hl; exact absurd hl (hno j gj hc)
        · exact hH1 j l gj hc hl (by omega)
      · exact hH2 j (fun l gj hc hl hlt => hj l gj hc hl (by omega))
    rw [fX6_leaveInRings_L2, hg.1, if_neg (nI_ge him (by omega)), ig (show i < 8 by omega) (by omega), cl (show i < 2 ^ 31 by omega), e28, nI_1]
    by_cases ga : g i = -1
    · rw [if_pos ga]
      have h29' : ∀ j, j < m → g j = -1 → S1.2.1 29 j = nI (Pt (dRf T p hs) hs m g j) := by rw [hP]; exact h29
      rcases leastX2 hn hw inj hg h29' him ga with ⟨hc, l, hl, el⟩ | ⟨hc, el⟩
      · rw [hP] at hc hl
        have hPi := hact him ga 1
        have hPi1 : P i < m := hPi.1
        have hl0 := hl.2 0
        have hl0' : l ≤ i := hl0
        rw [el, ob_s, if_neg (nm1 (by omega)), ih (show i < 8 by omega) (by omega), h29 i him ga, ig (show P i < 8 by omega) (by omega), ih (show i < 8 by omega) (by omega), cl (show P i < 2 ^ 31 by omega), (hg.2 (P i) hPi1).2.1]
        simp only [lt_]
        have hot : ∀ a j, ¬ a = 28 → (sA S1 28 i (nI (hs (P i)))).2.1 a j = S1.2.1 a j := fun a j ha => by rw [sA_2, if_neg ha]
        have hg2 : RgX m p hs (sA S1 28 i (nI (hs (P i)))) T := ⟨hg.1, fun j hj => by rw [hot 25 j (by omega), hot 26 j (by omega), hot 27 j (by omega)]; exact hg.2 j hj⟩
        have hB1 : ∀ j, j < i + 1 → g j = -1 → onC P j → (sA S1 28 i (nI (hs (P i)))).2.1 28 j = nI (hs (P j)) := fun j hj gj hc' => by
          rw [sA_2, if_pos rfl]
          by_cases e : j = i
          · rw [if_pos e, e]
          · rw [if_neg e]; exact hA1 j (by omega) gj hc'
        have hB2 : ∀ j, j < m → ¬ (j < i + 1 ∧ g j = -1 ∧ onC P j) → (sA S1 28 i (nI (hs (P i)))).2.1 28 j = g j := fun j hj q => by
          have e : ¬ j = i := fun e => q ⟨by omega, by rw [e]; exact ga, by rw [e]; exact hc⟩
          rw [sA_2, if_pos rfl, if_neg e]
          exact hA2 j hj (fun z => q ⟨by omega, z.2⟩)
        have hR2 : RelP np nf nt td tl kp (sA S1 28 i (nI (hs (P i)))) k Fn T := hR.congr (eqX_sA (by omega)) (eqM.rf T)
        by_cases eli : l = i
        · subst eli
          rw [if_pos rfl]
          have hnotlt : ∀ a l', isLo P (itr P a l) l' → ¬ l' < l := fun a l' hl' q => by
            have := lo_eq hl' (lo_orb hc hl); omega
          have hhk : ∀ a, h (itr P a l) = -1 := fun a => by
            rw [hH2 _ (fun l' _ _ hl' => hnotlt a l' hl')]
            exact (hact him ga a).2
          have hsub : ∀ j, h j = -1 → g j = -1 := fun j hj => by
            rcases Classical.em (∃ l', g j = -1 ∧ onC P j ∧ isLo P j l' ∧ l' < l) with ⟨l', q1, q2, q3, q4⟩ | q
            · exact q1
            · rw [hH2 j (fun l' q1 q2 q3 q4 => q ⟨l', q1, q2, q3, q4⟩)] at hj; exact hj
          have hrk := ring_keep (d := dRf T p hs) inj him ga hsub (fun r => by rw [hP]; exact hhk r)
          rw [hP] at hrk
          classical
          have hste : Ste (dRf T p hs) hs m h l (fun j => if ∃ r, itr P r l = j then nI (hs (P j)) else h j) := by
            refine ⟨him, hhk 0, ?_, fun r => ?_, fun j hj => ?_⟩
            · obtain ⟨k, k0, ek⟩ := hc
              exact ⟨k, k0, by rw [(hrk k).1]; exact ek⟩
            · rw [(hrk r).1, (hrk r).2]; exact if_pos ⟨r, rfl⟩
            · exact if_neg (fun q => hj q.choose (by rw [(hrk _).1]; exact q.choose_spec))
          have hstn := stn_add c 1 G0 h _ hst (stn_one hste)
          refine ihd (l + 1) fu (c + 1) _ _ (hR2.congr (eqX_sS (by omega)) (eqM.rf T)) ⟨hg2.1, hg2.2⟩ (fun j hj gj => ?_) hB1 hB2 ?_ hstn (fun j l' gj hc' hl' hlt => ?_) (fun j hj => ?_) (by omega) (by omega)
          · rw [sS_2, hot 29 j (by omega)]; exact h29 j hj gj
          · rw [sS_1, if_pos rfl, sA_1, h20, nI_1]
          · by_cases e : l' = l
            · subst e
              obtain ⟨⟨a, ea⟩, -⟩ := hl'
              obtain ⟨b, eb⟩ := orb_back (a := a) hc'
              rw [ea] at eb
              rw [if_pos ⟨b, eb⟩]
            · have e2 := hH1 j l' gj hc' hl' (by omega)
              split
              · rfl
              · exact e2
          · have hnot : ¬ ∃ r, itr P r l = j := fun ⟨r, er⟩ => by
              have h1 := (hact him ga r).2
              rw [er] at h1
              have h2 := onC_orb (a := r) hc
              rw [er] at h2
              have h3 := lo_orb (a := r) hc hl
              rw [er] at h3
              exact hj l h1 h2 h3 (by omega)
            rw [if_neg hnot]
            exact hH2 j (fun l' gj hc' hl' hlt => hj l' gj hc' hl' (by omega))
        · rw [if_neg (nI_ne (by omega) (by omega) eli)]
          have hno : ∀ j, g j = -1 → onC P j → ¬ isLo P j i := by
            intro j gj hcj hlj
            obtain ⟨⟨a, ea⟩, hm⟩ := hlj
            have h3 := lo_orb (a := a) hcj (l := i) ⟨⟨a, ea⟩, hm⟩
            rw [ea] at h3
            exact eli (lo_eq hl h3)
          obtain ⟨s1, s2⟩ := same hno
          exact ihd (i + 1) fu c _ h hR2 hg2 (fun j hj gj => by rw [hot 29 j (by omega)]; exact h29 j hj gj) hB1 hB2 h20 hst s1 s2 (by omega) (by omega)
      · rw [hP] at hc
        rw [el, ob_s, if_pos rfl]
        have hno : ∀ j, g j = -1 → onC P j → ¬ isLo P j i := by
          intro j gj hcj hlj
          obtain ⟨⟨a, ea⟩, -⟩ := hlj
          have h3 := onC_orb (a := a) hcj
          rw [ea] at h3
          exact hc h3
        obtain ⟨s1, s2⟩ := same hno
        refine ihd (i + 1) fu c S1 h hR hg h29 (fun j hj gj hcj => ?_) (fun j hj q => ?_) h20 hst s1 s2 (by omega) (by omega)
        · by_cases e : j = i
          · rw [e] at hcj; exact absurd hcj hc
          · exact hA1 j (by omega) gj hcj
        · exact hA2 j hj (fun z => q ⟨by omega, z.2⟩)
    · rw [if_neg ga]
      have hno : ∀ j, g j = -1 → onC P j → ¬ isLo P j i := by
        intro j gj hcj hlj
        obtain ⟨⟨a, ea⟩, -⟩ := hlj
        have h3 := (hact (hsup j gj) gj a).2
        rw [ea] at h3
        exact ga h3
      obtain ⟨s1, s2⟩ := same hno
      refine ihd (i + 1) fu c S1 h hR hg h29 (fun j hj gj hcj => ?_) (fun j hj q => ?_) h20 hst s1 s2 (by omega) (by omega)
      · by_cases e : j = i
        · rw [e] at gj; exact absurd gj ga
        · exact hA1 j (by omega) gj hcj
      · exact hA2 j hj (fun z => q ⟨by omega, z.2⟩)
theorem roundL {np nf nt td tl kp k n m p : Nat} {hs : Nat → Nat} {G0 : Nat → Int32} {T : St} {Fn : Nat → Nat → Int32} (hn : 5000 ≤ n) (hw : RowR np nf m p hs) (inj : Inj hs m) (h60f : ∀ j, j < m → hs j < 60) : ∀ (dd i fu c : Nat) (S1 : St) (g : Nat → Int32), RelP np nf nt td tl kp S1 k Fn T → RgX m p hs S1 T → (∀ j, j < m → S1.2.1 28 j = g j) → S1.1 20 = nI c → Stn (dRf T p hs) hs m c G0 g → (∀ j, g j = -1 → j < m) → naF g m ≤ dd → i + dd = m → dd < fu → ∃ S' c' h', fX6_close_L119 n (fun x27 S28 => some (1, S28)) fu (nI i) S1 = some (1, S') ∧ RelP np nf nt td tl kp S' k Fn T ∧ RgX m p hs S' T ∧ (∀ j, j < m → S'.2.1 28 j = h' j) ∧ S'.1 20 = nI c' ∧ Stn (dRf T p hs) hs m c' G0 h' ∧ Nrm m h' := by
  obtain ⟨w1, w2, w3, w4⟩ := id hw
  intro dd
  induction dd with
  | zero =>
    intro i fu c S1 g hR hg h28 h20 hst hsup hna hi hfu
    obtain ⟨fu, rfl⟩ : ∃ g, fu = g + 1 := ⟨fu - 1, by omega⟩
    have e : i = m := by omega
    subst e
    exact ⟨S1, c, g, by rw [fX6_close_L119, hg.1, if_pos (nI_le (Nat.le_refl _) (by omega))], hR, hg, h28, h20, hst, naF_0 i (by omega)⟩
  | succ dd ihd =>
    intro i fu c S1 g hR hg h28 h20 hst hsup hna hi hfu
    obtain ⟨fu, rfl⟩ : ∃ g, fu = g + 1 := ⟨fu - 1, by omega⟩
    obtain ⟨S2, a1, a2, a3, a4, a5, a6⟩ := pointL (n := n) (g := g) hn hw inj m 0 n S1 hR hg h28 (fun j hj => by omega) (by omega) (by omega)
    obtain ⟨S3, c3, h3, b1, b2, b3, b4, b5, b6, b7, b8⟩ := leaveL (n := n) (G0 := G0) hn hw inj h60f hsup m 0 n c S2 g a2 a3 a6 (fun j hj => by omega) (fun j hj _ => a4 j hj) (by rw [a5]; exact h20) hst (fun j l _ _ _ hl => by omega) (fun j _ => rfl) (by omega) (by omega)
    rw [fX6_close_L119, hg.1, if_neg (nI_ge (show i < m by omega) (by omega)), show fX6_point n S1 = some S2 from a1, ob_s, show fX6_leaveInRings n S2 = some S3 from b1, ob_s, nI_1]
    refine ihd (i + 1) fu c3 S3 h3 b2 b3 b4 b5 b6 (fun j hj => hsup j (b7 j hj)) ?_ (by omega) (by omega)
    rcases Nat.eq_zero_or_pos (naF g m) with q | q
    · have := naF_mono m (fun j (_ : j < m) => b7 j); omega
    · obtain ⟨x, x1, x2, -⟩ := naF_pos m q
      have hact := itr_act (d := dRf T p hs) inj x1 x2
      obtain ⟨kk, k0, -, ek⟩ := into_ring (fun r => (hact r).1)
      have hx := hact m
      have := naF_lt hx.2 (b8 _ hx.2 ⟨kk, k0, ek⟩) m hx.1 (fun j _ => b7 j)
      omega
def g0f (m : Nat) : Nat → Int32 := fun j => if j < m then -1 else 0
theorem setX {np nf nt td tl kp k n m p : Nat} {T : St} {Fn : Nat → Nat → Int32} {K : Int32 → St → Option (Int32 × St)} (hn : 5000 ≤ n) (hpm : p + m ≤ np) (hm : m ≤ 8) : ∀ (dd i fu : Nat) (S1 : St), RelP np nf nt td tl kp S1 k Fn T → S1.1 19 = nI m → S1.1 20 = 0 → (∀ j, j < i → ¬ hvf T nt nf p j = -1 ∧ S1.2.1 25 j = T.2.1 6 (p + j) ∧ S1.2.1 26 j = hvf T nt nf p j ∧ S1.2.1 27 j = T.2.1 8 (hsf T nt nf p j) ∧ S1.2.1 28 j = -1) → i + dd = m → dd < fu → (∃ S', (∃ j, j < m ∧ hvf T nt nf p j = -1) ∧ fX6_close_L22 n (nI p) K fu (nI i) S1 = some (0, S') ∧ RelP np nf nt td tl kp S' k Fn T) ∨ ∃ S', fX6_close_L22 n (nI p) K fu (nI i) S1 = K (nI m) S' ∧ RelP np nf nt td tl kp S' k Fn T ∧ S'.1 19 = nI m ∧ S'.1 20 = 0 ∧ ∀ j, j < m → ¬ hvf T nt nf p j = -1 ∧ S'.2.1 25 j = T.2.1 6 (p + j) ∧ S'.2.1 26 j = hvf T nt nf p j ∧ S'.2.1 27 j = T.2.1 8 (hsf T nt nf p j) ∧ S'.2.1 28 j = -1 := by
  intro dd
  induction dd with
  | zero =>
    intro i fu S1 hR h19 h20 hall hi hfu
    obtain ⟨fu, rfl⟩ : ∃ g, fu = g + 1 := ⟨fu - 1, by omega⟩
    have e : i = m := by omega
    subst e
    right
    exact ⟨S1, by rw [fX6_close_L22, h19, if_pos (nI_le (Nat.le_refl _) (by omega))], hR, h19, h20, hall⟩
  | succ dd ihd =>
    intro i fu S1 hR h19 h20 hall hi hfu
    obtain ⟨fu, rfl⟩ : ∃ g, fu = g + 1 := ⟨fu - 1, by omega⟩
    obtain ⟨hPe, hKi, hLa, hTr, hTa, hLw, hPr, hSl⟩ := id hR
    have h60' := hLa.1
    have h40' := hPe.1
    have hh : fX4_homeOf S1 (nI p + nI i) = some (T.2.1 6 (p + i)) := by
      unfold fX4_homeOf
      rw [nI_add, (has1 hPe (show p + i < np by omega)).1, ob_s, i10, ig (show p + i < 40 by omega) (by omega), cl (by omega), (hPe.2.2.2 (p + i) (by omega)).2.1]
    have hR1 : RelP np nf nt td tl kp (sA S1 25 i (T.2.1 6 (p + i))) k Fn T := hR.congr (eqX_sA (by omega)) (eqM.rf T)
    have hf : fX2_firstFieldOf n (sA S1 25 i (T.2.1 6 (p + i))) (nI p + nI i) = some (hvf T nt nf p i) := by
      rw [nI_add]
      exact firX hR1.2.2.1 hR1.2.2.2.1 nf 0 n (by omega) (by omega) rfl
    have e26 : ∀ (U : St) (v : Int32), (sA U 26 i v).2.1 26 i = v := fun U v => by rw [sA_2, if_pos rfl, if_pos rfl]
    have hR2 : RelP np nf nt td tl kp (sA (sA S1 25 i (T.2.1 6 (p + i))) 26 i (hvf T nt nf p i)) k Fn T := hR1.congr (eqX_sA (by omega)) (eqM.rf T)
    rw [fX6_close_L22, h19, if_neg (nI_ge (show i < m by omega) (by omega)), hh, ob_s, ig (show i < 8 by omega) (by omega), cl (show i < 2 ^ 31 by omega)]
    simp only [lt_]
    rw [hf, ob_s]
    simp only [ih (show i < 8 by omega) (show 8 < 2 ^ 31 by omega), e26, nI_1]
    by_cases c : hvf T nt nf p i = -1
    · left
      rw [if_pos c]
      exact ⟨_, ⟨i, by omega, c⟩, rfl, hR2⟩
    · rw [if_neg c]
      obtain ⟨o1, o2, o3⟩ := hvf_ok h60' c
      have hpl : fX2_placeOf (sA (sA S1 25 i (T.2.1 6 (p + i))) 26 i (hvf T nt nf p i)) (hvf T nt nf p i) = some (T.2.1 8 (hsf T nt nf p i)) := by
        rw (occs := .pos [2]) [o2]
        exact placeX hR2.2.2.1 o1
      rw [hpl, ob_s]
      refine ihd (i + 1) fu _ (((hR2.congr (eqX_sA (a := 27) (by omega)) (eqM.rf T)).congr (eqX_sA (a := 28) (by omega)) (eqM.rf T)).congr (eqX_sA (a := 29) (by omega)) (eqM.rf T)) h19 h20 (fun j hj => ?_) (by omega) (by omega)
      by_cases e : j = i
      · subst e
        simp [sA_2]
        exact c
      · simp [sA_2, e]
        exact hall j (by omega)
theorem closeX {np nf nt td tl kp k n m p : Nat} {S T : St} {Fn : Nat → Nat → Int32} (hn : 5000 ≤ n) (hpm : p + m ≤ np) (hm2 : 2 ≤ m) (hm : m ≤ 8) (hR : RelP np nf nt td tl kp S k Fn T) : (∃ S', (∃ j, j < m ∧ hvf T nt nf p j = -1) ∧ fX6_close n S (nI p) (nI m) = some (0, S') ∧ RelP np nf nt td tl kp S' k Fn T) ∨ ∃ S' c h, (∀ j, j < m → ¬ hvf T nt nf p j = -1) ∧ fX6_close n S (nI p) (nI m) = some (1, S') ∧ RelP np nf nt td tl kp S' k Fn T ∧ RgX m p (hsf T nt nf p) S' T ∧ (∀ j, j < m → S'.2.1 28 j = h j) ∧ S'.1 20 = nI c ∧ Stn (dRf T p (hsf T nt nf p)) (hsf T nt nf p) m c (g0f m) h ∧ Nrm m h := by
  have h60' := hR.2.2.1.1
  have h40' := hR.1.1
  unfold fX6_close
  rw [if_neg (show ¬ (8 : Int32) < nI m from Int32.not_lt.mpr (nI_le (b := 8) hm (by omega))), if_pos (show (0 : Int32) < nI m from nI_lt (a := 0) (by omega) (by omega))]
  simp only [lt_]
  rcases setX (n := n) (K := fun x20 S21 => fX6_close_L119 n (fun x27 S28 => some (1, S28)) n 0 S21) hn hpm hm m 0 n (sS (sS S 19 (nI m)) 20 0) ((hR.congr (eqX_sS (k := 19) (by omega)) (eqM.rf T)).congr (eqX_sS (k := 20) (by omega)) (eqM.rf T)) rfl rfl (fun j hj => by omega) (by omega) (by omega) with ⟨S', e1, e2, e3⟩ | ⟨S1, e1, e2, e3, e4, e5⟩
  · left
    exact ⟨S', e1, e2, e3⟩
  · right
    have hw : RowR np nf m p (hsf T nt nf p) := ⟨hpm, hm2, hm, fun j hj => (hvf_ok h60' (e5 j hj).1).1⟩
    have inj : Inj (hsf T nt nf p) m := fun a b ha hb e => by
      have ea := (hvf_ok h60' (e5 a ha).1).2.2
      have eb := (hvf_ok h60' (e5 b hb).1).2.2
      rw [e, eb] at ea
      have := (nI_eq (by omega) (by omega)).mp ea
      omega
    have hna : naF (g0f m) m ≤ m := naF_le m
    obtain ⟨S2, c, h, r1, r2, r3, r4, r5, r6, r7⟩ := roundL (n := n) (G0 := g0f m) hn hw inj (fun j hj => by have := hw.2.2.2 j hj; omega) m 0 n 0 S1 (g0f m) e2 ⟨e3, fun j hj => ⟨(e5 j hj).2.1, by rw [(e5 j hj).2.2.1]; exact (hvf_ok h60' (e5 j hj).1).2.1, (e5 j hj).2.2.2.1⟩⟩ (fun j hj => by rw [(e5 j hj).2.2.2.2]; unfold g0f; rw [if_pos hj]) e4 rfl (fun j hj => by
      unfold g0f at hj
      by_cases q : j < m
      · exact q
      · rw [if_neg q] at hj; exact absurd hj (by decide)) hna (by omega) (by omega)
    exact ⟨S2, c, h, fun j hj => (e5 j hj).1, by rw [← r1]; exact e1, r2, r3, r4, r5, r6, r7⟩
