/-- is the field's crop exempt -/
def exm (T : St) (f : Nat) : Int32 := if T.2.1 16 (10 + (T.2.1 11 f).toNatClampNeg) = 1 then 1 else 0
theorem exm_X {np nf f : Nat} {S T : St} (hLa : La np nf S T) (hLw : Lw S T) (hf : f < nf) : fX3_exempts S (T.2.1 11 f) = some (exm T f) := by
  obtain ⟨-, -, -, -, -, -, -, -, ⟨c, hc, ec⟩, -⟩ := hLa.2.2.2 f hf
  unfold fX3_exempts exm
  rw [ec, isB_ok (y := 10) (nI_pos (by omega)) (nI_ge (b := 10) hc (by omega)), ob_s, i10, bitI _ (by omega), cl (by omega)]
  obtain ⟨-, -, -, -, -, -, -, -, w9, -⟩ := hLw
  rcases w9 c hc with ⟨k1, k2⟩ | ⟨k1, k2⟩
  · rw [if_pos (show bt (S.1 24) c = true from k1), if_pos rfl, if_pos k2]
  · rw [show bt (S.1 24) c = false from k1, k2]; rfl
theorem exm_M {np nf f : Nat} {S T : St} (hLa : La np nf S T) (hf : f < nf) : fX11_isExempt T (nI f) = some (exm T f) := by
  have h60' := hLa.1
  obtain ⟨-, -, -, -, -, -, -, -, ⟨c, hc, ec⟩, -⟩ := hLa.2.2.2 f hf
  unfold fX11_isExempt exm
  rw [cl (show f < 2 ^ 31 by omega), ih (show f < 60 by omega) h60, ec, show ((10 : Int32) + nI c) = nI (10 + c) from nI_add 10 c, ig (show 10 + c < 40 by omega) (by omega), cl (show 10 + c < 2 ^ 31 by omega), cl (show c < 2 ^ 31 by omega)]
  split <;> rfl
theorem exm_01 (T : St) (f : Nat) : exm T f = 0 ∨ exm T f = 1 := by
  unfold exm; split
  · right; rfl
  · left; rfl
def trs (T : St) (f : Nat) : Nat → Int32
  | 0 => 0
  | t + 1 => if T.2.1 13 t = nI f then trs T f t + 1 else trs T f t
theorem trsX {np nf nt td n f : Nat} {S T : St} (hTr : Tr np nf nt td S T) : ∀ (dd i fu : Nat), i + dd = nt → dd < fu → fX2_transfersOf_L4 n (nI f) S (fun x4 x5 => some x4) fu (trs T f i) (nI i) = some (trs T f nt) := by
  obtain ⟨t1, t2, t3, t4, t5, t6, t7, t8, t9⟩ := id hTr
  intro dd
  induction dd with
  | zero =>
    intro i fu hi hfu
    obtain ⟨fu, rfl⟩ : ∃ g, fu = g + 1 := ⟨fu - 1, by omega⟩
    have e : i = nt := by omega
    subst e
    rw [fX2_transfersOf_L4, t2, if_pos (nI_le (Nat.le_refl _) (by omega))]
  | succ dd ihd =>
    intro i fu hi hfu
    obtain ⟨fu, rfl⟩ : ∃ g, fu = g + 1 := ⟨fu - 1, by omega⟩
    have := ihd (i + 1) fu (by omega) (by omega)
    rw [trs] at this
    rw [fX2_transfersOf_L4, t2, if_neg (nI_ge (by omega) (by omega)), ig (show i < 200 by omega) (by omega), cl (by omega), (t7 i (by omega)).1, nI_1]
    by_cases c : T.2.1 13 i = nI f
    · rw [if_pos c] at this ⊢; exact this
    · rw [if_neg c] at this ⊢; exact this
theorem trsM {np nf nt td n f : Nat} {S T : St} (hTr : Tr np nf nt td S T) : ∀ (dd i fu : Nat), i + dd = nt → dd < fu → fX11_transfersOf_L4 n (nI f) T (fun x4 x5 => some x4) fu (trs T f i) (nI i) = some (trs T f nt) := by
  obtain ⟨t1, t2, t3, t4, t5, t6, t7, t8, t9⟩ := id hTr
  intro dd
  induction dd with
  | zero =>
    intro i fu hi hfu
    obtain ⟨fu, rfl⟩ : ∃ g, fu = g + 1 := ⟨fu - 1, by omega⟩
    have e : i = nt := by omega
    subst e
    rw [fX11_transfersOf_L4, t3, if_pos (nI_le (Nat.le_refl _) (by omega))]
  | succ dd ihd =>
    intro i fu hi hfu
    obtain ⟨fu, rfl⟩ : ∃ g, fu = g + 1 := ⟨fu - 1, by omega⟩
    have := ihd (i + 1) fu (by omega) (by omega)
    rw [trs] at this
    rw [fX11_transfersOf_L4, t3, if_neg (nI_ge (by omega) (by omega)), ig (show i < 200 by omega) (by omega), cl (by omega), nI_1, show fX11_one 1 = some 1 from rfl, show fX11_one 0 = some 0 from rfl, ob_s, ob_s]
    simp only [lt_, Int32.add_zero]
    by_cases c : T.2.1 13 i = nI f
    · rw [if_pos c] at this ⊢; exact this
    · rw [if_neg c] at this ⊢; exact this
/-- the loop over tenancies: what both sides hold -/
theorem tenL {np nf nt td tl kp k n f : Nat} {S T : St} {Fn : Nat → Nat → Int32} (hn : 5000 ≤ n) (h : RelP np nf nt td tl kp S k Fn T) (hf : f < nf) : ∀ (dd i fu : Nat) (x4 x5 y2 y3 : Int32) (al : Nat), i + dd = kp → dd < fu → al ≤ i → y3 = x5 → (x4 = if al = 1 then y2 else -1) → (al = 0 → x5 = 0) → ¬ x5 < 0 → ∃ r, fX9_tenantOf_L9 n (nI f) (own T f nt) (S.1 27) S (fun x13 x14 x15 => some x13) fu x4 x5 (nI i) = some r ∧ fX11_tenant_L10 n (nI f) T (fun x17 x18 x19 x20 => if x19 = 1 then (some x17) else (some (-1))) fu y2 y3 (nI al) (nI i) = some r := by
  obtain ⟨hPe, hKi, hLa, hTr, hTa, hLw, hPr, hSl⟩ := id h
  obtain ⟨p1, p2, p3, p4, p5⟩ := hPr
  have h60' := hLa.1
  intro dd
  induction dd with
  | zero =>
    intro i fu x4 x5 y2 y3 al hi hfu hal h3 h4 h0 hx
    obtain ⟨fu, rfl⟩ : ∃ g, fu = g + 1 := ⟨fu - 1, by omega⟩
    have e : i = kp := by omega
    subst e
    refine ⟨x4, ?_, ?_⟩
    · rw [fX9_tenantOf_L9, p2, if_pos (nI_le (Nat.le_refl _) (by omega))]
    · rw [fX11_tenant_L10, p3, if_pos (nI_le (Nat.le_refl _) (by omega)), h4]
      by_cases e : al = 1
      · subst e; rw [if_pos (show nI 1 = 1 from rfl), if_pos rfl]
      · rw [if_neg (show ¬ nI al = 1 from nI_ne (b := 1) (by omega) (by omega) e), if_neg e]
  | succ dd ihd =>
    intro i fu x4 x5 y2 y3 al hi hfu hal h3 h4 h0 hx
    obtain ⟨fu, rfl⟩ : ∃ g, fu = g + 1 := ⟨fu - 1, by omega⟩
    obtain ⟨a1, a2, a3, y, y0, y1, ey⟩ := p4 i (by omega)
    have hy := pcF_pos 32 y (by omega) y0
    have hy2 := pcF_le 32 y
    rw [fX9_tenantOf_L9, fX11_tenant_L10, p2, p3, if_neg (nI_ge (show i < kp by omega) (by omega)), if_neg (nI_ge (show i < kp by omega) (by omega))]
    simp only [lt_, cl (show i < 2 ^ 31 by omega), ih (show i < 60 by omega) h60, nI_1, a1, a2, a3, ey, bitCount_nI (show y < 2 ^ 31 by omega), bits_nI hn (show y < 2 ^ 31 by omega), ob_s, (owner_eq hn hLa hTr hf).2, hLw.2.2.2.2.2.1, show Int32.toNatClampNeg 5 = 5 by decide, h3]
    rw [hLw.2.2.2.2.2.1] at ihd
    have skip := ihd (i + 1) fu x4 x5 y2 y3 al (by omega) (by omega) (by omega) h3 h4 h0 hx
    rw [h3] at skip
    by_cases c1 : T.2.1 30 i = nI f
    · rw [if_pos c1, if_pos c1]
      by_cases c2 : T.2.1 31 i = own T f nt
      · rw [if_pos c2, if_pos c2]; exact skip
      · rw [if_neg c2, if_neg c2]
        by_cases c3 : nI (pcF 32 y) < T.2.1 16 5
        · rw [if_pos c3, if_pos c3]; exact skip
        · rw [if_neg c3, if_neg c3]
          by_cases c4 : x5 ≤ nI (pcF 32 y)
          · rw [if_pos c4, if_pos c4]
            by_cases c5 : nI (pcF 32 y) = x5
            · rw [if_pos c5, if_pos c5]
              have hal0 : ¬ al = 0 := by
                intro q
                have q2 := h0 q
                rw [q2] at c5
                exact nI_ne0 hy (by omega) c5
              exact ihd (i + 1) fu (-1) _ _ _ (al + 1) (by omega) (by omega) (by omega) rfl (by rw [if_neg (by omega)]) (fun q => by omega) (nI_pos (by omega))
            · rw [if_neg c5, if_neg c5]
              exact ihd (i + 1) fu _ _ _ _ 1 (by omega) (by omega) (by omega) rfl (by rw [if_pos rfl]) (fun q => by omega) (nI_pos (by omega))
          · rw [if_neg c4, if_neg c4]; exact skip
    · rw [if_neg c1, if_neg c1]; exact skip
theorem placeX {np nf f : Nat} {S T : St} (hLa : La np nf S T) (hf : f < nf) : fX2_placeOf S (nI f) = some (T.2.1 8 f) := by
  have h60' := hLa.1
  unfold fX2_placeOf
  rw [(fld1 hLa hf).1, ob_s, i10, ig (show f < 60 by omega) (by omega), cl (by omega), (hLa.2.2.2 f hf).1]
theorem cropX {np nf f : Nat} {S T : St} (hLa : La np nf S T) (hf : f < nf) : fX2_cropOf S (nI f) = some (T.2.1 11 f) := by
  have h60' := hLa.1
  unfold fX2_cropOf
  rw [(fld1 hLa hf).1, ob_s, i10, ig (show f < 60 by omega) (by omega), cl (by omega), (hLa.2.2.2 f hf).2.2.2.1]
theorem q8 {n : Nat} (hn : 5000 ≤ n) : Q8 n Rel := by
  intro S k Fn T a1 a2 ⟨np, nf, nt, td, tl, kp, h⟩
  obtain ⟨hPe, hKi, hLa, hTr, hTa, hLw, hPr, hSl⟩ := id h
  have hR : Rel S k Fn T := ⟨np, nf, nt, td, tl, kp, h⟩
  have h60' := hLa.1
  have t1 := hTr.1
  have p1 := hPr.1
  unfold fX10_told fX11_told
  rcases fld_rng hLa a1 with ⟨e1, e2⟩ | ⟨f, hf, rfl, e1, e2⟩
  · rw [e1, e2]; exact ⟨-1, S, rfl, rfl, hR⟩
  rw [e1, e2, ob_s, ob_s, i10, i10, cl (by omega), ih (show f < 60 by omega) h60, ih (show f < 60 by omega) h60, ih (show f < 60 by omega) h60, ih (show f < 60 by omega) h60, placeX hLa hf, areaX hLa hf, soilX hLa hf, cropX hLa hf, (owner_eq hn hLa hTr hf).1, (owner_eq hn hLa hTr hf).2, stdX hLa hLw hf, stdM' hLa hf, counted_M hn hPe hLa hTr hf, exm_M hLa hf]
  simp only [ob_s]
  by_cases c0 : a2 = 0
  · rw [if_pos c0, if_pos c0]; exact ⟨_, S, rfl, rfl, hR⟩
  rw [if_neg c0, if_neg c0]
  by_cases c1 : a2 = 1
  · rw [if_pos c1, if_pos c1]; exact ⟨_, S, rfl, rfl, hR⟩
  rw [if_neg c1, if_neg c1]
  by_cases c2 : a2 = 2
  · rw [if_pos c2, if_pos c2]; exact ⟨_, S, rfl, rfl, hR⟩
  rw [if_neg c2, if_neg c2]
  by_cases c3 : a2 = 3
  · rw [if_pos c3, if_pos c3]; exact ⟨_, S, rfl, rfl, hR⟩
  rw [if_neg c3, if_neg c3]
  by_cases c4 : a2 = 4
  · rw [if_pos c4, if_pos c4]; exact ⟨_, S, rfl, rfl, hR⟩
  rw [if_neg c4, if_neg c4]
  by_cases c5 : a2 = 5
  · rw [if_pos c5, if_pos c5]; exact ⟨_, S, rfl, rfl, hR⟩
  rw [if_neg c5, if_neg c5]
  by_cases c6 : a2 = 6
  · rw [if_pos c6, if_pos c6]
    obtain ⟨S', g1, g2, g3, g4, g5⟩ := cown_X hn h
    refine ⟨cown T f nt, S', ?_, rfl, np, nf, nt, td, tl, kp, h.congr g2 (eqM.rf T)⟩
    unfold fX1_countedOwner
    rw [g1, ob_s, g4, hLa.2.1, isB_ok (nI_pos (by omega)) (nI_ge hf (by omega)), ob_s, i10, ig (show f < 60 by omega) (by omega), cl (by omega), g5 f hf]
    rfl
  rw [if_neg c6, if_neg c6]
  by_cases c7 : a2 = 7
  · rw [if_pos c7, if_pos c7]
    obtain ⟨r, r1, r2⟩ := tenL hn h hf kp 0 n (-1) 0 (-1) 0 0 (by omega) (by omega) (by omega) rfl (by rw [if_neg (by omega)]) (fun _ => rfl) (by decide)
    refine ⟨r, S, ?_, ?_, hR⟩
    · unfold fX9_tenantOf
      rw [show (fX9_tenantOf_L9 n (nI f) (own T f nt) (S.1 27) S (fun x13 x14 x15 => some x13) n (-1) 0 0) = some r from r1]; rfl
    · unfold fX11_tenant
      rw [show (fX11_tenant_L10 n (nI f) T (fun x17 x18 x19 x20 => if x19 = 1 then (some x17) else (some (-1))) n (-1) 0 0 0) = some r from r2]; rfl
  rw [if_neg c7, if_neg c7]
  by_cases c8 : a2 = 8
  · rw [if_pos c8, if_pos c8, exm_X hLa hLw hf, ob_s]
    rcases exm_01 T f with e | e
    · rw [e]; exact ⟨0, S, rfl, rfl, hR⟩
    · rw [e]; exact ⟨1, S, rfl, rfl, hR⟩
  rw [if_neg c8, if_neg c8]
  by_cases c9 : a2 = 9
  · rw [if_pos c9, if_pos c9]
    refine ⟨trs T f nt, S, ?_, ?_, hR⟩
    · unfold fX2_transfersOf
      rw [show fX2_transfersOf_L4 n (nI f) S (fun x4 x5 => some x4) n 0 0 = some (trs T f nt) from trsX hTr nt 0 n (by omega) (by omega)]; rfl
    · unfold fX11_transfersOf
      rw [show fX11_transfersOf_L4 n (nI f) T (fun x8 x9 => some x8) n 0 0 = some (trs T f nt) from trsM hTr nt 0 n (by omega) (by omega)]; rfl
  rw [if_neg c9, if_neg c9]
  exact ⟨-1, S, rfl, rfl, hR⟩
