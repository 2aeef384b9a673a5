/-! the pure side: the relation between the class's state and the reference's -/
theorem sS_1 (S : St) (k : Nat) (v : Int32) (j : Nat) : (sS S k v).1 j = if j = k then v else S.1 j := rfl
theorem sS_2 (S : St) (k : Nat) (v : Int32) : (sS S k v).2 = S.2 := rfl
theorem sA_1 (S : St) (a i : Nat) (v : Int32) : (sA S a i v).1 = S.1 := rfl
theorem sA_2 (S : St) (a i : Nat) (v : Int32) (c j : Nat) : (sA S a i v).2.1 c j = if c = a then (if j = i then v else S.2.1 a j) else S.2.1 c j := by
  show va_up S.2.1 a (upd (S.2.1 a) i v) c j = _
  unfold va_up upd
  by_cases h : c = a
  · subst h; simp
  · simp [h]
theorem sA_3 (S : St) (a i : Nat) (v : Int32) : (sA S a i v).2.2 = S.2.2 := rfl
theorem sR_1 (S : St) (a : Nat) (f : Nat → Int32) : (sR S a f).1 = S.1 := rfl
theorem sR_2 (S : St) (a : Nat) (f : Nat → Int32) (c : Nat) : (sR S a f).2.1 c = if c = a then f else S.2.1 c := rfl
theorem sR_3 (S : St) (a : Nat) (f : Nat → Int32) : (sR S a f).2.2 = S.2.2 := rfl
theorem sJ_1 (S : St) (i : Nat) (v : Int64) : (sJ S i v).1 = S.1 := rfl
theorem sJ_2 (S : St) (i : Nat) (v : Int64) : (sJ S i v).2.1 = S.2.1 := rfl
theorem sJ_3 (S : St) (i : Nat) (v : Int64) (j : Nat) : (sJ S i v).2.2 j = if j = i then v else S.2.2 j := rfl
/-! numbers -/
theorem cl {j : Nat} (h : j < 2 ^ 31) : Int32.toNatClampNeg (nI j) = j := nI_clamp h
theorem gdn {j N : Nat} (h : j < N) (hN : N < 2 ^ 31) : ¬ (nI j < 0 ∨ N ≤ Int32.toNatClampNeg (nI j)) := nI_in h hN
theorem ig {α : Type} {j N : Nat} {y : Option α} (h : j < N) (hN : N < 2 ^ 31) : (if nI j < 0 ∨ N ≤ Int32.toNatClampNeg (nI j) then none else y) = y := if_neg (gdn h hN)
theorem nI_sub1 {N : Nat} {x : Int32} (hN : N < 2 ^ 31) (h : nI N ≤ x) : nI N - 1 < x := by
  have h1 : (nI N).toInt ≤ x.toInt := Int32.le_iff_toInt_le.mp h
  rw [nI_toInt hN] at h1
  rw [Int32.lt_iff_toInt_lt]
  cases N with
  | zero => rw [show (nI 0 - 1 : Int32).toInt = -1 by decide]; omega
  | succ k => rw [nI_pred, nI_toInt (by omega)]; omega
theorem nI_le1 {j N : Nat} (h : j < N) (hN : N < 2 ^ 31) : ¬ nI N - 1 < nI j := by
  obtain ⟨k, rfl⟩ : ∃ k, N = k + 1 := ⟨N - 1, by omega⟩
  rw [nI_pred]
  exact nI_nlt (by omega) (by omega)
theorem isB_lo {x y : Int32} (h : x < 0) : fX10_isBelow x y = some 0 := if_pos h
theorem isB_hi {x y : Int32} (h : y ≤ x) : fX10_isBelow x y = some 0 := by
  unfold fX10_isBelow
  by_cases h0 : x < 0
  · rw [if_pos h0]
  · rw [if_neg h0, if_pos h]
theorem isB_ok {x y : Int32} (h0 : ¬ x < 0) (h : ¬ y ≤ x) : fX10_isBelow x y = some 1 := by
  unfold fX10_isBelow
  rw [if_neg h0, if_neg h]
theorem isI_lo {x y z : Int32} (h : x < y) : fX11_isIn x y z = some 0 := if_pos h
theorem isI_hi {x y z : Int32} (h : z < x) : fX11_isIn x y z = some 0 := by
  unfold fX11_isIn
  by_cases h0 : x < y
  · rw [if_pos h0]
  · rw [if_neg h0, if_pos h]
theorem isI_ok {x y z : Int32} (h0 : ¬ x < y) (h : ¬ z < x) : fX11_isIn x y z = some 1 := by
  unfold fX11_isIn
  rw [if_neg h0, if_neg h]
theorem rng (x : Int32) (N : Nat) {y z : Int32} (hN : N < 2 ^ 31) (hy : y = nI N) (hz : z = nI N - 1) : (fX10_isBelow x y = some 0 ∧ fX11_isIn x 0 z = some 0) ∨ ∃ j, j < N ∧ x = nI j ∧ fX10_isBelow x y = some 1 ∧ fX11_isIn x 0 z = some 1 := by
  subst hy; subst hz
  rcases pk_ix x hN with h | h | ⟨j, hj, rfl⟩
  · exact Or.inl ⟨isB_lo h, isI_lo h⟩
  · exact Or.inl ⟨isB_hi h, isI_hi (nI_sub1 hN h)⟩
  · exact Or.inr ⟨j, hj, rfl, isB_ok (nI_pos (by omega)) (nI_ge hj hN), isI_ok (nI_pos (by omega)) (nI_le1 hj hN)⟩
theorem nz1 {α : Type} {v : Int32} {y : Option α} (h : v = 0 ∨ v = 1) : (if ¬ (v = 0 ∨ v = 1) then none else y) = y := if_neg (fun q => q h)
/-! the relation, group by group -/
/-- who owns the field f behind the first t transfers -/
def own (T : St) (f : Nat) : Nat → Int32
  | 0 => T.2.1 12 f
  | t + 1 => if T.2.1 13 t = nI f then T.2.1 14 t else own T f t
def Pe (np : Nat) (S T : St) : Prop := np ≤ 40 ∧ S.1 1 = nI np ∧ T.1 1 = nI np ∧ (∀ i, i < np → S.2.1 0 i = T.2.1 5 i ∧ S.2.1 1 i = T.2.1 6 i ∧ (∃ h, h < 20 ∧ T.2.1 5 i = nI h) ∧ ∃ h, h < 100 ∧ T.2.1 6 i = nI h)
def Ki (S T : St) : Prop := S.1 2 = T.1 4 ∧ ∀ a b, a < 40 → b < 40 → ((S.2.2 a).toBitVec.getLsbD b = true ∧ T.2.1 7 (40 * a + b) = 1) ∨ ((S.2.2 a).toBitVec.getLsbD b = false ∧ T.2.1 7 (40 * a + b) = 0)
def La (np nf : Nat) (S T : St) : Prop := nf ≤ 60 ∧ S.1 3 = nI nf ∧ T.1 2 = nI nf ∧ (∀ i, i < nf → S.2.1 2 i = T.2.1 8 i ∧ S.2.1 3 i = T.2.1 9 i ∧ S.2.1 4 i = T.2.1 10 i ∧ S.2.1 5 i = T.2.1 11 i ∧ S.2.1 6 i = T.2.1 12 i ∧ (∃ h, h < 100 ∧ T.2.1 8 i = nI h) ∧ (∃ h, 1 ≤ h ∧ h ≤ 100 ∧ T.2.1 9 i = nI h) ∧ (∃ h, h < 4 ∧ T.2.1 10 i = nI h) ∧ (∃ h, h < 10 ∧ T.2.1 11 i = nI h) ∧ ∃ h, h < np ∧ T.2.1 12 i = nI h)
def Tr (np nf nt td : Nat) (S T : St) : Prop := nt ≤ 200 ∧ S.1 4 = nI nt ∧ T.1 3 = nI nt ∧ td ≤ 1000 ∧ S.1 5 = nI td ∧ T.1 0 = nI td ∧ (∀ i, i < nt → S.2.1 8 i = T.2.1 13 i ∧ S.2.1 9 i = T.2.1 14 i ∧ S.2.1 10 i = T.2.1 15 i ∧ (∃ h, h < nf ∧ T.2.1 13 i = nI h) ∧ (∃ h, h < np ∧ T.2.1 14 i = nI h) ∧ ∃ h, h ≤ td ∧ T.2.1 15 i = nI h) ∧ (∀ i j, i ≤ j → j < nt → T.2.1 15 i ≤ T.2.1 15 j) ∧ ∀ f, f < nf → S.2.1 7 f = own T f nt
def Ta (tl : Nat) (S T : St) : Prop := tl ≤ 400 ∧ S.1 6 = nI tl ∧ T.1 20 = nI tl ∧ S.1 10 = T.1 23 ∧ ∀ i, i < tl → S.2.1 11 i = T.2.1 18 i ∧ vp_nar .byte (T.2.1 18 i) = T.2.1 18 i
def Lw (S T : St) : Prop := S.1 21 = T.2.1 16 0 ∧ S.1 22 = T.2.1 16 1 ∧ S.1 23 = T.2.1 16 2 ∧ S.1 25 = T.2.1 16 3 ∧ S.1 26 = T.2.1 16 4 ∧ S.1 27 = T.2.1 16 5 ∧ S.1 28 = T.1 17 ∧ (∀ j, j < 4 → S.2.1 30 j = T.2.1 16 (6 + j)) ∧ (∀ j, j < 10 → ((S.1 24).toBitVec.getLsbD j = true ∧ T.2.1 16 (10 + j) = 1) ∨ ((S.1 24).toBitVec.getLsbD j = false ∧ T.2.1 16 (10 + j) = 0)) ∧ ∃ y, 1 ≤ y ∧ y ≤ 40 ∧ T.2.1 16 4 = nI y
def Pr (kp : Nat) (S T : St) : Prop := kp ≤ 60 ∧ S.1 17 = nI kp ∧ T.1 29 = nI kp ∧ (∀ i, i < kp → S.2.1 16 i = T.2.1 30 i ∧ S.2.1 17 i = T.2.1 31 i ∧ S.2.1 18 i = T.2.1 32 i ∧ ∃ h, 0 < h ∧ h < 2 ^ 30 ∧ T.2.1 32 i = nI h) ∧ ∀ i, kp ≤ i → i < 60 → T.2.1 32 i = 0
def Sl (S : St) (k : Nat) (F : Nat → Nat → Int32) (T : St) : Prop := k ≤ 20 ∧ S.1 0 = nI k ∧ T.1 38 = nI k ∧ (∀ i, i < k → F 0 i = T.2.1 39 i ∧ F 1 i = T.2.1 40 i ∧ F 2 i = T.2.1 41 i ∧ F 3 i = T.2.1 41 i / T.2.1 42 i ∧ F 4 i = T.2.1 41 i - T.2.1 41 i / T.2.1 42 i * (T.2.1 42 i - 1) ∧ F 5 i = T.2.1 43 i ∧ F 6 i = T.2.1 44 i ∧ F 7 i = T.2.1 46 i ∧ F 8 i = T.2.1 45 i ∧ ¬ T.2.1 42 i = 0) ∧ ∀ i, k ≤ i → i < 20 → T.2.1 43 i = 0 ∧ T.2.1 45 i = 0
def RelP (np nf nt td tl kp : Nat) (S : St) (k : Nat) (F : Nat → Nat → Int32) (T : St) : Prop := Pe np S T ∧ Ki S T ∧ La np nf S T ∧ Tr np nf nt td S T ∧ Ta tl S T ∧ Lw S T ∧ Pr kp S T ∧ Sl S k F T
def Rel (S : St) (k : Nat) (F : Nat → Nat → Int32) (T : St) : Prop := ∃ np nf nt td tl kp : Nat, RelP np nf nt td tl kp S k F T
/-- states that differ in working rows alone -/
def eqX (S S' : St) : Prop := (∀ k, k < 7 ∨ k = 10 ∨ k = 17 ∨ (21 ≤ k ∧ k < 29) → S'.1 k = S.1 k) ∧ (∀ a, a < 12 ∨ (16 ≤ a ∧ a < 19) ∨ a = 30 → S'.2.1 a = S.2.1 a) ∧ S'.2.2 = S.2.2
def eqM (T T' : St) : Prop := (∀ k, k < 21 ∨ k = 23 ∨ k = 29 ∨ k = 38 → T'.1 k = T.1 k) ∧ (∀ a, a < 16 ∨ a = 18 ∨ (30 ≤ a ∧ a < 33) ∨ (39 ≤ a ∧ a < 47) → T'.2.1 a = T.2.1 a) ∧ ∀ j, j < 20 → T'.2.1 16 j = T.2.1 16 j
theorem eqX.rf (S : St) : eqX S S := ⟨fun _ _ => rfl, fun _ _ => rfl, rfl⟩
theorem eqM.rf (T : St) : eqM T T := ⟨fun _ _ => rfl, fun _ _ => rfl, fun _ _ => rfl⟩
theorem eqX.tr {S S' S'' : St} (h : eqX S S') (g : eqX S' S'') : eqX S S'' := ⟨fun k hk => (g.1 k hk).trans (h.1 k hk), fun a ha => (g.2.1 a ha).trans (h.2.1 a ha), g.2.2.trans h.2.2⟩
theorem eqM.tr {T T' T'' : St} (h : eqM T T') (g : eqM T' T'') : eqM T T'' := ⟨fun k hk => (g.1 k hk).trans (h.1 k hk), fun a ha => (g.2.1 a ha).trans (h.2.1 a ha), fun j hj => (g.2.2 j hj).trans (h.2.2 j hj)⟩
theorem own_congr {T T' : St} (h12 : T'.2.1 12 = T.2.1 12) (h13 : T'.2.1 13 = T.2.1 13) (h14 : T'.2.1 14 = T.2.1 14) (f t : Nat) : own T' f t = own T f t := by
  induction t with
  | zero => exact congrFun h12 f
  | succ t ih => unfold own; rw [h13, h14, ih]
theorem RelP.congr {np nf nt td tl kp k : Nat} {S S' T T' : St} {F : Nat → Nat → Int32} (hx : eqX S S') (hm : eqM T T') (h : RelP np nf nt td tl kp S k F T) : RelP np nf nt td tl kp S' k F T' := by
  obtain ⟨x1, x2, x3⟩ := hx
  obtain ⟨m1, m2, m3⟩ := hm
  obtain ⟨hPe, hKi, hLa, hTr, hTa, hLw, hPr, hSl⟩ := h
  have a5 := m2 5 (by omega); have a6 := m2 6 (by omega); have a7 := m2 7 (by omega); have a8 := m2 8 (by omega); have a9 := m2 9 (by omega); have a10 := m2 10 (by omega); have a11 := m2 11 (by omega); have a12 := m2 12 (by omega); have a13 := m2 13 (by omega); have a14 := m2 14 (by omega); have a15 := m2 15 (by omega); have a18 := m2 18 (by omega)
  have a30 := m2 30 (by omega); have a31 := m2 31 (by omega); have a32 := m2 32 (by omega); have a39 := m2 39 (by omega); have a40 := m2 40 (by omega); have a41 := m2 41 (by omega); have a42 := m2 42 (by omega); have a43 := m2 43 (by omega); have a44 := m2 44 (by omega); have a45 := m2 45 (by omega); have a46 := m2 46 (by omega)
  have b0 := x2 0 (by omega); have b1 := x2 1 (by omega); have b2 := x2 2 (by omega); have b3 := x2 3 (by omega); have b4 := x2 4 (by omega); have b5 := x2 5 (by omega); have b6 := x2 6 (by omega); have b7 := x2 7 (by omega); have b8 := x2 8 (by omega); have b9 := x2 9 (by omega); have b10 := x2 10 (by omega); have b11 := x2 11 (by omega); have b16 := x2 16 (by omega); have b17 := x2 17 (by omega); have b18 := x2 18 (by omega); have b30 := x2 30 (by omega)
  have c0 := x1 0 (by omega); have c1 := x1 1 (by omega); have c2 := x1 2 (by omega); have c3 := x1 3 (by omega); have c4 := x1 4 (by omega); have c5 := x1 5 (by omega); have c6 := x1 6 (by omega); have c10 := x1 10 (by omega); have c17 := x1 17 (by omega); have c21 := x1 21 (by omega); have c22 := x1 22 (by omega); have c23 := x1 23 (by omega); have c24 := x1 24 (by omega); have c25 := x1 25 (by omega); have c26 := x1 26 (by omega); have c27 := x1 27 (by omega); have c28 := x1 28 (by omega)
  have d0 := m1 0 (by omega); have d1 := m1 1 (by omega); have d2 := m1 2 (by omega); have d3 := m1 3 (by omega); have d4 := m1 4 (by omega); have d17 := m1 17 (by omega); have d20 := m1 20 (by omega); have d23 := m1 23 (by omega); have d29 := m1 29 (by omega); have d38 := m1 38 (by omega)
  refine ⟨?_, ?_, ?_, ?_, ?_, ?_, ?_, ?_⟩
  · unfold Pe at hPe ⊢; rw [c1, d1, b0, b1, a5, a6]; exact hPe
  · unfold Ki at hKi ⊢; rw [c2, d4, x3, a7]; exact hKi
  · unfold La at hLa ⊢; rw [c3, d2, b2, b3, b4, b5, b6, a8, a9, a10, a11, a12]; exact hLa
  · unfold Tr at hTr ⊢; rw [c4, d3, c5, d0, b8, b9, b10, b7, a13, a14, a15]
    obtain ⟨q1, q2, q3, q4, q5, q6, q7, q8, q9⟩ := hTr
    exact ⟨q1, q2, q3, q4, q5, q6, q7, q8, fun f hf => (q9 f hf).trans (own_congr a12 a13 a14 f nt).symm⟩
  · unfold Ta at hTa ⊢; rw [c6, d20, c10, d23, b11, a18]; exact hTa
  · obtain ⟨q1, q2, q3, q4, q5, q6, q7, q8, q9, q10⟩ := hLw
    unfold Lw
    rw [c21, c22, c23, c24, c25, c26, c27, c28, d17, b30, m3 0 (by omega), m3 1 (by omega), m3 2 (by omega), m3 3 (by omega), m3 4 (by omega), m3 5 (by omega)]
    refine ⟨q1, q2, q3, q4, q5, q6, q7, fun j hj => ?_, fun j hj => ?_, q10⟩
    · rw [m3 (6 + j) (by omega)]; exact q8 j hj
    · rw [m3 (10 + j) (by omega)]; exact q9 j hj
  · unfold Pr at hPr ⊢; rw [c17, d29, b16, b17, b18, a30, a31, a32]; exact hPr
  · unfold Sl at hSl ⊢; rw [c0, d38, a39, a40, a41, a42, a43, a44, a45, a46]; exact hSl
theorem Rel.congr {k : Nat} {S S' T T' : St} {F : Nat → Nat → Int32} (hx : eqX S S') (hm : eqM T T') (h : Rel S k F T) : Rel S' k F T' := by
  obtain ⟨np, nf, nt, td, tl, kp, h⟩ := h
  exact ⟨np, nf, nt, td, tl, kp, h.congr hx hm⟩
/-! ranges as both sides test them -/
theorem has_rng {np : Nat} {S T : St} (h : Pe np S T) (x : Int32) : (fX4_has S x = some 0 ∧ fX11_isPerson T x = some 0) ∨ ∃ j, j < np ∧ x = nI j ∧ fX4_has S x = some 1 ∧ fX11_isPerson T x = some 1 := by
  obtain ⟨h1, h2, h3, -⟩ := h
  unfold fX4_has fX11_isPerson
  rcases rng x np (y := S.1 1) (z := T.1 1 - 1) (by omega) h2 (by rw [h3]) with ⟨e1, e2⟩ | ⟨j, hj, e0, e1, e2⟩
  · left; rw [e1, e2]; exact ⟨rfl, rfl⟩
  · right; refine ⟨j, hj, e0, ?_, ?_⟩
    · rw [e1]; rfl
    · rw [e2]; rfl
theorem fld_rng {np nf : Nat} {S T : St} (h : La np nf S T) (x : Int32) : (fX2_has S x = some 0 ∧ fX11_isField T x = some 0) ∨ ∃ j, j < nf ∧ x = nI j ∧ fX2_has S x = some 1 ∧ fX11_isField T x = some 1 := by
  obtain ⟨h1, h2, h3, -⟩ := h
  unfold fX2_has fX11_isField
  rcases rng x nf (y := S.1 3) (z := T.1 2 - 1) (by omega) h2 (by rw [h3]) with ⟨e1, e2⟩ | ⟨j, hj, e0, e1, e2⟩
  · left; rw [e1, e2]; exact ⟨rfl, rfl⟩
  · right; refine ⟨j, hj, e0, ?_, ?_⟩
    · rw [e1]; rfl
    · rw [e2]; rfl
