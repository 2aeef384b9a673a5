def WL (cc : Nat → ClassId) (ad : Nat → Nat) (S : St) : va_W := [(ad 0, .inr (3, [.ref (ad 1), .int (S.1 0), .int (S.1 1), .int (S.1 2), .int (S.1 3), .int (S.1 4), .int (S.1 5), .int (S.1 6), .int (S.1 7)])), (ad 1, .inl (cc 0, 4, .inl (S.2.1 0)))]
section WWL
variable {cc : Nat → ClassId} {ad : Nat → Nat} {S : St} {E : va_W}
theorem gL_0 : (WL cc ad S ++ E)[0]? = some (ad 0, .inr (3, [.ref (ad 1), .int (S.1 0), .int (S.1 1), .int (S.1 2), .int (S.1 3), .int (S.1 4), .int (S.1 5), .int (S.1 6), .int (S.1 7)])) := rfl
theorem pL_0 {v : Int32} : (WL cc ad S ++ E).set 0 (ad 0, .inr (3, ([.ref (ad 1), .int (S.1 0), .int (S.1 1), .int (S.1 2), .int (S.1 3), .int (S.1 4), .int (S.1 5), .int (S.1 6), .int (S.1 7)] : List Value).set 1 (.int v))) = WL cc ad (sS S 0 v) ++ E := rfl
theorem pL_1 {v : Int32} : (WL cc ad S ++ E).set 0 (ad 0, .inr (3, ([.ref (ad 1), .int (S.1 0), .int (S.1 1), .int (S.1 2), .int (S.1 3), .int (S.1 4), .int (S.1 5), .int (S.1 6), .int (S.1 7)] : List Value).set 2 (.int v))) = WL cc ad (sS S 1 v) ++ E := rfl
theorem pL_2 {v : Int32} : (WL cc ad S ++ E).set 0 (ad 0, .inr (3, ([.ref (ad 1), .int (S.1 0), .int (S.1 1), .int (S.1 2), .int (S.1 3), .int (S.1 4), .int (S.1 5), .int (S.1 6), .int (S.1 7)] : List Value).set 3 (.int v))) = WL cc ad (sS S 2 v) ++ E := rfl
theorem pL_3 {v : Int32} : (WL cc ad S ++ E).set 0 (ad 0, .inr (3, ([.ref (ad 1), .int (S.1 0), .int (S.1 1), .int (S.1 2), .int (S.1 3), .int (S.1 4), .int (S.1 5), .int (S.1 6), .int (S.1 7)] : List Value).set 4 (.int v))) = WL cc ad (sS S 3 v) ++ E := rfl
theorem pL_4 {v : Int32} : (WL cc ad S ++ E).set 0 (ad 0, .inr (3, ([.ref (ad 1), .int (S.1 0), .int (S.1 1), .int (S.1 2), .int (S.1 3), .int (S.1 4), .int (S.1 5), .int (S.1 6), .int (S.1 7)] : List Value).set 5 (.int v))) = WL cc ad (sS S 4 v) ++ E := rfl
theorem pL_5 {v : Int32} : (WL cc ad S ++ E).set 0 (ad 0, .inr (3, ([.ref (ad 1), .int (S.1 0), .int (S.1 1), .int (S.1 2), .int (S.1 3), .int (S.1 4), .int (S.1 5), .int (S.1 6), .int (S.1 7)] : List Value).set 6 (.int v))) = WL cc ad (sS S 5 v) ++ E := rfl
theorem pL_6 {v : Int32} : (WL cc ad S ++ E).set 0 (ad 0, .inr (3, ([.ref (ad 1), .int (S.1 0), .int (S.1 1), .int (S.1 2), .int (S.1 3), .int (S.1 4), .int (S.1 5), .int (S.1 6), .int (S.1 7)] : List Value).set 7 (.int v))) = WL cc ad (sS S 6 v) ++ E := rfl
theorem pL_7 {v : Int32} : (WL cc ad S ++ E).set 0 (ad 0, .inr (3, ([.ref (ad 1), .int (S.1 0), .int (S.1 1), .int (S.1 2), .int (S.1 3), .int (S.1 4), .int (S.1 5), .int (S.1 6), .int (S.1 7)] : List Value).set 8 (.int v))) = WL cc ad (sS S 7 v) ++ E := rfl
theorem gL_1 : (WL cc ad S ++ E)[1]? = some (ad 1, .inl (cc 0, 4, .inl (S.2.1 0))) := rfl
theorem aL_1 {f : Nat → Int32} : (WL cc ad S ++ E).set 1 (ad 1, .inl (cc 0, 4, .inl f)) = WL cc ad (sR S 0 f) ++ E := rfl
theorem bL_1 {i : Nat} {v : Int32} : (WL cc ad S ++ E).set 1 (ad 1, .inl (cc 0, 4, .inl (upd (S.2.1 0) i v))) = WL cc ad (sA S 0 i v) ++ E := aL_1
end WWL

def fJ7_fill_53178L_L5 (n : Nat) (x1 : Int32) (x3 : Int32) (k : Int32 → St → Option St) : Nat → Int32 → St → Option St
  | 0, _, _ => none
  | fu + 1, x2, S => if x3 ≤ x2 then (k x2 S) else (if x2 < 0 ∨ 4 ≤ Int32.toNatClampNeg x2 then none else lt_ (sA S 0 (Int32.toNatClampNeg x2) x1) fun S3 => fJ7_fill_53178L_L5 n x1 x3 k fu (x2 + 1) S3)
def fJ7_fill_53178L (n : Nat) (S : St) (x1 : Int32) : Option St := fJ7_fill_53178L_L5 n x1 4 (fun x4 S5 => some S5) n 0 S
set_option maxHeartbeats 4000000 in
set_option maxRecDepth 100000 in
theorem wJ7_fill_53178L_L5 {p : Program} {l : Launch} {e : Env} {s : State} {m : MethodId} {args : Array Value} {below : List Frame} {meth : Method} {c : Code} {Q : State → Prop} {D : va_G} {cc : Nat → ClassId} {ak av : Nat → Nat} {A : Nat → Prop} {ad : Nat → Nat} {E : va_W} {n : Nat} {x1 : Int32} {x3 : Int32} {S' : St} {k : Int32 → St → Option St} (F : CallFix p m c cJ7_fill_53178 4 s args wsJ7_fill_53178 RJ7) (B : Bd D cc ak av A s) (hQ : RetV p l e ({ frames := 0, cells := 0, slots := 0, locals := 0 } : Room) s m args below meth c D A Q cJ7_fill_53178 (WL cc ad S' ++ E))
    (hk : ∀ (x2 : Int32) (S : St) (H : Heap) (locs : List Loc) (ls : Array Slot), Wd D A s.heap H locs (WL cc ad S ++ E) → lv_has ls 4 [(0, .ref (ad 1)), (1, .int x1), (2, .int x2), (3, .int x3)] → k x2 S = some S' → W p l e ({ frames := 0, cells := 0, slots := 0, locals := 0 } : Room) s m args below meth c H locs 0 0 Q (F0 m 20 ls [])) :
    ∀ (fu : Nat) (x2 : Int32) (S : St) (H : Heap) (locs : List Loc) (ls : Array Slot), Wd D A s.heap H locs (WL cc ad S ++ E) → lv_has ls 4 [(0, .ref (ad 1)), (1, .int x1), (2, .int x2), (3, .int x3)] → fJ7_fill_53178L_L5 n x1 x3 k fu x2 S = some S' → W p l e ({ frames := 0, cells := 0, slots := 0, locals := 0 } : Room) s m args below meth c H locs 0 0 Q (F0 m 5 ls []) := by
  have hx := F.1
  have hb := F.2.1
  have hown := F.2.2.2.1
  have hts := F.2.2.2.2
  intro fu
  induction fu with
  | zero => intro x2 S H locs ls w hl hf; rw [fJ7_fill_53178L_L5] at hf; cases hf
  | succ fu ih =>
    intro x2 S H locs ls w hl hf
    rw [fJ7_fill_53178L_L5] at hf
    refine lv_iload_n hx hb dJ7_fill_53178_5 rfl (lv_at hl 2 rfl) ?_
    refine lv_iload_n hx hb dJ7_fill_53178_6 rfl (lv_at hl 3 rfl) ?_
    refine lv_icmp_ge (tgt := 20) hx hb dJ7_fill_53178_7 (by decide) (fun c1 => ?_) (fun c1 => ?_)
    · have hf := if_t hf c1
      exact hk _ _ _ _ _ w (lv_sub hl [0, 1, 2, 3] rfl) hf
    · have hf := if_f hf c1
      refine lv_aload_n hx hb dJ7_fill_53178_10 rfl (lv_at hl 0 rfl) ?_
      refine lv_iload_n hx hb dJ7_fill_53178_11 rfl (lv_at hl 2 rfl) ?_
      refine lv_iload_n hx hb dJ7_fill_53178_12 rfl (lv_at hl 1 rfl) ?_
      obtain ⟨g2, hf⟩ := if_g hf
      refine kiast F B w 1 gL_1 g2 bL_1 dJ7_fill_53178_13 (fun H locs w => ?_)
      obtain ⟨S3, eS3⟩ : ∃ z, z = sA S 0 (Int32.toNatClampNeg x2) x1 := ⟨_, rfl⟩
      rw [← eS3] at w
      have hf := lt_e hf eS3
      refine lv_iinc (v := (x2 + 1)) (lv' := [(2, .int (x2 + 1)), (0, .ref (ad 1)), (1, .int x1), (3, .int x3)]) hx hb dJ7_fill_53178_14 hl (k := 2) rfl rfl (by decide) rfl (fun ls hl => ?_)
      refine lv_goto (tgt := 5) hx hb dJ7_fill_53178_17 (by decide) ?_
      exact ih _ _ _ _ _ w (lv_sub hl [1, 2, 0, 3] rfl) hf
set_option maxHeartbeats 4000000 in
set_option maxRecDepth 100000 in
theorem tJ7_fill_53178L {l : Launch} {D : va_G} {cc : Nat → ClassId} {ak av : Nat → Nat} {ad : Nat → Nat} {E : va_W} {n : Nat} {S : St} {x1 : Int32} {S' : St} (hf : fJ7_fill_53178L n S x1 = some S') : CV l yJ7_fill_53178 wsJ7_fill_53178 ({ frames := 0, cells := 0, slots := 0, locals := 0 } : Room) D cc ak av [.ref (ad 1), .int x1] (WL cc ad S ++ E) (WL cc ad S' ++ E) := by
  refine mkV (c0 := cJ7_fill_53178) (nL := 4) (own := RJ7) rfl rfl (by decide) rfl rfl (Nat.le_of_ble_eq_true rfl) ?_
  intro p e s m args below meth c A Q ls F B hQ hl w
  have hx := F.1
  have hb := F.2.1
  have hown := F.2.2.2.1
  have hts := F.2.2.2.2
  have hl : lv_has ls 4 [(0, .ref (ad 1)), (1, .int x1)] := hl
  unfold fJ7_fill_53178L at hf
  refine lv_iconst (v := 0) hx hb dJ7_fill_53178_0 (by decide) ?_
  refine lv_istore_n (lv' := [(2, .int 0), (0, .ref (ad 1)), (1, .int x1)]) hx hb dJ7_fill_53178_1 rfl hl (by decide) rfl (fun ls hl => ?_)
  refine lv_aload_n hx hb dJ7_fill_53178_2 rfl (lv_at hl 1 rfl) ?_
  refine kalen (v := 4) F B w 1 0 gL_1 rfl rfl dJ7_fill_53178_3 ?_
  refine lv_istore_n (lv' := [(3, .int 4), (2, .int 0), (0, .ref (ad 1)), (1, .int x1)]) hx hb dJ7_fill_53178_4 rfl hl (by decide) rfl (fun ls hl => ?_)
  refine wJ7_fill_53178L_L5 F B hQ (fun x4 S5 H locs ls w hl hf => ?_) n _ _ _ _ _ w (lv_sub hl [2, 3, 1, 0] rfl) hf
  cases hf
  exact hQ _ _ _ _ dJ7_fill_53178_20 w

def fX3_clearL (n : Nat) (S : St) : Option St := ob (fJ7_fill_53178L n S 10) fun S2 => lt_ (sS S2 0 100) fun S3 => lt_ (sS S3 1 0) fun S4 => lt_ (sS S4 2 1000) fun S5 => lt_ (sS S5 3 0) fun S6 => lt_ (sS S6 4 1) fun S7 => lt_ (sS S7 5 10) fun S8 => lt_ (sS S8 6 2) fun S9 => lt_ (sS S9 7 0) fun S10 => some S10
set_option maxRecDepth 20000 in
theorem inX3_clearL_3 : ∀ w ∈ u_ws RX3 TX3 9, w ∈ wsX3_clear := by decide +kernel
set_option maxHeartbeats 4000000 in
set_option maxRecDepth 100000 in
theorem tX3_clearL {l : Launch} {D : va_G} {cc : Nat → ClassId} {ak av : Nat → Nat} {ad : Nat → Nat} {E : va_W} {n : Nat} {S : St} {S' : St} (hf : fX3_clearL n S = some S') : CV l yX3_clear wsX3_clear ({ frames := 1, cells := 0, slots := 0, locals := 23 } : Room) D cc ak av [.ref (ad 0)] (WL cc ad S ++ E) (WL cc ad S' ++ E) := by
  refine mkV (c0 := cX3_clear) (nL := 1) (own := RX3) rfl rfl (by decide) rfl rfl (Nat.le_of_ble_eq_true rfl) ?_
  intro p e s m args below meth c A Q ls F B hQ hl w
  have hx := F.1
  have hb := F.2.1
  have hown := F.2.2.2.1
  have hts := F.2.2.2.2
  have hl : lv_has ls 1 [(0, .ref (ad 0))] := hl
  unfold fX3_clearL at hf
  refine lv_aload_n hx hb dX3_clear_0 rfl (lv_at hl 0 rfl) ?_
  refine kget (v := .ref (ad 1)) F B w inX3_clearL_3 0 gL_0 rfl 0 (by decide) (hts (.fieldLink RX3 9 "LandReform$Law" "soilValues" "[I") (by decide +kernel)) rfl rfl dX3_clear_1 ?_
  refine lv_bipush (v := 10) hx hb dX3_clear_4 (by decide) ?_
  obtain ⟨S2, er1, hf⟩ := ob_e hf
  refine kSv (As := [.ref (ad 1), .int 10]) (rest := []) F B w (tJ7_fill_53178L er1) (va_cwS 2 hts gX3_clear_J7_fill_53178 rfl rfl rfl (by decide +kernel) ⟨Nat.le_of_ble_eq_true rfl, Nat.le_of_ble_eq_true rfl⟩) rfl hl.1 rfl (Nat.le_of_ble_eq_true rfl) dX3_clear_6 ⟨Nat.le_of_ble_eq_true rfl, Nat.le_of_ble_eq_true rfl⟩ (fun H locs w => ?_)
  refine lv_aload_n hx hb dX3_clear_9 rfl (lv_at hl 0 rfl) ?_
  refine lv_bipush (v := 100) hx hb dX3_clear_10 (by decide) ?_
  refine kput (ty := .int) F B w inX3_clearL_3 tyX3 tyX3_ok nmX3 0 gL_0 rfl 1 (by decide) (hts (.fieldLink RX3 24 "LandReform$Law" "ceiling" "I") (by decide +kernel)) rfl rfl (by decide +kernel) rfl rfl (Nat.le_of_ble_eq_true rfl) pL_0 dX3_clear_12 (fun H locs w => ?_)
  obtain ⟨S3, eS3⟩ : ∃ z, z = sS S2 0 100 := ⟨_, rfl⟩
  rw [← eS3] at w
  have hf := lt_e hf eS3
  refine lv_aload_n hx hb dX3_clear_15 rfl (lv_at hl 0 rfl) ?_
  refine lv_iconst (v := 0) hx hb dX3_clear_16 (by decide) ?_
  refine kput (ty := .int) F B w inX3_clearL_3 tyX3 tyX3_ok nmX3 0 gL_0 rfl 2 (by decide) (hts (.fieldLink RX3 28 "LandReform$Law" "family" "I") (by decide +kernel)) rfl rfl (by decide +kernel) rfl rfl (Nat.le_of_ble_eq_true rfl) pL_1 dX3_clear_17 (fun H locs w => ?_)
  obtain ⟨S4, eS4⟩ : ∃ z, z = sS S3 1 0 := ⟨_, rfl⟩
  rw [← eS4] at w
  have hf := lt_e hf eS4
  refine lv_aload_n hx hb dX3_clear_20 rfl (lv_at hl 0 rfl) ?_
  refine lv_sipush (v := 1000) hx hb dX3_clear_21 (by decide) ?_
  refine kput (ty := .int) F B w inX3_clearL_3 tyX3 tyX3_ok nmX3 0 gL_0 rfl 3 (by decide) (hts (.fieldLink RX3 31 "LandReform$Law" "lastFreeDay" "I") (by decide +kernel)) rfl rfl (by decide +kernel) rfl rfl (Nat.le_of_ble_eq_true rfl) pL_2 dX3_clear_24 (fun H locs w => ?_)
  obtain ⟨S5, eS5⟩ : ∃ z, z = sS S4 2 1000 := ⟨_, rfl⟩
  rw [← eS5] at w
  have hf := lt_e hf eS5
  refine lv_aload_n hx hb dX3_clear_27 rfl (lv_at hl 0 rfl) ?_
  refine lv_iconst (v := 0) hx hb dX3_clear_28 (by decide) ?_
  refine kput (ty := .int) F B w inX3_clearL_3 tyX3 tyX3_ok nmX3 0 gL_0 rfl 4 (by decide) (hts (.fieldLink RX3 34 "LandReform$Law" "exemptCrops" "I") (by decide +kernel)) rfl rfl (by decide +kernel) rfl rfl (Nat.le_of_ble_eq_true rfl) pL_3 dX3_clear_29 (fun H locs w => ?_)
  obtain ⟨S6, eS6⟩ : ∃ z, z = sS S5 3 0 := ⟨_, rfl⟩
  rw [← eS6] at w
  have hf := lt_e hf eS6
  refine lv_aload_n hx hb dX3_clear_32 rfl (lv_at hl 0 rfl) ?_
  refine lv_iconst (v := 1) hx hb dX3_clear_33 (by decide) ?_
  refine kput (ty := .int) F B w inX3_clearL_3 tyX3 tyX3_ok nmX3 0 gL_0 rfl 5 (by decide) (hts (.fieldLink RX3 37 "LandReform$Law" "price" "I") (by decide +kernel)) rfl rfl (by decide +kernel) rfl rfl (Nat.le_of_ble_eq_true rfl) pL_4 dX3_clear_34 (fun H locs w => ?_)
  obtain ⟨S7, eS7⟩ : ∃ z, z = sS S6 4 1 := ⟨_, rfl⟩
  rw [← eS7] at w
  have hf := lt_e hf eS7
  refine lv_aload_n hx hb dX3_clear_37 rfl (lv_at hl 0 rfl) ?_
  refine lv_bipush (v := 10) hx hb dX3_clear_38 (by decide) ?_
  refine kput (ty := .int) F B w inX3_clearL_3 tyX3 tyX3_ok nmX3 0 gL_0 rfl 6 (by decide) (hts (.fieldLink RX3 40 "LandReform$Law" "years" "I") (by decide +kernel)) rfl rfl (by decide +kernel) rfl rfl (Nat.le_of_ble_eq_true rfl) pL_5 dX3_clear_40 (fun H locs w => ?_)
  obtain ⟨S8, eS8⟩ : ∃ z, z = sS S7 5 10 := ⟨_, rfl⟩
  rw [← eS8] at w
  have hf := lt_e hf eS8
  refine lv_aload_n hx hb dX3_clear_43 rfl (lv_at hl 0 rfl) ?_
  refine lv_iconst (v := 2) hx hb dX3_clear_44 (by decide) ?_
  refine kput (ty := .int) F B w inX3_clearL_3 tyX3 tyX3_ok nmX3 0 gL_0 rfl 7 (by decide) (hts (.fieldLink RX3 43 "LandReform$Law" "shares" "I") (by decide +kernel)) rfl rfl (by decide +kernel) rfl rfl (Nat.le_of_ble_eq_true rfl) pL_6 dX3_clear_45 (fun H locs w => ?_)
  obtain ⟨S9, eS9⟩ : ∃ z, z = sS S8 6 2 := ⟨_, rfl⟩
  rw [← eS9] at w
  have hf := lt_e hf eS9
  refine lv_aload_n hx hb dX3_clear_48 rfl (lv_at hl 0 rfl) ?_
  refine lv_iconst (v := 0) hx hb dX3_clear_49 (by decide) ?_
  refine kput (ty := .int) F B w inX3_clearL_3 tyX3 tyX3_ok nmX3 0 gL_0 rfl 8 (by decide) (hts (.fieldLink RX3 46 "LandReform$Law" "statements" "I") (by decide +kernel)) rfl rfl (by decide +kernel) rfl rfl (Nat.le_of_ble_eq_true rfl) pL_7 dX3_clear_50 (fun H locs w => ?_)
  obtain ⟨S10, eS10⟩ : ∃ z, z = sS S9 7 0 := ⟨_, rfl⟩
  rw [← eS10] at w
  have hf := lt_e hf eS10
  cases hf
  exact hQ _ _ _ _ dX3_clear_53 w

section MNA
variable {p : Program} {l : Launch} {e : Env} {R : Room} {s : State} {m : MethodId} {args : Array Value} {below : List Frame} {meth : Method} {c : Code} {H : Heap} {locs : List Loc} {cells slots : Nat} {Q : State → Prop}
variable {D : va_G} {cc : Nat → ClassId} {ak av : Nat → Nat} {A : Nat → Prop}
variable {pc : Nat} {ls : Array Slot} {rest : List Value} {c0 : ByteArray} {nL index : Nat} {Ts : List Cond} {own : String}
theorem pl_rows {f : Nat → va_E} {r : Nat → Nat} {v : va_E} : va_pl ([] ++ (List.range 5).map r) (vr_up f ((List.range 5).map r) v) = [(r 0, v), (r 1, v), (r 2, v), (r 3, v), (r 4, v)] := by
  have h : va_pl ((List.range 5).map r) (vr_up f ((List.range 5).map r) v) = ((List.range 5).map r).map (fun a => (a, v)) := List.map_congr_left (fun a ha => by rw [vr_up_in ha])
  exact h
theorem kmna {a E : va_W} (F : CallFix p m c c0 nL s args Ts own) (B : Bd D cc ak av A s) (hO : aO s) (w : Wd D A s.heap H locs (a ++ E)) (hclink : (Cond.classLink own index "[[I").before args s = true) (harr : (Cond.arrayClass .int).before args s = true) (hcells : cells + (1 + 5) ≤ R.cells) (hslots : slots + (5 + 5 * 5) ≤ R.slots) (hdg : decode c0 pc = .ok (.multianewarray index 2, 4))
    (kk : ∀ (q : Nat) (r : Nat → Nat) (H1 : Heap), Wd D A s.heap H1 locs ((a ++ [(q, .inl (cc 4, 5, .inr (.inr (.inr (.inr (fun i => if i < 5 then some (r i) else none)))))), (r 0, .inl (cc 0, 5, .inl (fun _ => 0))), (r 1, .inl (cc 0, 5, .inl (fun _ => 0))), (r 2, .inl (cc 0, 5, .inl (fun _ => 0))), (r 3, .inl (cc 0, 5, .inl (fun _ => 0))), (r 4, .inl (cc 0, 5, .inl (fun _ => 0)))]) ++ E) → W p l e R s m args below meth c H1 locs (cells + 1 + 5) (slots + 5 + 5 * 5) Q (F0 m (pc + 4) ls (.ref q :: rest))) : W p l e R s m args below meth c H locs cells slots Q (F0 m pc ls (.int 5 :: .int 5 :: rest)) := by
  have w2 : Wd D A s.heap H locs ((a ++ E) ++ va_pl [] (fun _ => .inr (0, []))) := by
    show Wd D A s.heap H locs ((a ++ E) ++ [])
    rw [List.append_nil]; exact w
  have hcy : s.vm.findClass (FieldType.array .int).toString = some (cc 0) := by
    have h := nrI (B.1.2 0 _ rfl).2
    rw [show (FieldType.array .int).toString = "[" ++ FieldType.int.toString by decide +kernel]
    exact h
  refine va_mna (N' := 5) (K' := 5) (z := (5, .inl (fun _ => 0))) F.1 F.2.1 F.2.2.2.1 (ty := .int) (by rw [show "[" ++ (FieldType.array .int).toString = "[[I" by decide +kernel]; exact hclink) hO.2 harr hcy B.1 w2.1 w2.2.1 w2.2.2 B.2.2.1 (by decide) (by decide) (by decide) (by decide) (by decide) (by decide) (by decide) rfl rfl hcells hslots (fun c => ?_) hdg (fun q r cA H1 hri hrn hK hP hD hS => ?_)
  · show _ = arrV c 5 (fun _ => Value.int 0)
    rw [← arrV_new]
    rfl
  · have e1 := (hK.2 (tyl cc).length (cA, .array .int) (by simp)).2
    have e2 := (B.1.2 4 _ rfl).2
    have e3 : cA = cc 4 := Option.some.inj (Eq.trans (Eq.symm (show s.vm.findClass ("[" ++ (FieldType.array .int).toString) = some cA from e1)) (show s.vm.findClass ("[" ++ (FieldType.array .int).toString) = some (cc 4) from e2))
    subst e3
    rw [pl_rows] at hP hD
    have w3 : Wd D A s.heap H1 locs ((a ++ E) ++ ([(q, .inl (cc 4, 5, .inr (.inr (.inr (.inr (fun i => if i < 5 then some (r i) else none)))))), (r 0, .inl (cc 0, 5, .inl (fun _ => 0))), (r 1, .inl (cc 0, 5, .inl (fun _ => 0))), (r 2, .inl (cc 0, 5, .inl (fun _ => 0))), (r 3, .inl (cc 0, 5, .inl (fun _ => 0))), (r 4, .inl (cc 0, 5, .inl (fun _ => 0)))] : va_W)) := by
      refine ⟨?_, ?_, hS⟩
      · have := hP; rw [List.append_assoc (a ++ E)] at this; exact this
      · have := hD; rw [List.append_assoc (a ++ E)] at this; exact this
    exact kk q r H1 (Wd.swap w3)
end MNA

set_option maxRecDepth 20000 in
theorem inX4_init_4 : ∀ w ∈ u_ws RX4 TX4 5, w ∈ wsX4_init := by decide +kernel
set_option maxHeartbeats 8000000 in
set_option maxRecDepth 100000 in
theorem tX4_init {l : Launch} {D : va_G} {cc : Nat → ClassId} {ak av : Nat → Nat} {E : va_W} {b : Nat} : CK l yX4_init wsX4_init ({ frames := 1, cells := 3, slots := 120, locals := 12 } : Room) D cc ak av [.ref b] ([(b, .inr (4, [.null, .null, .null, .int 0, .int 0]))] ++ E) (fun w1 => ∃ (q1 : Nat) (q2 : Nat) (q3 : Nat), w1 = [(b, .inr (4, [.ref q1, .ref q2, .ref q3, .int 0, .int 0])), (q1, .inl (cc 0, 40, .inl (fun _ => 0))), (q2, .inl (cc 0, 40, .inl (fun _ => 0))), (q3, .inl (cc 3, 40, .inr (.inl (fun _ => 0))))] ++ E) 3 120 := by
  refine mkC (c0 := cX4_init) (nL := 1) (own := RX4) (by decide) rfl rfl (Nat.le_of_ble_eq_true rfl) ?_
  intro p e s m args below meth c A Q ls F B hO hin hQ hl w
  have hin : meth.name = "<init>" := hin
  have hx := F.1
  have hb := F.2.1
  have hown := F.2.2.2.1
  have hts := F.2.2.2.2
  have hl : lv_has ls 1 [(0, .ref b)] := hl
  refine lv_aload_n hx hb dX4_init_0 rfl (lv_at hl 0 rfl) ?_
  refine W.objInit hx hb hown (hts (.methodLink RX4 3 objectInit) (by decide +kernel)) (hts (.instanceMethod objectInit) (by decide +kernel)) (hts _ (List.mem_of_getElem? (i := 3) rfl)) rfl (by rw [F.2.2.1]; exact hl.1) rfl dX4_init_1 (Nat.le_of_ble_eq_true rfl) (Nat.le_of_ble_eq_true rfl) ?_
  refine W.eq (g2 := F0 m 4 ls []) rfl ?_
  refine lv_aload_n hx hb dX4_init_4 rfl (lv_at hl 0 rfl) ?_
  refine lv_bipush (v := 40) hx hb dX4_init_5 (by decide) ?_
  refine knewa (atype := .int) (a := [(b, .inr (4, [.null, .null, .null, .int 0, .int 0]))]) (E := E) F B w (hts (.arrayClass .int) (by decide +kernel)) rfl 0 rfl nrI (fun _ => nrI) (zI 40) (by decide) (by decide) (by decide) (Nat.le_of_ble_eq_true rfl) (Nat.le_of_ble_eq_true rfl) dX4_init_7 (fun q1 H w => ?_)
  have w : Wd D A s.heap _ _ ([(b, .inr (4, [.null, .null, .null, .int 0, .int 0])), (q1, .inl (cc 0, 40, .inl (fun _ => 0)))] ++ E) := w
  refine kputF (ty := .array .int) (v := .ref q1) F B w hin inX4_init_4 tyX4 tyX4_ok nmX4 0 rfl rfl 0 (by decide) (hts (.fieldLink RX4 9 "LandReform$People" "houses" "[I") (by decide +kernel)) rfl rfl (by decide +kernel) rfl rfl (Nat.le_of_ble_eq_true rfl) rfl dX4_init_9 (fun H locs w => ?_)
  have w : Wd D A s.heap _ _ ([(b, .inr (4, [.ref q1, .null, .null, .int 0, .int 0])), (q1, .inl (cc 0, 40, .inl (fun _ => 0)))] ++ E) := w
  refine lv_aload_n hx hb dX4_init_12 rfl (lv_at hl 0 rfl) ?_
  refine lv_bipush (v := 40) hx hb dX4_init_13 (by decide) ?_
  refine knewa (atype := .int) (a := [(b, .inr (4, [.ref q1, .null, .null, .int 0, .int 0])), (q1, .inl (cc 0, 40, .inl (fun _ => 0)))]) (E := E) F B w (hts (.arrayClass .int) (by decide +kernel)) rfl 0 rfl nrI (fun _ => nrI) (zI 40) (by decide) (by decide) (by decide) (Nat.le_of_ble_eq_true rfl) (Nat.le_of_ble_eq_true rfl) dX4_init_15 (fun q2 H w => ?_)
  have w : Wd D A s.heap _ _ ([(b, .inr (4, [.ref q1, .null, .null, .int 0, .int 0])), (q1, .inl (cc 0, 40, .inl (fun _ => 0))), (q2, .inl (cc 0, 40, .inl (fun _ => 0)))] ++ E) := w
  refine kputF (ty := .array .int) (v := .ref q2) F B w hin inX4_init_4 tyX4 tyX4_ok nmX4 0 rfl rfl 1 (by decide) (hts (.fieldLink RX4 15 "LandReform$People" "homes" "[I") (by decide +kernel)) rfl rfl (by decide +kernel) rfl rfl (Nat.le_of_ble_eq_true rfl) rfl dX4_init_17 (fun H locs w => ?_)
  have w : Wd D A s.heap _ _ ([(b, .inr (4, [.ref q1, .ref q2, .null, .int 0, .int 0])), (q1, .inl (cc 0, 40, .inl (fun _ => 0))), (q2, .inl (cc 0, 40, .inl (fun _ => 0)))] ++ E) := w
  refine lv_aload_n hx hb dX4_init_20 rfl (lv_at hl 0 rfl) ?_
  refine lv_bipush (v := 40) hx hb dX4_init_21 (by decide) ?_
  refine knewa (atype := .long) (a := [(b, .inr (4, [.ref q1, .ref q2, .null, .int 0, .int 0])), (q1, .inl (cc 0, 40, .inl (fun _ => 0))), (q2, .inl (cc 0, 40, .inl (fun _ => 0)))]) (E := E) F B w (hts (.arrayClass .long) (by decide +kernel)) rfl 3 rfl nrL (fun _ => nrL) (zL 40) (by decide) (by decide) (by decide) (Nat.le_of_ble_eq_true rfl) (Nat.le_of_ble_eq_true rfl) dX4_init_23 (fun q3 H w => ?_)
  have w : Wd D A s.heap _ _ ([(b, .inr (4, [.ref q1, .ref q2, .null, .int 0, .int 0])), (q1, .inl (cc 0, 40, .inl (fun _ => 0))), (q2, .inl (cc 0, 40, .inl (fun _ => 0))), (q3, .inl (cc 3, 40, .inr (.inl (fun _ => 0))))] ++ E) := w
  refine kputF (ty := .array .long) (v := .ref q3) F B w hin inX4_init_4 tyX4 tyX4_ok nmX4 0 rfl rfl 2 (by decide) (hts (.fieldLink RX4 18 "LandReform$People" "kin" "[J") (by decide +kernel)) rfl rfl (by decide +kernel) rfl rfl (Nat.le_of_ble_eq_true rfl) rfl dX4_init_25 (fun H locs w => ?_)
  have w : Wd D A s.heap _ _ ([(b, .inr (4, [.ref q1, .ref q2, .ref q3, .int 0, .int 0])), (q1, .inl (cc 0, 40, .inl (fun _ => 0))), (q2, .inl (cc 0, 40, .inl (fun _ => 0))), (q3, .inl (cc 3, 40, .inr (.inl (fun _ => 0))))] ++ E) := w
  exact hQ _ _ _ _ _ dX4_init_28 ⟨q1, q2, q3, rfl⟩ w

set_option maxRecDepth 20000 in
theorem inX2_init_2 : ∀ w ∈ u_ws RX2 TX2 12, w ∈ wsX2_init := by decide +kernel
set_option maxHeartbeats 8000000 in
set_option maxRecDepth 100000 in
theorem tX2_init {l : Launch} {D : va_G} {cc : Nat → ClassId} {ak av : Nat → Nat} {E : va_W} {b : Nat} : CK l yX2_init wsX2_init ({ frames := 1, cells := 9, slots := 960, locals := 12 } : Room) D cc ak av [.ref b] ([(b, .inr (2, [.null, .null, .null, .null, .null, .null, .int 0, .null, .null, .null, .int 0, .int 0]))] ++ E) (fun w1 => ∃ (q1 : Nat) (q2 : Nat) (q3 : Nat) (q4 : Nat) (q5 : Nat) (q6 : Nat) (q7 : Nat) (q8 : Nat) (q9 : Nat), w1 = [(b, .inr (2, [.ref q1, .ref q2, .ref q3, .ref q4, .ref q5, .ref q6, .int 0, .ref q7, .ref q8, .ref q9, .int 0, .int 0])), (q1, .inl (cc 0, 60, .inl (fun _ => 0))), (q2, .inl (cc 0, 60, .inl (fun _ => 0))), (q3, .inl (cc 0, 60, .inl (fun _ => 0))), (q4, .inl (cc 0, 60, .inl (fun _ => 0))), (q5, .inl (cc 0, 60, .inl (fun _ => 0))), (q6, .inl (cc 0, 60, .inl (fun _ => 0))), (q7, .inl (cc 0, 200, .inl (fun _ => 0))), (q8, .inl (cc 0, 200, .inl (fun _ => 0))), (q9, .inl (cc 0, 200, .inl (fun _ => 0)))] ++ E) 9 960 := by
  refine mkC (c0 := cX2_init) (nL := 1) (own := RX2) (by decide) rfl rfl (Nat.le_of_ble_eq_true rfl) ?_
  intro p e s m args below meth c A Q ls F B hO hin hQ hl w
  have hin : meth.name = "<init>" := hin
  have hx := F.1
  have hb := F.2.1
  have hown := F.2.2.2.1
  have hts := F.2.2.2.2
  have hl : lv_has ls 1 [(0, .ref b)] := hl
  refine lv_aload_n hx hb dX2_init_0 rfl (lv_at hl 0 rfl) ?_
  refine W.objInit hx hb hown (hts (.methodLink RX2 3 objectInit) (by decide +kernel)) (hts (.instanceMethod objectInit) (by decide +kernel)) (hts _ (List.mem_of_getElem? (i := 3) rfl)) rfl (by rw [F.2.2.1]; exact hl.1) rfl dX2_init_1 (Nat.le_of_ble_eq_true rfl) (Nat.le_of_ble_eq_true rfl) ?_
  refine W.eq (g2 := F0 m 4 ls []) rfl ?_
  refine lv_aload_n hx hb dX2_init_4 rfl (lv_at hl 0 rfl) ?_
  refine lv_bipush (v := 60) hx hb dX2_init_5 (by decide) ?_
  refine knewa (atype := .int) (a := [(b, .inr (2, [.null, .null, .null, .null, .null, .null, .int 0, .null, .null, .null, .int 0, .int 0]))]) (E := E) F B w (hts (.arrayClass .int) (by decide +kernel)) rfl 0 rfl nrI (fun _ => nrI) (zI 60) (by decide) (by decide) (by decide) (Nat.le_of_ble_eq_true rfl) (Nat.le_of_ble_eq_true rfl) dX2_init_7 (fun q1 H w => ?_)
  have w : Wd D A s.heap _ _ ([(b, .inr (2, [.null, .null, .null, .null, .null, .null, .int 0, .null, .null, .null, .int 0, .int 0])), (q1, .inl (cc 0, 60, .inl (fun _ => 0)))] ++ E) := w
  refine kputF (ty := .array .int) (v := .ref q1) F B w hin inX2_init_2 tyX2 tyX2_ok nmX2 0 rfl rfl 0 (by decide) (hts (.fieldLink RX2 9 "LandReform$Land" "places" "[I") (by decide +kernel)) rfl rfl (by decide +kernel) rfl rfl (Nat.le_of_ble_eq_true rfl) rfl dX2_init_9 (fun H locs w => ?_)
  have w : Wd D A s.heap _ _ ([(b, .inr (2, [.ref q1, .null, .null, .null, .null, .null, .int 0, .null, .null, .null, .int 0, .int 0])), (q1, .inl (cc 0, 60, .inl (fun _ => 0)))] ++ E) := w
  refine lv_aload_n hx hb dX2_init_12 rfl (lv_at hl 0 rfl) ?_
  refine lv_bipush (v := 60) hx hb dX2_init_13 (by decide) ?_
  refine knewa (atype := .int) (a := [(b, .inr (2, [.ref q1, .null, .null, .null, .null, .null, .int 0, .null, .null, .null, .int 0, .int 0])), (q1, .inl (cc 0, 60, .inl (fun _ => 0)))]) (E := E) F B w (hts (.arrayClass .int) (by decide +kernel)) rfl 0 rfl nrI (fun _ => nrI) (zI 60) (by decide) (by decide) (by decide) (Nat.le_of_ble_eq_true rfl) (Nat.le_of_ble_eq_true rfl) dX2_init_15 (fun q2 H w => ?_)
  have w : Wd D A s.heap _ _ ([(b, .inr (2, [.ref q1, .null, .null, .null, .null, .null, .int 0, .null, .null, .null, .int 0, .int 0])), (q1, .inl (cc 0, 60, .inl (fun _ => 0))), (q2, .inl (cc 0, 60, .inl (fun _ => 0)))] ++ E) := w
  refine kputF (ty := .array .int) (v := .ref q2) F B w hin inX2_init_2 tyX2 tyX2_ok nmX2 0 rfl rfl 1 (by decide) (hts (.fieldLink RX2 15 "LandReform$Land" "areas" "[I") (by decide +kernel)) rfl rfl (by decide +kernel) rfl rfl (Nat.le_of_ble_eq_true rfl) rfl dX2_init_17 (fun H locs w => ?_)
  have w : Wd D A s.heap _ _ ([(b, .inr (2, [.ref q1, .ref q2, .null, .null, .null, .null, .int 0, .null, .null, .null, .int 0, .int 0])), (q1, .inl (cc 0, 60, .inl (fun _ => 0))), (q2, .inl (cc 0, 60, .inl (fun _ => 0)))] ++ E) := w
  refine lv_aload_n hx hb dX2_init_20 rfl (lv_at hl 0 rfl) ?_
  refine lv_bipush (v := 60) hx hb dX2_init_21 (by decide) ?_
  refine knewa (atype := .int) (a := [(b, .inr (2, [.ref q1, .ref q2, .null, .null, .null, .null, .int 0, .null, .null, .null, .int 0, .int 0])), (q1, .inl (cc 0, 60, .inl (fun _ => 0))), (q2, .inl (cc 0, 60, .inl (fun _ => 0)))]) (E := E) F B w (hts (.arrayClass .int) (by decide +kernel)) rfl 0 rfl nrI (fun _ => nrI) (zI 60) (by decide) (by decide) (by decide) (Nat.le_of_ble_eq_true rfl) (Nat.le_of_ble_eq_true rfl) dX2_init_23 (fun q3 H w => ?_)
  have w : Wd D A s.heap _ _ ([(b, .inr (2, [.ref q1, .ref q2, .null, .null, .null, .null, .int 0, .null, .null, .null, .int 0, .int 0])), (q1, .inl (cc 0, 60, .inl (fun _ => 0))), (q2, .inl (cc 0, 60, .inl (fun _ => 0))), (q3, .inl (cc 0, 60, .inl (fun _ => 0)))] ++ E) := w
  refine kputF (ty := .array .int) (v := .ref q3) F B w hin inX2_init_2 tyX2 tyX2_ok nmX2 0 rfl rfl 2 (by decide) (hts (.fieldLink RX2 18 "LandReform$Land" "soils" "[I") (by decide +kernel)) rfl rfl (by decide +kernel) rfl rfl (Nat.le_of_ble_eq_true rfl) rfl dX2_init_25 (fun H locs w => ?_)
  have w : Wd D A s.heap _ _ ([(b, .inr (2, [.ref q1, .ref q2, .ref q3, .null, .null, .null, .int 0, .null, .null, .null, .int 0, .int 0])), (q1, .inl (cc 0, 60, .inl (fun _ => 0))), (q2, .inl (cc 0, 60, .inl (fun _ => 0))), (q3, .inl (cc 0, 60, .inl (fun _ => 0)))] ++ E) := w
  refine lv_aload_n hx hb dX2_init_28 rfl (lv_at hl 0 rfl) ?_
  refine lv_bipush (v := 60) hx hb dX2_init_29 (by decide) ?_
  refine knewa (atype := .int) (a := [(b, .inr (2, [.ref q1, .ref q2, .ref q3, .null, .null, .null, .int 0, .null, .null, .null, .int 0, .int 0])), (q1, .inl (cc 0, 60, .inl (fun _ => 0))), (q2, .inl (cc 0, 60, .inl (fun _ => 0))), (q3, .inl (cc 0, 60, .inl (fun _ => 0)))]) (E := E) F B w (hts (.arrayClass .int) (by decide +kernel)) rfl 0 rfl nrI (fun _ => nrI) (zI 60) (by decide) (by decide) (by decide) (Nat.le_of_ble_eq_true rfl) (Nat.le_of_ble_eq_true rfl) dX2_init_31 (fun q4 H w => ?_)
  have w : Wd D A s.heap _ _ ([(b, .inr (2, [.ref q1, .ref q2, .ref q3, .null, .null, .null, .int 0, .null, .null, .null, .int 0, .int 0])), (q1, .inl (cc 0, 60, .inl (fun _ => 0))), (q2, .inl (cc 0, 60, .inl (fun _ => 0))), (q3, .inl (cc 0, 60, .inl (fun _ => 0))), (q4, .inl (cc 0, 60, .inl (fun _ => 0)))] ++ E) := w
  refine kputF (ty := .array .int) (v := .ref q4) F B w hin inX2_init_2 tyX2 tyX2_ok nmX2 0 rfl rfl 3 (by decide) (hts (.fieldLink RX2 21 "LandReform$Land" "crops" "[I") (by decide +kernel)) rfl rfl (by decide +kernel) rfl rfl (Nat.le_of_ble_eq_true rfl) rfl dX2_init_33 (fun H locs w => ?_)
  have w : Wd D A s.heap _ _ ([(b, .inr (2, [.ref q1, .ref q2, .ref q3, .ref q4, .null, .null, .int 0, .null, .null, .null, .int 0, .int 0])), (q1, .inl (cc 0, 60, .inl (fun _ => 0))), (q2, .inl (cc 0, 60, .inl (fun _ => 0))), (q3, .inl (cc 0, 60, .inl (fun _ => 0))), (q4, .inl (cc 0, 60, .inl (fun _ => 0)))] ++ E) := w
  refine lv_aload_n hx hb dX2_init_36 rfl (lv_at hl 0 rfl) ?_
  refine lv_bipush (v := 60) hx hb dX2_init_37 (by decide) ?_
  refine knewa (atype := .int) (a := [(b, .inr (2, [.ref q1, .ref q2, .ref q3, .ref q4, .null, .null, .int 0, .null, .null, .null, .int 0, .int 0])), (q1, .inl (cc 0, 60, .inl (fun _ => 0))), (q2, .inl (cc 0, 60, .inl (fun _ => 0))), (q3, .inl (cc 0, 60, .inl (fun _ => 0))), (q4, .inl (cc 0, 60, .inl (fun _ => 0)))]) (E := E) F B w (hts (.arrayClass .int) (by decide +kernel)) rfl 0 rfl nrI (fun _ => nrI) (zI 60) (by decide) (by decide) (by decide) (Nat.le_of_ble_eq_true rfl) (Nat.le_of_ble_eq_true rfl) dX2_init_39 (fun q5 H w => ?_)
  have w : Wd D A s.heap _ _ ([(b, .inr (2, [.ref q1, .ref q2, .ref q3, .ref q4, .null, .null, .int 0, .null, .null, .null, .int 0, .int 0])), (q1, .inl (cc 0, 60, .inl (fun _ => 0))), (q2, .inl (cc 0, 60, .inl (fun _ => 0))), (q3, .inl (cc 0, 60, .inl (fun _ => 0))), (q4, .inl (cc 0, 60, .inl (fun _ => 0))), (q5, .inl (cc 0, 60, .inl (fun _ => 0)))] ++ E) := w
  refine kputF (ty := .array .int) (v := .ref q5) F B w hin inX2_init_2 tyX2 tyX2_ok nmX2 0 rfl rfl 4 (by decide) (hts (.fieldLink RX2 24 "LandReform$Land" "firstOwners" "[I") (by decide +kernel)) rfl rfl (by decide +kernel) rfl rfl (Nat.le_of_ble_eq_true rfl) rfl dX2_init_41 (fun H locs w => ?_)
  have w : Wd D A s.heap _ _ ([(b, .inr (2, [.ref q1, .ref q2, .ref q3, .ref q4, .ref q5, .null, .int 0, .null, .null, .null, .int 0, .int 0])), (q1, .inl (cc 0, 60, .inl (fun _ => 0))), (q2, .inl (cc 0, 60, .inl (fun _ => 0))), (q3, .inl (cc 0, 60, .inl (fun _ => 0))), (q4, .inl (cc 0, 60, .inl (fun _ => 0))), (q5, .inl (cc 0, 60, .inl (fun _ => 0)))] ++ E) := w
  refine lv_aload_n hx hb dX2_init_44 rfl (lv_at hl 0 rfl) ?_
  refine lv_bipush (v := 60) hx hb dX2_init_45 (by decide) ?_
  refine knewa (atype := .int) (a := [(b, .inr (2, [.ref q1, .ref q2, .ref q3, .ref q4, .ref q5, .null, .int 0, .null, .null, .null, .int 0, .int 0])), (q1, .inl (cc 0, 60, .inl (fun _ => 0))), (q2, .inl (cc 0, 60, .inl (fun _ => 0))), (q3, .inl (cc 0, 60, .inl (fun _ => 0))), (q4, .inl (cc 0, 60, .inl (fun _ => 0))), (q5, .inl (cc 0, 60, .inl (fun _ => 0)))]) (E := E) F B w (hts (.arrayClass .int) (by decide +kernel)) rfl 0 rfl nrI (fun _ => nrI) (zI 60) (by decide) (by decide) (by decide) (Nat.le_of_ble_eq_true rfl) (Nat.le_of_ble_eq_true rfl) dX2_init_47 (fun q6 H w => ?_)
  have w : Wd D A s.heap _ _ ([(b, .inr (2, [.ref q1, .ref q2, .ref q3, .ref q4, .ref q5, .null, .int 0, .null, .null, .null, .int 0, .int 0])), (q1, .inl (cc 0, 60, .inl (fun _ => 0))), (q2, .inl (cc 0, 60, .inl (fun _ => 0))), (q3, .inl (cc 0, 60, .inl (fun _ => 0))), (q4, .inl (cc 0, 60, .inl (fun _ => 0))), (q5, .inl (cc 0, 60, .inl (fun _ => 0))), (q6, .inl (cc 0, 60, .inl (fun _ => 0)))] ++ E) := w
  refine kputF (ty := .array .int) (v := .ref q6) F B w hin inX2_init_2 tyX2 tyX2_ok nmX2 0 rfl rfl 5 (by decide) (hts (.fieldLink RX2 27 "LandReform$Land" "owners" "[I") (by decide +kernel)) rfl rfl (by decide +kernel) rfl rfl (Nat.le_of_ble_eq_true rfl) rfl dX2_init_49 (fun H locs w => ?_)
  have w : Wd D A s.heap _ _ ([(b, .inr (2, [.ref q1, .ref q2, .ref q3, .ref q4, .ref q5, .ref q6, .int 0, .null, .null, .null, .int 0, .int 0])), (q1, .inl (cc 0, 60, .inl (fun _ => 0))), (q2, .inl (cc 0, 60, .inl (fun _ => 0))), (q3, .inl (cc 0, 60, .inl (fun _ => 0))), (q4, .inl (cc 0, 60, .inl (fun _ => 0))), (q5, .inl (cc 0, 60, .inl (fun _ => 0))), (q6, .inl (cc 0, 60, .inl (fun _ => 0)))] ++ E) := w
  refine lv_aload_n hx hb dX2_init_52 rfl (lv_at hl 0 rfl) ?_
  refine lv_sipush (v := 200) hx hb dX2_init_53 (by decide) ?_
  refine knewa (atype := .int) (a := [(b, .inr (2, [.ref q1, .ref q2, .ref q3, .ref q4, .ref q5, .ref q6, .int 0, .null, .null, .null, .int 0, .int 0])), (q1, .inl (cc 0, 60, .inl (fun _ => 0))), (q2, .inl (cc 0, 60, .inl (fun _ => 0))), (q3, .inl (cc 0, 60, .inl (fun _ => 0))), (q4, .inl (cc 0, 60, .inl (fun _ => 0))), (q5, .inl (cc 0, 60, .inl (fun _ => 0))), (q6, .inl (cc 0, 60, .inl (fun _ => 0)))]) (E := E) F B w (hts (.arrayClass .int) (by decide +kernel)) rfl 0 rfl nrI (fun _ => nrI) (zI 200) (by decide) (by decide) (by decide) (Nat.le_of_ble_eq_true rfl) (Nat.le_of_ble_eq_true rfl) dX2_init_56 (fun q7 H w => ?_)
  have w : Wd D A s.heap _ _ ([(b, .inr (2, [.ref q1, .ref q2, .ref q3, .ref q4, .ref q5, .ref q6, .int 0, .null, .null, .null, .int 0, .int 0])), (q1, .inl (cc 0, 60, .inl (fun _ => 0))), (q2, .inl (cc 0, 60, .inl (fun _ => 0))), (q3, .inl (cc 0, 60, .inl (fun _ => 0))), (q4, .inl (cc 0, 60, .inl (fun _ => 0))), (q5, .inl (cc 0, 60, .inl (fun _ => 0))), (q6, .inl (cc 0, 60, .inl (fun _ => 0))), (q7, .inl (cc 0, 200, .inl (fun _ => 0)))] ++ E) := w
  refine kputF (ty := .array .int) (v := .ref q7) F B w hin inX2_init_2 tyX2 tyX2_ok nmX2 0 rfl rfl 7 (by decide) (hts (.fieldLink RX2 30 "LandReform$Land" "movedFields" "[I") (by decide +kernel)) rfl rfl (by decide +kernel) rfl rfl (Nat.le_of_ble_eq_true rfl) rfl dX2_init_58 (fun H locs w => ?_)
  have w : Wd D A s.heap _ _ ([(b, .inr (2, [.ref q1, .ref q2, .ref q3, .ref q4, .ref q5, .ref q6, .int 0, .ref q7, .null, .null, .int 0, .int 0])), (q1, .inl (cc 0, 60, .inl (fun _ => 0))), (q2, .inl (cc 0, 60, .inl (fun _ => 0))), (q3, .inl (cc 0, 60, .inl (fun _ => 0))), (q4, .inl (cc 0, 60, .inl (fun _ => 0))), (q5, .inl (cc 0, 60, .inl (fun _ => 0))), (q6, .inl (cc 0, 60, .inl (fun _ => 0))), (q7, .inl (cc 0, 200, .inl (fun _ => 0)))] ++ E) := w
  refine lv_aload_n hx hb dX2_init_61 rfl (lv_at hl 0 rfl) ?_
  refine lv_sipush (v := 200) hx hb dX2_init_62 (by decide) ?_
  refine knewa (atype := .int) (a := [(b, .inr (2, [.ref q1, .ref q2, .ref q3, .ref q4, .ref q5, .ref q6, .int 0, .ref q7, .null, .null, .int 0, .int 0])), (q1, .inl (cc 0, 60, .inl (fun _ => 0))), (q2, .inl (cc 0, 60, .inl (fun _ => 0))), (q3, .inl (cc 0, 60, .inl (fun _ => 0))), (q4, .inl (cc 0, 60, .inl (fun _ => 0))), (q5, .inl (cc 0, 60, .inl (fun _ => 0))), (q6, .inl (cc 0, 60, .inl (fun _ => 0))), (q7, .inl (cc 0, 200, .inl (fun _ => 0)))]) (E := E) F B w (hts (.arrayClass .int) (by decide +kernel)) rfl 0 rfl nrI (fun _ => nrI) (zI 200) (by decide) (by decide) (by decide) (Nat.le_of_ble_eq_true rfl) (Nat.le_of_ble_eq_true rfl) dX2_init_65 (fun q8 H w => ?_)
  have w : Wd D A s.heap _ _ ([(b, .inr (2, [.ref q1, .ref q2, .ref q3, .ref q4, .ref q5, .ref q6, .int 0, .ref q7, .null, .null, .int 0, .int 0])), (q1, .inl (cc 0, 60, .inl (fun _ => 0))), (q2, .inl (cc 0, 60, .inl (fun _ => 0))), (q3, .inl (cc 0, 60, .inl (fun _ => 0))), (q4, .inl (cc 0, 60, .inl (fun _ => 0))), (q5, .inl (cc 0, 60, .inl (fun _ => 0))), (q6, .inl (cc 0, 60, .inl (fun _ => 0))), (q7, .inl (cc 0, 200, .inl (fun _ => 0))), (q8, .inl (cc 0, 200, .inl (fun _ => 0)))] ++ E) := w
  refine kputF (ty := .array .int) (v := .ref q8) F B w hin inX2_init_2 tyX2 tyX2_ok nmX2 0 rfl rfl 8 (by decide) (hts (.fieldLink RX2 33 "LandReform$Land" "receivers" "[I") (by decide +kernel)) rfl rfl (by decide +kernel) rfl rfl (Nat.le_of_ble_eq_true rfl) rfl dX2_init_67 (fun H locs w => ?_)
  have w : Wd D A s.heap _ _ ([(b, .inr (2, [.ref q1, .ref q2, .ref q3, .ref q4, .ref q5, .ref q6, .int 0, .ref q7, .ref q8, .null, .int 0, .int 0])), (q1, .inl (cc 0, 60, .inl (fun _ => 0))), (q2, .inl (cc 0, 60, .inl (fun _ => 0))), (q3, .inl (cc 0, 60, .inl (fun _ => 0))), (q4, .inl (cc 0, 60, .inl (fun _ => 0))), (q5, .inl (cc 0, 60, .inl (fun _ => 0))), (q6, .inl (cc 0, 60, .inl (fun _ => 0))), (q7, .inl (cc 0, 200, .inl (fun _ => 0))), (q8, .inl (cc 0, 200, .inl (fun _ => 0)))] ++ E) := w
  refine lv_aload_n hx hb dX2_init_70 rfl (lv_at hl 0 rfl) ?_
  refine lv_sipush (v := 200) hx hb dX2_init_71 (by decide) ?_
  refine knewa (atype := .int) (a := [(b, .inr (2, [.ref q1, .ref q2, .ref q3, .ref q4, .ref q5, .ref q6, .int 0, .ref q7, .ref q8, .null, .int 0, .int 0])), (q1, .inl (cc 0, 60, .inl (fun _ => 0))), (q2, .inl (cc 0, 60, .inl (fun _ => 0))), (q3, .inl (cc 0, 60, .inl (fun _ => 0))), (q4, .inl (cc 0, 60, .inl (fun _ => 0))), (q5, .inl (cc 0, 60, .inl (fun _ => 0))), (q6, .inl (cc 0, 60, .inl (fun _ => 0))), (q7, .inl (cc 0, 200, .inl (fun _ => 0))), (q8, .inl (cc 0, 200, .inl (fun _ => 0)))]) (E := E) F B w (hts (.arrayClass .int) (by decide +kernel)) rfl 0 rfl nrI (fun _ => nrI) (zI 200) (by decide) (by decide) (by decide) (Nat.le_of_ble_eq_true rfl) (Nat.le_of_ble_eq_true rfl) dX2_init_74 (fun q9 H w => ?_)
  have w : Wd D A s.heap _ _ ([(b, .inr (2, [.ref q1, .ref q2, .ref q3, .ref q4, .ref q5, .ref q6, .int 0, .ref q7, .ref q8, .null, .int 0, .int 0])), (q1, .inl (cc 0, 60, .inl (fun _ => 0))), (q2, .inl (cc 0, 60, .inl (fun _ => 0))), (q3, .inl (cc 0, 60, .inl (fun _ => 0))), (q4, .inl (cc 0, 60, .inl (fun _ => 0))), (q5, .inl (cc 0, 60, .inl (fun _ => 0))), (q6, .inl (cc 0, 60, .inl (fun _ => 0))), (q7, .inl (cc 0, 200, .inl (fun _ => 0))), (q8, .inl (cc 0, 200, .inl (fun _ => 0))), (q9, .inl (cc 0, 200, .inl (fun _ => 0)))] ++ E) := w
  refine kputF (ty := .array .int) (v := .ref q9) F B w hin inX2_init_2 tyX2 tyX2_ok nmX2 0 rfl rfl 9 (by decide) (hts (.fieldLink RX2 36 "LandReform$Land" "days" "[I") (by decide +kernel)) rfl rfl (by decide +kernel) rfl rfl (Nat.le_of_ble_eq_true rfl) rfl dX2_init_76 (fun H locs w => ?_)
  have w : Wd D A s.heap _ _ ([(b, .inr (2, [.ref q1, .ref q2, .ref q3, .ref q4, .ref q5, .ref q6, .int 0, .ref q7, .ref q8, .ref q9, .int 0, .int 0])), (q1, .inl (cc 0, 60, .inl (fun _ => 0))), (q2, .inl (cc 0, 60, .inl (fun _ => 0))), (q3, .inl (cc 0, 60, .inl (fun _ => 0))), (q4, .inl (cc 0, 60, .inl (fun _ => 0))), (q5, .inl (cc 0, 60, .inl (fun _ => 0))), (q6, .inl (cc 0, 60, .inl (fun _ => 0))), (q7, .inl (cc 0, 200, .inl (fun _ => 0))), (q8, .inl (cc 0, 200, .inl (fun _ => 0))), (q9, .inl (cc 0, 200, .inl (fun _ => 0)))] ++ E) := w
  exact hQ _ _ _ _ _ dX2_init_79 ⟨q1, q2, q3, q4, q5, q6, q7, q8, q9, rfl⟩ w

set_option maxRecDepth 20000 in
theorem inX8_init_8 : ∀ w ∈ u_ws RX8 TX8 2, w ∈ wsX8_init := by decide +kernel
set_option maxHeartbeats 8000000 in
set_option maxRecDepth 100000 in
theorem tX8_init {l : Launch} {D : va_G} {cc : Nat → ClassId} {ak av : Nat → Nat} {E : va_W} {b : Nat} : CK l yX8_init wsX8_init ({ frames := 1, cells := 1, slots := 400, locals := 12 } : Room) D cc ak av [.ref b] ([(b, .inr (8, [.null, .int 0]))] ++ E) (fun w1 => ∃ (q1 : Nat), w1 = [(b, .inr (8, [.ref q1, .int 0])), (q1, .inl (cc 1, 400, .inl (fun _ => 0)))] ++ E) 1 400 := by
  refine mkC (c0 := cX8_init) (nL := 1) (own := RX8) (by decide) rfl rfl (Nat.le_of_ble_eq_true rfl) ?_
  intro p e s m args below meth c A Q ls F B hO hin hQ hl w
  have hin : meth.name = "<init>" := hin
  have hx := F.1
  have hb := F.2.1
  have hown := F.2.2.2.1
  have hts := F.2.2.2.2
  have hl : lv_has ls 1 [(0, .ref b)] := hl
  refine lv_aload_n hx hb dX8_init_0 rfl (lv_at hl 0 rfl) ?_
  refine W.objInit hx hb hown (hts (.methodLink RX8 3 objectInit) (by decide +kernel)) (hts (.instanceMethod objectInit) (by decide +kernel)) (hts _ (List.mem_of_getElem? (i := 3) rfl)) rfl (by rw [F.2.2.1]; exact hl.1) rfl dX8_init_1 (Nat.le_of_ble_eq_true rfl) (Nat.le_of_ble_eq_true rfl) ?_
  refine W.eq (g2 := F0 m 4 ls []) rfl ?_
  refine lv_aload_n hx hb dX8_init_4 rfl (lv_at hl 0 rfl) ?_
  refine lv_sipush (v := 400) hx hb dX8_init_5 (by decide) ?_
  refine knewa (atype := .byte) (a := [(b, .inr (8, [.null, .int 0]))]) (E := E) F B w (hts (.arrayClass .byte) (by decide +kernel)) rfl 1 rfl nrB (fun _ => nrB) (zB 400) (by decide) (by decide) (by decide) (Nat.le_of_ble_eq_true rfl) (Nat.le_of_ble_eq_true rfl) dX8_init_8 (fun q1 H w => ?_)
  have w : Wd D A s.heap _ _ ([(b, .inr (8, [.null, .int 0])), (q1, .inl (cc 1, 400, .inl (fun _ => 0)))] ++ E) := w
  refine kputF (ty := .array .byte) (v := .ref q1) F B w hin inX8_init_8 tyX8 tyX8_ok nmX8 0 rfl rfl 0 (by decide) (hts (.fieldLink RX8 9 "LandReform$Tape" "bytes" "[B") (by decide +kernel)) rfl rfl (by decide +kernel) rfl rfl (Nat.le_of_ble_eq_true rfl) rfl dX8_init_10 (fun H locs w => ?_)
  have w : Wd D A s.heap _ _ ([(b, .inr (8, [.ref q1, .int 0])), (q1, .inl (cc 1, 400, .inl (fun _ => 0)))] ++ E) := w
  exact hQ _ _ _ _ _ dX8_init_13 ⟨q1, rfl⟩ w

set_option maxRecDepth 20000 in
theorem inX1_init_1 : ∀ w ∈ u_ws RX1 TX1 10, w ∈ wsX1_init := by decide +kernel
set_option maxHeartbeats 8000000 in
set_option maxRecDepth 100000 in
theorem tX1_init {l : Launch} {D : va_G} {cc : Nat → ClassId} {ak av : Nat → Nat} {E : va_W} {b : Nat} : CK l yX1_init wsX1_init ({ frames := 1, cells := 4, slots := 144, locals := 12 } : Room) D cc ak av [.ref b] ([(b, .inr (1, [.null, .null, .null, .null, .int 0, .int 0, .int 0, .int 0, .int 0, .int 0]))] ++ E) (fun w1 => ∃ (q1 : Nat) (q2 : Nat) (q3 : Nat) (q4 : Nat), w1 = [(b, .inr (1, [.ref q1, .ref q2, .ref q3, .ref q4, .int 0, .int 0, .int 0, .int 0, .int 0, .int 0])), (q1, .inl (cc 0, 60, .inl (fun _ => 0))), (q2, .inl (cc 0, 60, .inl (fun _ => 0))), (q3, .inl (cc 0, 12, .inl (fun _ => 0))), (q4, .inl (cc 0, 12, .inl (fun _ => 0)))] ++ E) 4 144 := by
  refine mkC (c0 := cX1_init) (nL := 1) (own := RX1) (by decide) rfl rfl (Nat.le_of_ble_eq_true rfl) ?_
  intro p e s m args below meth c A Q ls F B hO hin hQ hl w
  have hin : meth.name = "<init>" := hin
  have hx := F.1
  have hb := F.2.1
  have hown := F.2.2.2.1
  have hts := F.2.2.2.2
  have hl : lv_has ls 1 [(0, .ref b)] := hl
  refine lv_aload_n hx hb dX1_init_0 rfl (lv_at hl 0 rfl) ?_
  refine W.objInit hx hb hown (hts (.methodLink RX1 3 objectInit) (by decide +kernel)) (hts (.instanceMethod objectInit) (by decide +kernel)) (hts _ (List.mem_of_getElem? (i := 3) rfl)) rfl (by rw [F.2.2.1]; exact hl.1) rfl dX1_init_1 (Nat.le_of_ble_eq_true rfl) (Nat.le_of_ble_eq_true rfl) ?_
  refine W.eq (g2 := F0 m 4 ls []) rfl ?_
  refine lv_aload_n hx hb dX1_init_4 rfl (lv_at hl 0 rfl) ?_
  refine lv_bipush (v := 60) hx hb dX1_init_5 (by decide) ?_
  refine knewa (atype := .int) (a := [(b, .inr (1, [.null, .null, .null, .null, .int 0, .int 0, .int 0, .int 0, .int 0, .int 0]))]) (E := E) F B w (hts (.arrayClass .int) (by decide +kernel)) rfl 0 rfl nrI (fun _ => nrI) (zI 60) (by decide) (by decide) (by decide) (Nat.le_of_ble_eq_true rfl) (Nat.le_of_ble_eq_true rfl) dX1_init_7 (fun q1 H w => ?_)
  have w : Wd D A s.heap _ _ ([(b, .inr (1, [.null, .null, .null, .null, .int 0, .int 0, .int 0, .int 0, .int 0, .int 0])), (q1, .inl (cc 0, 60, .inl (fun _ => 0)))] ++ E) := w
  refine kputF (ty := .array .int) (v := .ref q1) F B w hin inX1_init_1 tyX1 tyX1_ok nmX1 0 rfl rfl 0 (by decide) (hts (.fieldLink RX1 9 "LandReform$Holding" "countedOwners" "[I") (by decide +kernel)) rfl rfl (by decide +kernel) rfl rfl (Nat.le_of_ble_eq_true rfl) rfl dX1_init_9 (fun H locs w => ?_)
  have w : Wd D A s.heap _ _ ([(b, .inr (1, [.ref q1, .null, .null, .null, .int 0, .int 0, .int 0, .int 0, .int 0, .int 0])), (q1, .inl (cc 0, 60, .inl (fun _ => 0)))] ++ E) := w
  refine lv_aload_n hx hb dX1_init_12 rfl (lv_at hl 0 rfl) ?_
  refine lv_bipush (v := 60) hx hb dX1_init_13 (by decide) ?_
  refine knewa (atype := .int) (a := [(b, .inr (1, [.ref q1, .null, .null, .null, .int 0, .int 0, .int 0, .int 0, .int 0, .int 0])), (q1, .inl (cc 0, 60, .inl (fun _ => 0)))]) (E := E) F B w (hts (.arrayClass .int) (by decide +kernel)) rfl 0 rfl nrI (fun _ => nrI) (zI 60) (by decide) (by decide) (by decide) (Nat.le_of_ble_eq_true rfl) (Nat.le_of_ble_eq_true rfl) dX1_init_15 (fun q2 H w => ?_)
  have w : Wd D A s.heap _ _ ([(b, .inr (1, [.ref q1, .null, .null, .null, .int 0, .int 0, .int 0, .int 0, .int 0, .int 0])), (q1, .inl (cc 0, 60, .inl (fun _ => 0))), (q2, .inl (cc 0, 60, .inl (fun _ => 0)))] ++ E) := w
  refine kputF (ty := .array .int) (v := .ref q2) F B w hin inX1_init_1 tyX1 tyX1_ok nmX1 0 rfl rfl 1 (by decide) (hts (.fieldLink RX1 15 "LandReform$Holding" "counting" "[I") (by decide +kernel)) rfl rfl (by decide +kernel) rfl rfl (Nat.le_of_ble_eq_true rfl) rfl dX1_init_17 (fun H locs w => ?_)
  have w : Wd D A s.heap _ _ ([(b, .inr (1, [.ref q1, .ref q2, .null, .null, .int 0, .int 0, .int 0, .int 0, .int 0, .int 0])), (q1, .inl (cc 0, 60, .inl (fun _ => 0))), (q2, .inl (cc 0, 60, .inl (fun _ => 0)))] ++ E) := w
  refine lv_aload_n hx hb dX1_init_20 rfl (lv_at hl 0 rfl) ?_
  refine lv_bipush (v := 12) hx hb dX1_init_21 (by decide) ?_
  refine knewa (atype := .int) (a := [(b, .inr (1, [.ref q1, .ref q2, .null, .null, .int 0, .int 0, .int 0, .int 0, .int 0, .int 0])), (q1, .inl (cc 0, 60, .inl (fun _ => 0))), (q2, .inl (cc 0, 60, .inl (fun _ => 0)))]) (E := E) F B w (hts (.arrayClass .int) (by decide +kernel)) rfl 0 rfl nrI (fun _ => nrI) (zI 12) (by decide) (by decide) (by decide) (Nat.le_of_ble_eq_true rfl) (Nat.le_of_ble_eq_true rfl) dX1_init_23 (fun q3 H w => ?_)
  have w : Wd D A s.heap _ _ ([(b, .inr (1, [.ref q1, .ref q2, .null, .null, .int 0, .int 0, .int 0, .int 0, .int 0, .int 0])), (q1, .inl (cc 0, 60, .inl (fun _ => 0))), (q2, .inl (cc 0, 60, .inl (fun _ => 0))), (q3, .inl (cc 0, 12, .inl (fun _ => 0)))] ++ E) := w
  refine kputF (ty := .array .int) (v := .ref q3) F B w hin inX1_init_1 tyX1 tyX1_ok nmX1 0 rfl rfl 2 (by decide) (hts (.fieldLink RX1 18 "LandReform$Holding" "standardSteps" "[I") (by decide +kernel)) rfl rfl (by decide +kernel) rfl rfl (Nat.le_of_ble_eq_true rfl) rfl dX1_init_25 (fun H locs w => ?_)
  have w : Wd D A s.heap _ _ ([(b, .inr (1, [.ref q1, .ref q2, .ref q3, .null, .int 0, .int 0, .int 0, .int 0, .int 0, .int 0])), (q1, .inl (cc 0, 60, .inl (fun _ => 0))), (q2, .inl (cc 0, 60, .inl (fun _ => 0))), (q3, .inl (cc 0, 12, .inl (fun _ => 0)))] ++ E) := w
  refine lv_aload_n hx hb dX1_init_28 rfl (lv_at hl 0 rfl) ?_
  refine lv_bipush (v := 12) hx hb dX1_init_29 (by decide) ?_
  refine knewa (atype := .int) (a := [(b, .inr (1, [.ref q1, .ref q2, .ref q3, .null, .int 0, .int 0, .int 0, .int 0, .int 0, .int 0])), (q1, .inl (cc 0, 60, .inl (fun _ => 0))), (q2, .inl (cc 0, 60, .inl (fun _ => 0))), (q3, .inl (cc 0, 12, .inl (fun _ => 0)))]) (E := E) F B w (hts (.arrayClass .int) (by decide +kernel)) rfl 0 rfl nrI (fun _ => nrI) (zI 12) (by decide) (by decide) (by decide) (Nat.le_of_ble_eq_true rfl) (Nat.le_of_ble_eq_true rfl) dX1_init_31 (fun q4 H w => ?_)
  have w : Wd D A s.heap _ _ ([(b, .inr (1, [.ref q1, .ref q2, .ref q3, .null, .int 0, .int 0, .int 0, .int 0, .int 0, .int 0])), (q1, .inl (cc 0, 60, .inl (fun _ => 0))), (q2, .inl (cc 0, 60, .inl (fun _ => 0))), (q3, .inl (cc 0, 12, .inl (fun _ => 0))), (q4, .inl (cc 0, 12, .inl (fun _ => 0)))] ++ E) := w
  refine kputF (ty := .array .int) (v := .ref q4) F B w hin inX1_init_1 tyX1 tyX1_ok nmX1 0 rfl rfl 3 (by decide) (hts (.fieldLink RX1 21 "LandReform$Holding" "areaSteps" "[I") (by decide +kernel)) rfl rfl (by decide +kernel) rfl rfl (Nat.le_of_ble_eq_true rfl) rfl dX1_init_33 (fun H locs w => ?_)
  have w : Wd D A s.heap _ _ ([(b, .inr (1, [.ref q1, .ref q2, .ref q3, .ref q4, .int 0, .int 0, .int 0, .int 0, .int 0, .int 0])), (q1, .inl (cc 0, 60, .inl (fun _ => 0))), (q2, .inl (cc 0, 60, .inl (fun _ => 0))), (q3, .inl (cc 0, 12, .inl (fun _ => 0))), (q4, .inl (cc 0, 12, .inl (fun _ => 0)))] ++ E) := w
  exact hQ _ _ _ _ _ dX1_init_36 ⟨q1, q2, q3, q4, rfl⟩ w

set_option maxRecDepth 20000 in
theorem inX9_init_9 : ∀ w ∈ u_ws RX9 TX9 4, w ∈ wsX9_init := by decide +kernel
set_option maxHeartbeats 8000000 in
set_option maxRecDepth 100000 in
theorem tX9_init {l : Launch} {D : va_G} {cc : Nat → ClassId} {ak av : Nat → Nat} {E : va_W} {b : Nat} : CK l yX9_init wsX9_init ({ frames := 1, cells := 3, slots := 180, locals := 12 } : Room) D cc ak av [.ref b] ([(b, .inr (9, [.null, .null, .null, .int 0]))] ++ E) (fun w1 => ∃ (q1 : Nat) (q2 : Nat) (q3 : Nat), w1 = [(b, .inr (9, [.ref q1, .ref q2, .ref q3, .int 0])), (q1, .inl (cc 0, 60, .inl (fun _ => 0))), (q2, .inl (cc 0, 60, .inl (fun _ => 0))), (q3, .inl (cc 0, 60, .inl (fun _ => 0)))] ++ E) 3 180 := by
  refine mkC (c0 := cX9_init) (nL := 1) (own := RX9) (by decide) rfl rfl (Nat.le_of_ble_eq_true rfl) ?_
  intro p e s m args below meth c A Q ls F B hO hin hQ hl w
  have hin : meth.name = "<init>" := hin
  have hx := F.1
  have hb := F.2.1
  have hown := F.2.2.2.1
  have hts := F.2.2.2.2
  have hl : lv_has ls 1 [(0, .ref b)] := hl
  refine lv_aload_n hx hb dX9_init_0 rfl (lv_at hl 0 rfl) ?_
  refine W.objInit hx hb hown (hts (.methodLink RX9 3 objectInit) (by decide +kernel)) (hts (.instanceMethod objectInit) (by decide +kernel)) (hts _ (List.mem_of_getElem? (i := 3) rfl)) rfl (by rw [F.2.2.1]; exact hl.1) rfl dX9_init_1 (Nat.le_of_ble_eq_true rfl) (Nat.le_of_ble_eq_true rfl) ?_
  refine W.eq (g2 := F0 m 4 ls []) rfl ?_
  refine lv_aload_n hx hb dX9_init_4 rfl (lv_at hl 0 rfl) ?_
  refine lv_bipush (v := 60) hx hb dX9_init_5 (by decide) ?_
  refine knewa (atype := .int) (a := [(b, .inr (9, [.null, .null, .null, .int 0]))]) (E := E) F B w (hts (.arrayClass .int) (by decide +kernel)) rfl 0 rfl nrI (fun _ => nrI) (zI 60) (by decide) (by decide) (by decide) (Nat.le_of_ble_eq_true rfl) (Nat.le_of_ble_eq_true rfl) dX9_init_7 (fun q1 H w => ?_)
  have w : Wd D A s.heap _ _ ([(b, .inr (9, [.null, .null, .null, .int 0])), (q1, .inl (cc 0, 60, .inl (fun _ => 0)))] ++ E) := w
  refine kputF (ty := .array .int) (v := .ref q1) F B w hin inX9_init_9 tyX9 tyX9_ok nmX9 0 rfl rfl 0 (by decide) (hts (.fieldLink RX9 9 "LandReform$Tenancies" "fields" "[I") (by decide +kernel)) rfl rfl (by decide +kernel) rfl rfl (Nat.le_of_ble_eq_true rfl) rfl dX9_init_9 (fun H locs w => ?_)
  have w : Wd D A s.heap _ _ ([(b, .inr (9, [.ref q1, .null, .null, .int 0])), (q1, .inl (cc 0, 60, .inl (fun _ => 0)))] ++ E) := w
  refine lv_aload_n hx hb dX9_init_12 rfl (lv_at hl 0 rfl) ?_
  refine lv_bipush (v := 60) hx hb dX9_init_13 (by decide) ?_
  refine knewa (atype := .int) (a := [(b, .inr (9, [.ref q1, .null, .null, .int 0])), (q1, .inl (cc 0, 60, .inl (fun _ => 0)))]) (E := E) F B w (hts (.arrayClass .int) (by decide +kernel)) rfl 0 rfl nrI (fun _ => nrI) (zI 60) (by decide) (by decide) (by decide) (Nat.le_of_ble_eq_true rfl) (Nat.le_of_ble_eq_true rfl) dX9_init_15 (fun q2 H w => ?_)
  have w : Wd D A s.heap _ _ ([(b, .inr (9, [.ref q1, .null, .null, .int 0])), (q1, .inl (cc 0, 60, .inl (fun _ => 0))), (q2, .inl (cc 0, 60, .inl (fun _ => 0)))] ++ E) := w
  refine kputF (ty := .array .int) (v := .ref q2) F B w hin inX9_init_9 tyX9 tyX9_ok nmX9 0 rfl rfl 1 (by decide) (hts (.fieldLink RX9 15 "LandReform$Tenancies" "persons" "[I") (by decide +kernel)) rfl rfl (by decide +kernel) rfl rfl (Nat.le_of_ble_eq_true rfl) rfl dX9_init_17 (fun H locs w => ?_)
  have w : Wd D A s.heap _ _ ([(b, .inr (9, [.ref q1, .ref q2, .null, .int 0])), (q1, .inl (cc 0, 60, .inl (fun _ => 0))), (q2, .inl (cc 0, 60, .inl (fun _ => 0)))] ++ E) := w
  refine lv_aload_n hx hb dX9_init_20 rfl (lv_at hl 0 rfl) ?_
  refine lv_bipush (v := 60) hx hb dX9_init_21 (by decide) ?_
  refine knewa (atype := .int) (a := [(b, .inr (9, [.ref q1, .ref q2, .null, .int 0])), (q1, .inl (cc 0, 60, .inl (fun _ => 0))), (q2, .inl (cc 0, 60, .inl (fun _ => 0)))]) (E := E) F B w (hts (.arrayClass .int) (by decide +kernel)) rfl 0 rfl nrI (fun _ => nrI) (zI 60) (by decide) (by decide) (by decide) (Nat.le_of_ble_eq_true rfl) (Nat.le_of_ble_eq_true rfl) dX9_init_23 (fun q3 H w => ?_)
  have w : Wd D A s.heap _ _ ([(b, .inr (9, [.ref q1, .ref q2, .null, .int 0])), (q1, .inl (cc 0, 60, .inl (fun _ => 0))), (q2, .inl (cc 0, 60, .inl (fun _ => 0))), (q3, .inl (cc 0, 60, .inl (fun _ => 0)))] ++ E) := w
  refine kputF (ty := .array .int) (v := .ref q3) F B w hin inX9_init_9 tyX9 tyX9_ok nmX9 0 rfl rfl 2 (by decide) (hts (.fieldLink RX9 18 "LandReform$Tenancies" "yearSets" "[I") (by decide +kernel)) rfl rfl (by decide +kernel) rfl rfl (Nat.le_of_ble_eq_true rfl) rfl dX9_init_25 (fun H locs w => ?_)
  have w : Wd D A s.heap _ _ ([(b, .inr (9, [.ref q1, .ref q2, .ref q3, .int 0])), (q1, .inl (cc 0, 60, .inl (fun _ => 0))), (q2, .inl (cc 0, 60, .inl (fun _ => 0))), (q3, .inl (cc 0, 60, .inl (fun _ => 0)))] ++ E) := w
  exact hQ _ _ _ _ _ dX9_init_28 ⟨q1, q2, q3, rfl⟩ w

set_option maxRecDepth 20000 in
theorem inX0_init_0 : ∀ w ∈ u_ws RX0 TX0 3, w ∈ wsX0_init := by decide +kernel
set_option maxHeartbeats 8000000 in
set_option maxRecDepth 100000 in
theorem tX0_init {l : Launch} {D : va_G} {cc : Nat → ClassId} {ak av : Nat → Nat} {E : va_W} {b : Nat} : CK l yX0_init wsX0_init ({ frames := 1, cells := 7, slots := 62, locals := 12 } : Room) D cc ak av [.ref b] ([(b, .inr (0, [.null, .null, .int 0]))] ++ E) (fun w1 => ∃ (q1 : Nat) (q2 : Nat) (r3 : Nat → Nat), w1 = [(b, .inr (0, [.ref q1, .ref q2, .int 0])), (q1, .inl (cc 0, 32, .inl (fun _ => 0))), (q2, .inl (cc 4, 5, .inr (.inr (.inr (.inr (fun i => if i < 5 then some (r3 i) else none)))))), ((r3 0), .inl (cc 0, 5, .inl (fun _ => 0))), ((r3 1), .inl (cc 0, 5, .inl (fun _ => 0))), ((r3 2), .inl (cc 0, 5, .inl (fun _ => 0))), ((r3 3), .inl (cc 0, 5, .inl (fun _ => 0))), ((r3 4), .inl (cc 0, 5, .inl (fun _ => 0)))] ++ E) 7 62 := by
  refine mkC (c0 := cX0_init) (nL := 1) (own := RX0) (by decide) rfl rfl (Nat.le_of_ble_eq_true rfl) ?_
  intro p e s m args below meth c A Q ls F B hO hin hQ hl w
  have hin : meth.name = "<init>" := hin
  have hx := F.1
  have hb := F.2.1
  have hown := F.2.2.2.1
  have hts := F.2.2.2.2
  have hl : lv_has ls 1 [(0, .ref b)] := hl
  refine lv_aload_n hx hb dX0_init_0 rfl (lv_at hl 0 rfl) ?_
  refine W.objInit hx hb hown (hts (.methodLink RX0 3 objectInit) (by decide +kernel)) (hts (.instanceMethod objectInit) (by decide +kernel)) (hts _ (List.mem_of_getElem? (i := 3) rfl)) rfl (by rw [F.2.2.1]; exact hl.1) rfl dX0_init_1 (Nat.le_of_ble_eq_true rfl) (Nat.le_of_ble_eq_true rfl) ?_
  refine W.eq (g2 := F0 m 4 ls []) rfl ?_
  refine lv_aload_n hx hb dX0_init_4 rfl (lv_at hl 0 rfl) ?_
  refine lv_bipush (v := 32) hx hb dX0_init_5 (by decide) ?_
  refine knewa (atype := .int) (a := [(b, .inr (0, [.null, .null, .int 0]))]) (E := E) F B w (hts (.arrayClass .int) (by decide +kernel)) rfl 0 rfl nrI (fun _ => nrI) (zI 32) (by decide) (by decide) (by decide) (Nat.le_of_ble_eq_true rfl) (Nat.le_of_ble_eq_true rfl) dX0_init_7 (fun q1 H w => ?_)
  have w : Wd D A s.heap _ _ ([(b, .inr (0, [.null, .null, .int 0])), (q1, .inl (cc 0, 32, .inl (fun _ => 0)))] ++ E) := w
  refine kputF (ty := .array .int) (v := .ref q1) F B w hin inX0_init_0 tyX0 tyX0_ok nmX0 0 rfl rfl 0 (by decide) (hts (.fieldLink RX0 9 "LandReform$Giving" "leastSums" "[I") (by decide +kernel)) rfl rfl (by decide +kernel) rfl rfl (Nat.le_of_ble_eq_true rfl) rfl dX0_init_9 (fun H locs w => ?_)
  have w : Wd D A s.heap _ _ ([(b, .inr (0, [.ref q1, .null, .int 0])), (q1, .inl (cc 0, 32, .inl (fun _ => 0)))] ++ E) := w
  refine lv_aload_n hx hb dX0_init_12 rfl (lv_at hl 0 rfl) ?_
  refine lv_iconst (v := 5) hx hb dX0_init_13 (by decide) ?_
  refine lv_iconst (v := 5) hx hb dX0_init_14 (by decide) ?_
  refine kmna (a := [(b, .inr (0, [.ref q1, .null, .int 0])), (q1, .inl (cc 0, 32, .inl (fun _ => 0)))]) (E := E) F B hO w (hts (.classLink RX0 15 "[[I") (by decide +kernel)) (hts (.arrayClass .int) (by decide +kernel)) (Nat.le_of_ble_eq_true rfl) (Nat.le_of_ble_eq_true rfl) dX0_init_15 (fun q2 r3 H w => ?_)
  have w : Wd D A s.heap _ _ ([(b, .inr (0, [.ref q1, .null, .int 0])), (q1, .inl (cc 0, 32, .inl (fun _ => 0))), (q2, .inl (cc 4, 5, .inr (.inr (.inr (.inr (fun i => if i < 5 then some (r3 i) else none)))))), ((r3 0), .inl (cc 0, 5, .inl (fun _ => 0))), ((r3 1), .inl (cc 0, 5, .inl (fun _ => 0))), ((r3 2), .inl (cc 0, 5, .inl (fun _ => 0))), ((r3 3), .inl (cc 0, 5, .inl (fun _ => 0))), ((r3 4), .inl (cc 0, 5, .inl (fun _ => 0)))] ++ E) := w
  refine kputF (ty := .array (.array .int)) (v := .ref q2) F B w hin inX0_init_0 tyX0 tyX0_ok nmX0 0 rfl rfl 1 (by decide) (hts (.fieldLink RX0 17 "LandReform$Giving" "distances" "[[I") (by decide +kernel)) rfl rfl (by decide +kernel) rfl rfl (Nat.le_of_ble_eq_true rfl) rfl dX0_init_19 (fun H locs w => ?_)
  have w : Wd D A s.heap _ _ ([(b, .inr (0, [.ref q1, .ref q2, .int 0])), (q1, .inl (cc 0, 32, .inl (fun _ => 0))), (q2, .inl (cc 4, 5, .inr (.inr (.inr (.inr (fun i => if i < 5 then some (r3 i) else none)))))), ((r3 0), .inl (cc 0, 5, .inl (fun _ => 0))), ((r3 1), .inl (cc 0, 5, .inl (fun _ => 0))), ((r3 2), .inl (cc 0, 5, .inl (fun _ => 0))), ((r3 3), .inl (cc 0, 5, .inl (fun _ => 0))), ((r3 4), .inl (cc 0, 5, .inl (fun _ => 0)))] ++ E) := w
  exact hQ _ _ _ _ _ dX0_init_22 ⟨q1, q2, r3, rfl⟩ w

set_option maxRecDepth 20000 in
theorem inX6_init_6 : ∀ w ∈ u_ws RX6 TX6 7, w ∈ wsX6_init := by decide +kernel
set_option maxHeartbeats 8000000 in
set_option maxRecDepth 100000 in
theorem tX6_init {l : Launch} {D : va_G} {cc : Nat → ClassId} {ak av : Nat → Nat} {E : va_W} {b : Nat} : CK l yX6_init wsX6_init ({ frames := 1, cells := 5, slots := 40, locals := 12 } : Room) D cc ak av [.ref b] ([(b, .inr (6, [.null, .null, .null, .null, .null, .int 0, .int 0]))] ++ E) (fun w1 => ∃ (q1 : Nat) (q2 : Nat) (q3 : Nat) (q4 : Nat) (q5 : Nat), w1 = [(b, .inr (6, [.ref q1, .ref q2, .ref q3, .ref q4, .ref q5, .int 0, .int 0])), (q1, .inl (cc 0, 8, .inl (fun _ => 0))), (q2, .inl (cc 0, 8, .inl (fun _ => 0))), (q3, .inl (cc 0, 8, .inl (fun _ => 0))), (q4, .inl (cc 0, 8, .inl (fun _ => 0))), (q5, .inl (cc 0, 8, .inl (fun _ => 0)))] ++ E) 5 40 := by
  refine mkC (c0 := cX6_init) (nL := 1) (own := RX6) (by decide) rfl rfl (Nat.le_of_ble_eq_true rfl) ?_
  intro p e s m args below meth c A Q ls F B hO hin hQ hl w
  have hin : meth.name = "<init>" := hin
  have hx := F.1
  have hb := F.2.1
  have hown := F.2.2.2.1
  have hts := F.2.2.2.2
  have hl : lv_has ls 1 [(0, .ref b)] := hl
  refine lv_aload_n hx hb dX6_init_0 rfl (lv_at hl 0 rfl) ?_
  refine W.objInit hx hb hown (hts (.methodLink RX6 3 objectInit) (by decide +kernel)) (hts (.instanceMethod objectInit) (by decide +kernel)) (hts _ (List.mem_of_getElem? (i := 3) rfl)) rfl (by rw [F.2.2.1]; exact hl.1) rfl dX6_init_1 (Nat.le_of_ble_eq_true rfl) (Nat.le_of_ble_eq_true rfl) ?_
  refine W.eq (g2 := F0 m 4 ls []) rfl ?_
  refine lv_aload_n hx hb dX6_init_4 rfl (lv_at hl 0 rfl) ?_
  refine lv_bipush (v := 8) hx hb dX6_init_5 (by decide) ?_
  refine knewa (atype := .int) (a := [(b, .inr (6, [.null, .null, .null, .null, .null, .int 0, .int 0]))]) (E := E) F B w (hts (.arrayClass .int) (by decide +kernel)) rfl 0 rfl nrI (fun _ => nrI) (zI 8) (by decide) (by decide) (by decide) (Nat.le_of_ble_eq_true rfl) (Nat.le_of_ble_eq_true rfl) dX6_init_7 (fun q1 H w => ?_)
  have w : Wd D A s.heap _ _ ([(b, .inr (6, [.null, .null, .null, .null, .null, .int 0, .int 0])), (q1, .inl (cc 0, 8, .inl (fun _ => 0)))] ++ E) := w
  refine kputF (ty := .array .int) (v := .ref q1) F B w hin inX6_init_6 tyX6 tyX6_ok nmX6 0 rfl rfl 0 (by decide) (hts (.fieldLink RX6 9 "LandReform$Rings" "homes" "[I") (by decide +kernel)) rfl rfl (by decide +kernel) rfl rfl (Nat.le_of_ble_eq_true rfl) rfl dX6_init_9 (fun H locs w => ?_)
  have w : Wd D A s.heap _ _ ([(b, .inr (6, [.ref q1, .null, .null, .null, .null, .int 0, .int 0])), (q1, .inl (cc 0, 8, .inl (fun _ => 0)))] ++ E) := w
  refine lv_aload_n hx hb dX6_init_12 rfl (lv_at hl 0 rfl) ?_
  refine lv_bipush (v := 8) hx hb dX6_init_13 (by decide) ?_
  refine knewa (atype := .int) (a := [(b, .inr (6, [.ref q1, .null, .null, .null, .null, .int 0, .int 0])), (q1, .inl (cc 0, 8, .inl (fun _ => 0)))]) (E := E) F B w (hts (.arrayClass .int) (by decide +kernel)) rfl 0 rfl nrI (fun _ => nrI) (zI 8) (by decide) (by decide) (by decide) (Nat.le_of_ble_eq_true rfl) (Nat.le_of_ble_eq_true rfl) dX6_init_15 (fun q2 H w => ?_)
  have w : Wd D A s.heap _ _ ([(b, .inr (6, [.ref q1, .null, .null, .null, .null, .int 0, .int 0])), (q1, .inl (cc 0, 8, .inl (fun _ => 0))), (q2, .inl (cc 0, 8, .inl (fun _ => 0)))] ++ E) := w
  refine kputF (ty := .array .int) (v := .ref q2) F B w hin inX6_init_6 tyX6 tyX6_ok nmX6 0 rfl rfl 1 (by decide) (hts (.fieldLink RX6 15 "LandReform$Rings" "fieldsHad" "[I") (by decide +kernel)) rfl rfl (by decide +kernel) rfl rfl (Nat.le_of_ble_eq_true rfl) rfl dX6_init_17 (fun H locs w => ?_)
  have w : Wd D A s.heap _ _ ([(b, .inr (6, [.ref q1, .ref q2, .null, .null, .null, .int 0, .int 0])), (q1, .inl (cc 0, 8, .inl (fun _ => 0))), (q2, .inl (cc 0, 8, .inl (fun _ => 0)))] ++ E) := w
  refine lv_aload_n hx hb dX6_init_20 rfl (lv_at hl 0 rfl) ?_
  refine lv_bipush (v := 8) hx hb dX6_init_21 (by decide) ?_
  refine knewa (atype := .int) (a := [(b, .inr (6, [.ref q1, .ref q2, .null, .null, .null, .int 0, .int 0])), (q1, .inl (cc 0, 8, .inl (fun _ => 0))), (q2, .inl (cc 0, 8, .inl (fun _ => 0)))]) (E := E) F B w (hts (.arrayClass .int) (by decide +kernel)) rfl 0 rfl nrI (fun _ => nrI) (zI 8) (by decide) (by decide) (by decide) (Nat.le_of_ble_eq_true rfl) (Nat.le_of_ble_eq_true rfl) dX6_init_23 (fun q3 H w => ?_)
  have w : Wd D A s.heap _ _ ([(b, .inr (6, [.ref q1, .ref q2, .null, .null, .null, .int 0, .int 0])), (q1, .inl (cc 0, 8, .inl (fun _ => 0))), (q2, .inl (cc 0, 8, .inl (fun _ => 0))), (q3, .inl (cc 0, 8, .inl (fun _ => 0)))] ++ E) := w
  refine kputF (ty := .array .int) (v := .ref q3) F B w hin inX6_init_6 tyX6 tyX6_ok nmX6 0 rfl rfl 2 (by decide) (hts (.fieldLink RX6 18 "LandReform$Rings" "placesHad" "[I") (by decide +kernel)) rfl rfl (by decide +kernel) rfl rfl (Nat.le_of_ble_eq_true rfl) rfl dX6_init_25 (fun H locs w => ?_)
  have w : Wd D A s.heap _ _ ([(b, .inr (6, [.ref q1, .ref q2, .ref q3, .null, .null, .int 0, .int 0])), (q1, .inl (cc 0, 8, .inl (fun _ => 0))), (q2, .inl (cc 0, 8, .inl (fun _ => 0))), (q3, .inl (cc 0, 8, .inl (fun _ => 0)))] ++ E) := w
  refine lv_aload_n hx hb dX6_init_28 rfl (lv_at hl 0 rfl) ?_
  refine lv_bipush (v := 8) hx hb dX6_init_29 (by decide) ?_
  refine knewa (atype := .int) (a := [(b, .inr (6, [.ref q1, .ref q2, .ref q3, .null, .null, .int 0, .int 0])), (q1, .inl (cc 0, 8, .inl (fun _ => 0))), (q2, .inl (cc 0, 8, .inl (fun _ => 0))), (q3, .inl (cc 0, 8, .inl (fun _ => 0)))]) (E := E) F B w (hts (.arrayClass .int) (by decide +kernel)) rfl 0 rfl nrI (fun _ => nrI) (zI 8) (by decide) (by decide) (by decide) (Nat.le_of_ble_eq_true rfl) (Nat.le_of_ble_eq_true rfl) dX6_init_31 (fun q4 H w => ?_)
  have w : Wd D A s.heap _ _ ([(b, .inr (6, [.ref q1, .ref q2, .ref q3, .null, .null, .int 0, .int 0])), (q1, .inl (cc 0, 8, .inl (fun _ => 0))), (q2, .inl (cc 0, 8, .inl (fun _ => 0))), (q3, .inl (cc 0, 8, .inl (fun _ => 0))), (q4, .inl (cc 0, 8, .inl (fun _ => 0)))] ++ E) := w
  refine kputF (ty := .array .int) (v := .ref q4) F B w hin inX6_init_6 tyX6 tyX6_ok nmX6 0 rfl rfl 3 (by decide) (hts (.fieldLink RX6 21 "LandReform$Rings" "fieldsGot" "[I") (by decide +kernel)) rfl rfl (by decide +kernel) rfl rfl (Nat.le_of_ble_eq_true rfl) rfl dX6_init_33 (fun H locs w => ?_)
  have w : Wd D A s.heap _ _ ([(b, .inr (6, [.ref q1, .ref q2, .ref q3, .ref q4, .null, .int 0, .int 0])), (q1, .inl (cc 0, 8, .inl (fun _ => 0))), (q2, .inl (cc 0, 8, .inl (fun _ => 0))), (q3, .inl (cc 0, 8, .inl (fun _ => 0))), (q4, .inl (cc 0, 8, .inl (fun _ => 0)))] ++ E) := w
  refine lv_aload_n hx hb dX6_init_36 rfl (lv_at hl 0 rfl) ?_
  refine lv_bipush (v := 8) hx hb dX6_init_37 (by decide) ?_
  refine knewa (atype := .int) (a := [(b, .inr (6, [.ref q1, .ref q2, .ref q3, .ref q4, .null, .int 0, .int 0])), (q1, .inl (cc 0, 8, .inl (fun _ => 0))), (q2, .inl (cc 0, 8, .inl (fun _ => 0))), (q3, .inl (cc 0, 8, .inl (fun _ => 0))), (q4, .inl (cc 0, 8, .inl (fun _ => 0)))]) (E := E) F B w (hts (.arrayClass .int) (by decide +kernel)) rfl 0 rfl nrI (fun _ => nrI) (zI 8) (by decide) (by decide) (by decide) (Nat.le_of_ble_eq_true rfl) (Nat.le_of_ble_eq_true rfl) dX6_init_39 (fun q5 H w => ?_)
  have w : Wd D A s.heap _ _ ([(b, .inr (6, [.ref q1, .ref q2, .ref q3, .ref q4, .null, .int 0, .int 0])), (q1, .inl (cc 0, 8, .inl (fun _ => 0))), (q2, .inl (cc 0, 8, .inl (fun _ => 0))), (q3, .inl (cc 0, 8, .inl (fun _ => 0))), (q4, .inl (cc 0, 8, .inl (fun _ => 0))), (q5, .inl (cc 0, 8, .inl (fun _ => 0)))] ++ E) := w
  refine kputF (ty := .array .int) (v := .ref q5) F B w hin inX6_init_6 tyX6 tyX6_ok nmX6 0 rfl rfl 4 (by decide) (hts (.fieldLink RX6 24 "LandReform$Rings" "pointedAt" "[I") (by decide +kernel)) rfl rfl (by decide +kernel) rfl rfl (Nat.le_of_ble_eq_true rfl) rfl dX6_init_41 (fun H locs w => ?_)
  have w : Wd D A s.heap _ _ ([(b, .inr (6, [.ref q1, .ref q2, .ref q3, .ref q4, .ref q5, .int 0, .int 0])), (q1, .inl (cc 0, 8, .inl (fun _ => 0))), (q2, .inl (cc 0, 8, .inl (fun _ => 0))), (q3, .inl (cc 0, 8, .inl (fun _ => 0))), (q4, .inl (cc 0, 8, .inl (fun _ => 0))), (q5, .inl (cc 0, 8, .inl (fun _ => 0)))] ++ E) := w
  exact hQ _ _ _ _ _ dX6_init_44 ⟨q1, q2, q3, q4, q5, rfl⟩ w

set_option maxRecDepth 20000 in
theorem inX5_init_5 : ∀ w ∈ u_ws RX5 TX5 5, w ∈ wsX5_init := by decide +kernel
set_option maxHeartbeats 8000000 in
set_option maxRecDepth 100000 in
theorem tX5_init {l : Launch} {D : va_G} {cc : Nat → ClassId} {ak av : Nat → Nat} {E : va_W} {b : Nat} {t0 : Nat} : CK l yX5_init wsX5_init ({ frames := 1, cells := 0, slots := 0, locals := 12 } : Room) D cc ak av [.ref b, .ref t0] ([(b, .inr (5, [.null, .int 0, .int 0, .int 0, .int 0]))] ++ E) (fun w1 => w1 = [(b, .inr (5, [.ref t0, .int 0, .int 0, .int 0, .int (-1)]))] ++ E) 0 0 := by
  refine mkC (c0 := cX5_init) (nL := 2) (own := RX5) (by decide) rfl rfl (Nat.le_of_ble_eq_true rfl) ?_
  intro p e s m args below meth c A Q ls F B hO hin hQ hl w
  have hin : meth.name = "<init>" := hin
  have hx := F.1
  have hb := F.2.1
  have hown := F.2.2.2.1
  have hts := F.2.2.2.2
  have hl : lv_has ls 2 [(0, .ref b), (1, .ref t0)] := hl
  refine lv_aload_n hx hb dX5_init_0 rfl (lv_at hl 0 rfl) ?_
  refine W.objInit hx hb hown (hts (.methodLink RX5 3 objectInit) (by decide +kernel)) (hts (.instanceMethod objectInit) (by decide +kernel)) (hts _ (List.mem_of_getElem? (i := 3) rfl)) rfl (by rw [F.2.2.1]; exact hl.1) rfl dX5_init_1 (Nat.le_of_ble_eq_true rfl) (Nat.le_of_ble_eq_true rfl) ?_
  refine W.eq (g2 := F0 m 4 ls []) rfl ?_
  refine lv_aload_n hx hb dX5_init_4 rfl (lv_at hl 0 rfl) ?_
  refine lv_iconst (v := (-1)) hx hb dX5_init_5 (by decide) ?_
  refine kput (ty := .int) (v := .int (-1)) F B w inX5_init_5 tyX5 tyX5_ok nmX5 0 rfl rfl 4 (by decide) (hts (.fieldLink RX5 9 "LandReform$Reader" "fault" "I") (by decide +kernel)) rfl rfl (by decide +kernel) rfl rfl (Nat.le_of_ble_eq_true rfl) rfl dX5_init_6 (fun H locs w => ?_)
  have w : Wd D A s.heap _ _ ([(b, .inr (5, [.null, .int 0, .int 0, .int 0, .int (-1)]))] ++ E) := w
  refine lv_aload_n hx hb dX5_init_9 rfl (lv_at hl 0 rfl) ?_
  refine lv_aload_n hx hb dX5_init_10 rfl (lv_at hl 1 rfl) ?_
  refine kputF (ty := .array .byte) (v := .ref t0) F B w hin inX5_init_5 tyX5 tyX5_ok nmX5 0 rfl rfl 0 (by decide) (hts (.fieldLink RX5 15 "LandReform$Reader" "text" "[B") (by decide +kernel)) rfl rfl (by decide +kernel) rfl rfl (Nat.le_of_ble_eq_true rfl) rfl dX5_init_11 (fun H locs w => ?_)
  have w : Wd D A s.heap _ _ ([(b, .inr (5, [.ref t0, .int 0, .int 0, .int 0, .int (-1)]))] ++ E) := w
  exact hQ _ _ _ _ _ dX5_init_14 rfl w

abbrev zSt : St := (fun _ => 0, fun _ _ => 0, fun _ => 0)
set_option maxRecDepth 20000 in
theorem inX3_init_3 : ∀ w ∈ u_ws RX3 TX3 9, w ∈ wsX3_init := by decide +kernel
set_option maxHeartbeats 8000000 in
set_option maxRecDepth 100000 in
theorem tX3_init {l : Launch} {D : va_G} {cc : Nat → ClassId} {ak av : Nat → Nat} {E : va_W} {b : Nat} {n : Nat} {SL : St} (hf : fX3_clearL n zSt = some SL) : CK l yX3_init wsX3_init ({ frames := 2, cells := 1, slots := 4, locals := 43 } : Room) D cc ak av [.ref b] ([(b, .inr (3, [.null, .int 0, .int 0, .int 0, .int 0, .int 0, .int 0, .int 0, .int 0]))] ++ E) (fun w1 => ∃ (q1 : Nat), w1 = [(b, .inr (3, [.ref q1, .int (SL.1 0), .int (SL.1 1), .int (SL.1 2), .int (SL.1 3), .int (SL.1 4), .int (SL.1 5), .int (SL.1 6), .int (SL.1 7)])), (q1, .inl (cc 0, 4, .inl (SL.2.1 0)))] ++ E) 1 4 := by
  refine mkC (c0 := cX3_init) (nL := 1) (own := RX3) (by decide) rfl rfl (Nat.le_of_ble_eq_true rfl) ?_
  intro p e s m args below meth c A Q ls F B hO hin hQ hl w
  have hin : meth.name = "<init>" := hin
  have hx := F.1
  have hb := F.2.1
  have hown := F.2.2.2.1
  have hts := F.2.2.2.2
  have hl : lv_has ls 1 [(0, .ref b)] := hl
  refine lv_aload_n hx hb dX3_init_0 rfl (lv_at hl 0 rfl) ?_
  refine W.objInit hx hb hown (hts (.methodLink RX3 3 objectInit) (by decide +kernel)) (hts (.instanceMethod objectInit) (by decide +kernel)) (hts _ (List.mem_of_getElem? (i := 3) rfl)) rfl (by rw [F.2.2.1]; exact hl.1) rfl dX3_init_1 (Nat.le_of_ble_eq_true rfl) (Nat.le_of_ble_eq_true rfl) ?_
  refine W.eq (g2 := F0 m 4 ls []) rfl ?_
  refine lv_aload_n hx hb dX3_init_4 rfl (lv_at hl 0 rfl) ?_
  refine lv_iconst (v := 4) hx hb dX3_init_5 (by decide) ?_
  refine knewa (atype := .int) (a := [(b, .inr (3, [.null, .int 0, .int 0, .int 0, .int 0, .int 0, .int 0, .int 0, .int 0]))]) (E := E) F B w (hts (.arrayClass .int) (by decide +kernel)) rfl 0 rfl nrI (fun _ => nrI) (zI 4) (by decide) (by decide) (by decide) (Nat.le_of_ble_eq_true rfl) (Nat.le_of_ble_eq_true rfl) dX3_init_6 (fun q1 H w => ?_)
  have w : Wd D A s.heap _ _ ([(b, .inr (3, [.null, .int 0, .int 0, .int 0, .int 0, .int 0, .int 0, .int 0, .int 0])), (q1, .inl (cc 0, 4, .inl (fun _ => 0)))] ++ E) := w
  refine kputF (ty := .array .int) (v := .ref q1) F B w hin inX3_init_3 tyX3 tyX3_ok nmX3 0 rfl rfl 0 (by decide) (hts (.fieldLink RX3 9 "LandReform$Law" "soilValues" "[I") (by decide +kernel)) rfl rfl (by decide +kernel) rfl rfl (Nat.le_of_ble_eq_true rfl) rfl dX3_init_8 (fun H locs w => ?_)
  have w : Wd D A s.heap _ _ ([(b, .inr (3, [.ref q1, .int 0, .int 0, .int 0, .int 0, .int 0, .int 0, .int 0, .int 0])), (q1, .inl (cc 0, 4, .inl (fun _ => 0)))] ++ E) := w
  refine lv_aload_n hx hb dX3_init_11 rfl (lv_at hl 0 rfl) ?_
  have w : Wd D A s.heap _ _ (WL cc (fun k => if k = 0 then b else q1) zSt ++ E) := w
  refine kVv (As := []) (rest := []) F B w (tX3_clearL hf) (cwV 0 hts gX3_init_X3_clear rfl rfl rfl (by decide +kernel) ⟨Nat.le_of_ble_eq_true rfl, Nat.le_of_ble_eq_true rfl⟩) 0 gL_0 rfl rfl hl.1 rfl (Nat.le_of_ble_eq_true rfl) dX3_init_12 ⟨Nat.le_of_ble_eq_true rfl, Nat.le_of_ble_eq_true rfl⟩ (fun H locs w => ?_)
  exact hQ _ _ _ _ _ dX3_init_15 ⟨q1, rfl⟩ w
