def fX11_isIn (x0 : Int32) (x1 : Int32) (x2 : Int32) : Option Int32 := if x0 < x1 then (some 0) else (if x2 < x0 then (some 0) else (some 1))
set_option maxHeartbeats 4000000 in
set_option maxRecDepth 100000 in
theorem tX11_isIn {l : Launch} {D : va_G} {cc : Nat → ClassId} {ak av : Nat → Nat} {w0 : va_W} {x0 : Int32} {x1 : Int32} {x2 : Int32} {r : Int32} (hf : fX11_isIn x0 x1 x2 = some r) : CI l yX11_isIn wsX11_isIn ({ frames := 0, cells := 0, slots := 0, locals := 0 } : Room) D cc ak av [.int x0, .int x1, .int x2] (w0) (w0) r := by
  refine mkZ (c0 := cX11_isIn) (nL := 3) (own := RX11) rfl rfl (by decide) rfl rfl (Nat.le_of_ble_eq_true rfl) ?_
  intro p e s m args below meth c A Q ls F B hQ hl w
  have hx := F.1
  have hb := F.2.1
  have hown := F.2.2.2.1
  have hts := F.2.2.2.2
  have hl : lv_has ls 3 [(0, .int x0), (1, .int x1), (2, .int x2)] := hl
  unfold fX11_isIn at hf
  refine lv_iload_n hx hb dX11_isIn_0 rfl (lv_at hl 0 rfl) ?_
  refine lv_iload_n hx hb dX11_isIn_1 rfl (lv_at hl 1 rfl) ?_
  refine lv_icmp_lt (tgt := 14) hx hb dX11_isIn_2 (by decide) (fun c1 => ?_) (fun c1 => ?_)
  · have hf := if_t hf c1
    refine lv_iconst (v := 0) hx hb dX11_isIn_14 (by decide) ?_
    cases hf
    exact hQ _ _ _ _ dX11_isIn_15 (by decide) w
  · have hf := if_f hf c1
    refine lv_iload_n hx hb dX11_isIn_5 rfl (lv_at hl 0 rfl) ?_
    refine lv_iload_n hx hb dX11_isIn_6 rfl (lv_at hl 2 rfl) ?_
    refine lv_icmp_gt (tgt := 14) hx hb dX11_isIn_7 (by decide) (fun c2 => ?_) (fun c2 => ?_)
    · have hf := if_t hf c2
      refine lv_iconst (v := 0) hx hb dX11_isIn_14 (by decide) ?_
      cases hf
      exact hQ _ _ _ _ dX11_isIn_15 (by decide) w
    · have hf := if_f hf c2
      refine lv_iconst (v := 1) hx hb dX11_isIn_10 (by decide) ?_
      refine lv_goto (tgt := 15) hx hb dX11_isIn_11 (by decide) ?_
      cases hf
      exact hQ _ _ _ _ dX11_isIn_15 (by decide) w

def fX11_one (x0 : Int32) : Option Int32 := if x0 = 0 then (some 0) else (some 1)
set_option maxHeartbeats 4000000 in
set_option maxRecDepth 100000 in
theorem tX11_one {l : Launch} {D : va_G} {cc : Nat → ClassId} {ak av : Nat → Nat} {w0 : va_W} {x0 : Int32} {r : Int32} (hf : fX11_one x0 = some r) : CI l yX11_one wsX11_one ({ frames := 0, cells := 0, slots := 0, locals := 0 } : Room) D cc ak av [.int x0] (w0) (w0) r := by
  refine mkI (c0 := cX11_one) (nL := 1) (own := RX11) rfl rfl (by decide) rfl rfl (Nat.le_of_ble_eq_true rfl) ?_
  intro p e s m args below meth c A Q ls F B hQ hl w
  have hx := F.1
  have hb := F.2.1
  have hown := F.2.2.2.1
  have hts := F.2.2.2.2
  have hl : lv_has ls 1 [(0, .int x0)] := hl
  unfold fX11_one at hf
  refine lv_iload_n hx hb dX11_one_0 rfl (lv_at hl 0 rfl) ?_
  refine lv_if_eq (tgt := 8) hx hb dX11_one_1 (by decide) (fun c1 => ?_) (fun c1 => ?_)
  · have hf := if_t hf c1
    refine lv_iconst (v := 0) hx hb dX11_one_8 (by decide) ?_
    cases hf
    exact hQ _ _ _ _ dX11_one_9 w
  · have hf := if_f hf c1
    refine lv_iconst (v := 1) hx hb dX11_one_4 (by decide) ?_
    refine lv_goto (tgt := 9) hx hb dX11_one_5 (by decide) ?_
    cases hf
    exact hQ _ _ _ _ dX11_one_9 w

def fX11_isHouse (x0 : Int32) : Option Int32 := ob (fX11_isIn x0 0 19) fun r1 => if ¬ (r1 = 0 ∨ r1 = 1) then none else some r1
set_option maxHeartbeats 4000000 in
set_option maxRecDepth 100000 in
theorem tX11_isHouse {l : Launch} {D : va_G} {cc : Nat → ClassId} {ak av : Nat → Nat} {w0 : va_W} {x0 : Int32} {r : Int32} (hf : fX11_isHouse x0 = some r) : CI l yX11_isHouse wsX11_isHouse ({ frames := 1, cells := 0, slots := 0, locals := 22 } : Room) D cc ak av [.int x0] (w0) (w0) r := by
  refine mkZ (c0 := cX11_isHouse) (nL := 1) (own := RX11) rfl rfl (by decide) rfl rfl (Nat.le_of_ble_eq_true rfl) ?_
  intro p e s m args below meth c A Q ls F B hQ hl w
  have hx := F.1
  have hb := F.2.1
  have hown := F.2.2.2.1
  have hts := F.2.2.2.2
  have hl : lv_has ls 1 [(0, .int x0)] := hl
  unfold fX11_isHouse at hf
  refine lv_iload_n hx hb dX11_isHouse_0 rfl (lv_at hl 0 rfl) ?_
  refine lv_iconst (v := 0) hx hb dX11_isHouse_1 (by decide) ?_
  refine lv_bipush (v := 19) hx hb dX11_isHouse_2 (by decide) ?_
  obtain ⟨r1, er1, hf⟩ := ob_e hf
  refine kSi (As := [.int x0, .int 0, .int 19]) (rest := []) F B w (tX11_isIn er1) (va_cwS 3 hts gX11_isHouse_X11_isIn rfl rfl rfl (by decide +kernel) ⟨Nat.le_of_ble_eq_true rfl, Nat.le_of_ble_eq_true rfl⟩) rfl hl.1 rfl (Nat.le_of_ble_eq_true rfl) dX11_isHouse_4 ⟨Nat.le_of_ble_eq_true rfl, Nat.le_of_ble_eq_true rfl⟩ (fun H locs w => ?_)
  obtain ⟨g2, hf⟩ := if_g hf
  cases hf
  exact hQ _ _ _ _ dX11_isHouse_7 (nz g2) w

def fX11_bits_L4 (n : Nat) (k : Int32 → Int32 → Option Int32) : Nat → Int32 → Int32 → Option Int32
  | 0, _, _ => none
  | fu + 1, x1, x2 => if x2 ≤ 0 then (k x1 x2) else (lt_ (x1 + (x2 &&& 1)) fun v2 => lt_ (x2 >>> (1 &&& 31)) fun v3 => fX11_bits_L4 n k fu v2 v3)
def fX11_bits (n : Nat) (x0 : Int32) : Option Int32 := fX11_bits_L4 n (fun x4 x5 => some x4) n 0 x0
set_option maxHeartbeats 4000000 in
set_option maxRecDepth 100000 in
theorem wX11_bits_L4 {p : Program} {l : Launch} {e : Env} {s : State} {m : MethodId} {args : Array Value} {below : List Frame} {meth : Method} {c : Code} {Q : State → Prop} {D : va_G} {cc : Nat → ClassId} {ak av : Nat → Nat} {A : Nat → Prop} {w0 : va_W} {n : Nat} {r : Int32} {k : Int32 → Int32 → Option Int32} (F : CallFix p m c cX11_bits 3 s args wsX11_bits RX11) (B : Bd D cc ak av A s) (hQ : RetI p l e ({ frames := 0, cells := 0, slots := 0, locals := 0 } : Room) s m args below meth c D A Q cX11_bits (w0) r)
    (hk : ∀ (x1 : Int32) (x2 : Int32) (H : Heap) (locs : List Loc) (ls : Array Slot), Wd D A s.heap H locs (w0) → lv_has ls 3 [(1, .int x1), (2, .int x2)] → k x1 x2 = some r → W p l e ({ frames := 0, cells := 0, slots := 0, locals := 0 } : Room) s m args below meth c H locs 0 0 Q (F0 m 21 ls [])) :
    ∀ (fu : Nat) (x1 : Int32) (x2 : Int32) (H : Heap) (locs : List Loc) (ls : Array Slot), Wd D A s.heap H locs (w0) → lv_has ls 3 [(1, .int x1), (2, .int x2)] → fX11_bits_L4 n k fu x1 x2 = some r → W p l e ({ frames := 0, cells := 0, slots := 0, locals := 0 } : Room) s m args below meth c H locs 0 0 Q (F0 m 4 ls []) := by
  have hx := F.1
  have hb := F.2.1
  have hown := F.2.2.2.1
  have hts := F.2.2.2.2
  intro fu
  induction fu with
  | zero => intro x1 x2 H locs ls w hl hf; rw [fX11_bits_L4] at hf; cases hf
  | succ fu ih =>
    intro x1 x2 H locs ls w hl hf
    rw [fX11_bits_L4] at hf
    refine lv_iload_n hx hb dX11_bits_4 rfl (lv_at hl 1 rfl) ?_
    refine lv_if_le (tgt := 21) hx hb dX11_bits_5 (by decide) (fun c1 => ?_) (fun c1 => ?_)
    · have hf := if_t hf c1
      exact hk _ _ _ _ _ w (lv_sub hl [0, 1] rfl) hf
    · have hf := if_f hf c1
      refine lv_iload_n hx hb dX11_bits_8 rfl (lv_at hl 0 rfl) ?_
      refine lv_iload_n hx hb dX11_bits_9 rfl (lv_at hl 1 rfl) ?_
      refine lv_iconst (v := 1) hx hb dX11_bits_10 (by decide) ?_
      refine lv_iand hx hb dX11_bits_11 ?_
      refine lv_iadd hx hb dX11_bits_12 ?_
      refine lv_topi (fun v2 ev2 => ?_)
      have hf := lt_e hf ev2
      refine lv_istore_n (lv' := [(1, .int v2), (2, .int x2)]) hx hb dX11_bits_13 rfl hl (by decide) rfl (fun ls hl => ?_)
      refine lv_iload_n hx hb dX11_bits_14 rfl (lv_at hl 1 rfl) ?_
      refine lv_iconst (v := 1) hx hb dX11_bits_15 (by decide) ?_
      refine lv_ishr hx hb dX11_bits_16 ?_
      refine lv_topi (fun v3 ev3 => ?_)
      have hf := lt_e hf ev3
      refine lv_istore_n (lv' := [(2, .int v3), (1, .int v2)]) hx hb dX11_bits_17 rfl hl (by decide) rfl (fun ls hl => ?_)
      refine lv_goto (tgt := 4) hx hb dX11_bits_18 (by decide) ?_
      exact ih _ _ _ _ _ w (lv_sub hl [1, 0] rfl) hf
set_option maxHeartbeats 4000000 in
set_option maxRecDepth 100000 in
theorem tX11_bits {l : Launch} {D : va_G} {cc : Nat → ClassId} {ak av : Nat → Nat} {w0 : va_W} {n : Nat} {x0 : Int32} {r : Int32} (hf : fX11_bits n x0 = some r) : CI l yX11_bits wsX11_bits ({ frames := 0, cells := 0, slots := 0, locals := 0 } : Room) D cc ak av [.int x0] (w0) (w0) r := by
  refine mkI (c0 := cX11_bits) (nL := 3) (own := RX11) rfl rfl (by decide) rfl rfl (Nat.le_of_ble_eq_true rfl) ?_
  intro p e s m args below meth c A Q ls F B hQ hl w
  have hx := F.1
  have hb := F.2.1
  have hown := F.2.2.2.1
  have hts := F.2.2.2.2
  have hl : lv_has ls 3 [(0, .int x0)] := hl
  unfold fX11_bits at hf
  refine lv_iconst (v := 0) hx hb dX11_bits_0 (by decide) ?_
  refine lv_istore_n (lv' := [(1, .int 0), (0, .int x0)]) hx hb dX11_bits_1 rfl hl (by decide) rfl (fun ls hl => ?_)
  refine lv_iload_n hx hb dX11_bits_2 rfl (lv_at hl 1 rfl) ?_
  refine lv_istore_n (lv' := [(2, .int x0), (1, .int 0), (0, .int x0)]) hx hb dX11_bits_3 rfl hl (by decide) rfl (fun ls hl => ?_)
  refine wX11_bits_L4 F B hQ (fun x4 x5 H locs ls w hl hf => ?_) n _ _ _ _ _ w (lv_sub hl [1, 0] rfl) hf
  refine lv_iload_n hx hb dX11_bits_21 rfl (lv_at hl 0 rfl) ?_
  cases hf
  exact hQ _ _ _ _ dX11_bits_22 w

def fX11_isPerson (S : St) (x1 : Int32) : Option Int32 := ob (fX11_isIn x1 0 ((S.1 1) - 1)) fun r1 => if ¬ (r1 = 0 ∨ r1 = 1) then none else some r1
set_option maxRecDepth 20000 in
theorem inX11_isPerson_11 : ∀ w ∈ u_ws RX11 TX11 47, w ∈ wsX11_isPerson := by decide +kernel
set_option maxHeartbeats 4000000 in
set_option maxRecDepth 100000 in
theorem tX11_isPerson {l : Launch} {D : va_G} {cc : Nat → ClassId} {ak av : Nat → Nat} {ad : Nat → Nat} {E : va_W} {S : St} {x1 : Int32} {r : Int32} (hf : fX11_isPerson S x1 = some r) : CI l yX11_isPerson wsX11_isPerson ({ frames := 1, cells := 0, slots := 0, locals := 22 } : Room) D cc ak av [.ref (ad 0), .int x1] (WM cc ad S ++ E) (WM cc ad S ++ E) r := by
  refine mkZ (c0 := cX11_isPerson) (nL := 2) (own := RX11) rfl rfl (by decide) rfl rfl (Nat.le_of_ble_eq_true rfl) ?_
  intro p e s m args below meth c A Q ls F B hQ hl w
  have hx := F.1
  have hb := F.2.1
  have hown := F.2.2.2.1
  have hts := F.2.2.2.2
  have hl : lv_has ls 2 [(0, .ref (ad 0)), (1, .int x1)] := hl
  unfold fX11_isPerson at hf
  refine lv_iload_n hx hb dX11_isPerson_0 rfl (lv_at hl 1 rfl) ?_
  refine lv_iconst (v := 0) hx hb dX11_isPerson_1 (by decide) ?_
  refine lv_aload_n hx hb dX11_isPerson_2 rfl (lv_at hl 0 rfl) ?_
  refine kget (v := .int (S.1 1)) F B w inX11_isPerson_11 0 gM_0 rfl 1 (by decide) (hts (.fieldLink RX11 113 "LandReformModel" "persons" "I") (by decide +kernel)) rfl rfl dX11_isPerson_3 ?_
  refine lv_iconst (v := 1) hx hb dX11_isPerson_6 (by decide) ?_
  refine lv_isub hx hb dX11_isPerson_7 ?_
  obtain ⟨r1, er1, hf⟩ := ob_e hf
  refine kSi (As := [.int x1, .int 0, .int ((S.1 1) - 1)]) (rest := []) F B w (tX11_isIn er1) (va_cwS 3 hts gX11_isPerson_X11_isIn rfl rfl rfl (by decide +kernel) ⟨Nat.le_of_ble_eq_true rfl, Nat.le_of_ble_eq_true rfl⟩) rfl hl.1 rfl (Nat.le_of_ble_eq_true rfl) dX11_isPerson_8 ⟨Nat.le_of_ble_eq_true rfl, Nat.le_of_ble_eq_true rfl⟩ (fun H locs w => ?_)
  obtain ⟨g2, hf⟩ := if_g hf
  cases hf
  exact hQ _ _ _ _ dX11_isPerson_11 (nz g2) w

def fX11_isField (S : St) (x1 : Int32) : Option Int32 := ob (fX11_isIn x1 0 ((S.1 2) - 1)) fun r1 => if ¬ (r1 = 0 ∨ r1 = 1) then none else some r1
set_option maxRecDepth 20000 in
theorem inX11_isField_11 : ∀ w ∈ u_ws RX11 TX11 47, w ∈ wsX11_isField := by decide +kernel
set_option maxHeartbeats 4000000 in
set_option maxRecDepth 100000 in
theorem tX11_isField {l : Launch} {D : va_G} {cc : Nat → ClassId} {ak av : Nat → Nat} {ad : Nat → Nat} {E : va_W} {S : St} {x1 : Int32} {r : Int32} (hf : fX11_isField S x1 = some r) : CI l yX11_isField wsX11_isField ({ frames := 1, cells := 0, slots := 0, locals := 22 } : Room) D cc ak av [.ref (ad 0), .int x1] (WM cc ad S ++ E) (WM cc ad S ++ E) r := by
  refine mkZ (c0 := cX11_isField) (nL := 2) (own := RX11) rfl rfl (by decide) rfl rfl (Nat.le_of_ble_eq_true rfl) ?_
  intro p e s m args below meth c A Q ls F B hQ hl w
  have hx := F.1
  have hb := F.2.1
  have hown := F.2.2.2.1
  have hts := F.2.2.2.2
  have hl : lv_has ls 2 [(0, .ref (ad 0)), (1, .int x1)] := hl
  unfold fX11_isField at hf
  refine lv_iload_n hx hb dX11_isField_0 rfl (lv_at hl 1 rfl) ?_
  refine lv_iconst (v := 0) hx hb dX11_isField_1 (by decide) ?_
  refine lv_aload_n hx hb dX11_isField_2 rfl (lv_at hl 0 rfl) ?_
  refine kget (v := .int (S.1 2)) F B w inX11_isField_11 0 gM_0 rfl 2 (by decide) (hts (.fieldLink RX11 120 "LandReformModel" "fields" "I") (by decide +kernel)) rfl rfl dX11_isField_3 ?_
  refine lv_iconst (v := 1) hx hb dX11_isField_6 (by decide) ?_
  refine lv_isub hx hb dX11_isField_7 ?_
  obtain ⟨r1, er1, hf⟩ := ob_e hf
  refine kSi (As := [.int x1, .int 0, .int ((S.1 2) - 1)]) (rest := []) F B w (tX11_isIn er1) (va_cwS 3 hts gX11_isField_X11_isIn rfl rfl rfl (by decide +kernel) ⟨Nat.le_of_ble_eq_true rfl, Nat.le_of_ble_eq_true rfl⟩) rfl hl.1 rfl (Nat.le_of_ble_eq_true rfl) dX11_isField_8 ⟨Nat.le_of_ble_eq_true rfl, Nat.le_of_ble_eq_true rfl⟩ (fun H locs w => ?_)
  obtain ⟨g2, hf⟩ := if_g hf
  cases hf
  exact hQ _ _ _ _ dX11_isField_11 (nz g2) w

def fX11_person (S : St) (x1 : Int32) (x2 : Int32) : Option (Int32 × St) := ob (fX11_isIn x1 0 19) fun r1 => if r1 = 0 then (some ((-1), S)) else (ob (fX11_isIn x2 0 99) fun r3 => if r3 = 0 then (some ((-1), S)) else (if (S.1 1) = 40 then (some ((-1), S)) else (if (S.1 1) < 0 ∨ 40 ≤ Int32.toNatClampNeg (S.1 1) then none else lt_ (sA S 5 (Int32.toNatClampNeg (S.1 1)) x1) fun S7 => if (S7.1 1) < 0 ∨ 40 ≤ Int32.toNatClampNeg (S7.1 1) then none else lt_ (sA S7 6 (Int32.toNatClampNeg (S7.1 1)) x2) fun S9 => lt_ (sS S9 1 ((S9.1 1) + 1)) fun S10 => some (((S10.1 1) - 1), S10))))
set_option maxRecDepth 20000 in
theorem inX11_person_11 : ∀ w ∈ u_ws RX11 TX11 47, w ∈ wsX11_person := by decide +kernel
set_option maxHeartbeats 4000000 in
set_option maxRecDepth 100000 in
theorem tX11_person {l : Launch} {D : va_G} {cc : Nat → ClassId} {ak av : Nat → Nat} {ad : Nat → Nat} {E : va_W} {S : St} {x1 : Int32} {x2 : Int32} {r : Int32} {S' : St} (hf : fX11_person S x1 x2 = some (r, S')) : CI l yX11_person wsX11_person ({ frames := 1, cells := 0, slots := 0, locals := 22 } : Room) D cc ak av [.ref (ad 0), .int x1, .int x2] (WM cc ad S ++ E) (WM cc ad S' ++ E) r := by
  refine mkI (c0 := cX11_person) (nL := 3) (own := RX11) rfl rfl (by decide) rfl rfl (Nat.le_of_ble_eq_true rfl) ?_
  intro p e s m args below meth c A Q ls F B hQ hl w
  have hx := F.1
  have hb := F.2.1
  have hown := F.2.2.2.1
  have hts := F.2.2.2.2
  have hl : lv_has ls 3 [(0, .ref (ad 0)), (1, .int x1), (2, .int x2)] := hl
  unfold fX11_person at hf
  refine lv_iload_n hx hb dX11_person_0 rfl (lv_at hl 1 rfl) ?_
  refine lv_iconst (v := 0) hx hb dX11_person_1 (by decide) ?_
  refine lv_bipush (v := 19) hx hb dX11_person_2 (by decide) ?_
  obtain ⟨r1, er1, hf⟩ := ob_e hf
  refine kSi (As := [.int x1, .int 0, .int 19]) (rest := []) F B w (tX11_isIn er1) (va_cwS 3 hts gX11_person_X11_isIn rfl rfl rfl (by decide +kernel) ⟨Nat.le_of_ble_eq_true rfl, Nat.le_of_ble_eq_true rfl⟩) rfl hl.1 rfl (Nat.le_of_ble_eq_true rfl) dX11_person_4 ⟨Nat.le_of_ble_eq_true rfl, Nat.le_of_ble_eq_true rfl⟩ (fun H locs w => ?_)
  refine lv_if_eq (tgt := 29) hx hb dX11_person_7 (by decide) (fun c2 => ?_) (fun c2 => ?_)
  · have hf := if_t hf c2
    refine lv_iconst (v := (-1)) hx hb dX11_person_29 (by decide) ?_
    cases hf
    exact hQ _ _ _ _ dX11_person_30 w
  · have hf := if_f hf c2
    refine lv_iload_n hx hb dX11_person_10 rfl (lv_at hl 2 rfl) ?_
    refine lv_iconst (v := 0) hx hb dX11_person_11 (by decide) ?_
    refine lv_bipush (v := 99) hx hb dX11_person_12 (by decide) ?_
    obtain ⟨r3, er3, hf⟩ := ob_e hf
    refine kSi (As := [.int x2, .int 0, .int 99]) (rest := []) F B w (tX11_isIn er3) (va_cwS 3 hts gX11_person_X11_isIn rfl rfl rfl (by decide +kernel) ⟨Nat.le_of_ble_eq_true rfl, Nat.le_of_ble_eq_true rfl⟩) rfl hl.1 rfl (Nat.le_of_ble_eq_true rfl) dX11_person_14 ⟨Nat.le_of_ble_eq_true rfl, Nat.le_of_ble_eq_true rfl⟩ (fun H locs w => ?_)
    refine lv_if_eq (tgt := 29) hx hb dX11_person_17 (by decide) (fun c4 => ?_) (fun c4 => ?_)
    · have hf := if_t hf c4
      refine lv_iconst (v := (-1)) hx hb dX11_person_29 (by decide) ?_
      cases hf
      exact hQ _ _ _ _ dX11_person_30 w
    · have hf := if_f hf c4
      refine lv_aload_n hx hb dX11_person_20 rfl (lv_at hl 0 rfl) ?_
      refine kget (v := .int (S.1 1)) F B w inX11_person_11 0 gM_0 rfl 1 (by decide) (hts (.fieldLink RX11 113 "LandReformModel" "persons" "I") (by decide +kernel)) rfl rfl dX11_person_21 ?_
      refine lv_bipush (v := 40) hx hb dX11_person_24 (by decide) ?_
      refine lv_icmp_ne (tgt := 31) hx hb dX11_person_26 (by decide) (fun c5 => ?_) (fun c5 => ?_)
      · have hf := if_f hf c5
        refine lv_aload_n hx hb dX11_person_31 rfl (lv_at hl 0 rfl) ?_
        refine kget (v := .ref (ad 1)) F B w inX11_person_11 0 gM_0 rfl 5 (by decide) (hts (.fieldLink RX11 7 "LandReformModel" "house" "[I") (by decide +kernel)) rfl rfl dX11_person_32 ?_
        refine lv_aload_n hx hb dX11_person_35 rfl (lv_at hl 0 rfl) ?_
        refine kget (v := .int (S.1 1)) F B w inX11_person_11 0 gM_0 rfl 1 (by decide) (hts (.fieldLink RX11 113 "LandReformModel" "persons" "I") (by decide +kernel)) rfl rfl dX11_person_36 ?_
        refine lv_iload_n hx hb dX11_person_39 rfl (lv_at hl 1 rfl) ?_
        obtain ⟨g6, hf⟩ := if_g hf
        refine kiast F B w 1 gM_1 g6 bM_1 dX11_person_40 (fun H locs w => ?_)
        obtain ⟨S7, eS7⟩ : ∃ z, z = sA S 5 (Int32.toNatClampNeg (S.1 1)) x1 := ⟨_, rfl⟩
        rw [← eS7] at w
        have hf := lt_e hf eS7
        refine lv_aload_n hx hb dX11_person_41 rfl (lv_at hl 0 rfl) ?_
        refine kget (v := .ref (ad 2)) F B w inX11_person_11 0 gM_0 rfl 6 (by decide) (hts (.fieldLink RX11 13 "LandReformModel" "home" "[I") (by decide +kernel)) rfl rfl dX11_person_42 ?_
        refine lv_aload_n hx hb dX11_person_45 rfl (lv_at hl 0 rfl) ?_
        refine kget (v := .int (S7.1 1)) F B w inX11_person_11 0 gM_0 rfl 1 (by decide) (hts (.fieldLink RX11 113 "LandReformModel" "persons" "I") (by decide +kernel)) rfl rfl dX11_person_46 ?_
        refine lv_iload_n hx hb dX11_person_49 rfl (lv_at hl 2 rfl) ?_
        obtain ⟨g8, hf⟩ := if_g hf
        refine kiast F B w 2 gM_2 g8 bM_2 dX11_person_50 (fun H locs w => ?_)
        obtain ⟨S9, eS9⟩ : ∃ z, z = sA S7 6 (Int32.toNatClampNeg (S7.1 1)) x2 := ⟨_, rfl⟩
        rw [← eS9] at w
        have hf := lt_e hf eS9
        refine lv_aload_n hx hb dX11_person_51 rfl (lv_at hl 0 rfl) ?_
        refine lv_dup hx hb dX11_person_52 rfl ?_
        refine kget (v := .int (S9.1 1)) F B w inX11_person_11 0 gM_0 rfl 1 (by decide) (hts (.fieldLink RX11 113 "LandReformModel" "persons" "I") (by decide +kernel)) rfl rfl dX11_person_53 ?_
        refine lv_iconst (v := 1) hx hb dX11_person_56 (by decide) ?_
        refine lv_iadd hx hb dX11_person_57 ?_
        refine kput (ty := .int) F B w inX11_person_11 tyX11 tyX11_ok nmX11 0 gM_0 rfl 1 (by decide) (hts (.fieldLink RX11 113 "LandReformModel" "persons" "I") (by decide +kernel)) rfl rfl (by decide +kernel) rfl rfl (Nat.le_of_ble_eq_true rfl) pM_1 dX11_person_58 (fun H locs w => ?_)
        obtain ⟨S10, eS10⟩ : ∃ z, z = sS S9 1 ((S9.1 1) + 1) := ⟨_, rfl⟩
        rw [← eS10] at w
        have hf := lt_e hf eS10
        refine lv_aload_n hx hb dX11_person_61 rfl (lv_at hl 0 rfl) ?_
        refine kget (v := .int (S10.1 1)) F B w inX11_person_11 0 gM_0 rfl 1 (by decide) (hts (.fieldLink RX11 113 "LandReformModel" "persons" "I") (by decide +kernel)) rfl rfl dX11_person_62 ?_
        refine lv_iconst (v := 1) hx hb dX11_person_65 (by decide) ?_
        refine lv_isub hx hb dX11_person_66 ?_
        cases hf
        exact hQ _ _ _ _ dX11_person_67 w
      · have hf := if_t hf c5
        refine lv_iconst (v := (-1)) hx hb dX11_person_29 (by decide) ?_
        cases hf
        exact hQ _ _ _ _ dX11_person_30 w

def fX11_akin (S : St) (x1 : Int32) (x2 : Int32) : Option (Int32 × St) := ob (fX11_isPerson S x1) fun r1 => if r1 = 0 then (some (0, S)) else (ob (fX11_isPerson S x2) fun r3 => if r3 = 0 then (some (0, S)) else (if x1 = x2 then (some (0, S)) else (if (((40 : Int32) * x1) + x2) < 0 ∨ 1600 ≤ Int32.toNatClampNeg (((40 : Int32) * x1) + x2) then none else if (S.2.1 7 (Int32.toNatClampNeg (((40 : Int32) * x1) + x2))) = 0 then (if (((40 : Int32) * x1) + x2) < 0 ∨ 1600 ≤ Int32.toNatClampNeg (((40 : Int32) * x1) + x2) then none else lt_ (sA S 7 (Int32.toNatClampNeg (((40 : Int32) * x1) + x2)) (vp_nar .boolean 1)) fun S9 => if (((40 : Int32) * x2) + x1) < 0 ∨ 1600 ≤ Int32.toNatClampNeg (((40 : Int32) * x2) + x1) then none else lt_ (sA S9 7 (Int32.toNatClampNeg (((40 : Int32) * x2) + x1)) (vp_nar .boolean 1)) fun S11 => lt_ (sS S11 4 ((S11.1 4) + 1)) fun S12 => some (1, S12)) else (some (0, S)))))
set_option maxRecDepth 20000 in
theorem inX11_akin_11 : ∀ w ∈ u_ws RX11 TX11 47, w ∈ wsX11_akin := by decide +kernel
set_option maxHeartbeats 4000000 in
set_option maxRecDepth 100000 in
theorem tX11_akin {l : Launch} {D : va_G} {cc : Nat → ClassId} {ak av : Nat → Nat} {ad : Nat → Nat} {E : va_W} {S : St} {x1 : Int32} {x2 : Int32} {r : Int32} {S' : St} (hf : fX11_akin S x1 x2 = some (r, S')) : CI l yX11_akin wsX11_akin ({ frames := 2, cells := 0, slots := 0, locals := 43 } : Room) D cc ak av [.ref (ad 0), .int x1, .int x2] (WM cc ad S ++ E) (WM cc ad S' ++ E) r := by
  refine mkZ (c0 := cX11_akin) (nL := 3) (own := RX11) rfl rfl (by decide) rfl rfl (Nat.le_of_ble_eq_true rfl) ?_
  intro p e s m args below meth c A Q ls F B hQ hl w
  have hx := F.1
  have hb := F.2.1
  have hown := F.2.2.2.1
  have hts := F.2.2.2.2
  have hl : lv_has ls 3 [(0, .ref (ad 0)), (1, .int x1), (2, .int x2)] := hl
  unfold fX11_akin at hf
  refine lv_aload_n hx hb dX11_akin_0 rfl (lv_at hl 0 rfl) ?_
  refine lv_iload_n hx hb dX11_akin_1 rfl (lv_at hl 1 rfl) ?_
  obtain ⟨r1, er1, hf⟩ := ob_e hf
  refine kVi (As := [.int x1]) (rest := []) F B w (tX11_isPerson er1) (cwV 1 hts gX11_akin_X11_isPerson rfl rfl rfl (by decide +kernel) ⟨Nat.le_of_ble_eq_true rfl, Nat.le_of_ble_eq_true rfl⟩) 0 gM_0 rfl rfl hl.1 rfl (Nat.le_of_ble_eq_true rfl) dX11_akin_2 ⟨Nat.le_of_ble_eq_true rfl, Nat.le_of_ble_eq_true rfl⟩ (fun H locs w => ?_)
  refine lv_if_eq (tgt := 35) hx hb dX11_akin_5 (by decide) (fun c2 => ?_) (fun c2 => ?_)
  · have hf := if_t hf c2
    refine lv_iconst (v := 0) hx hb dX11_akin_35 (by decide) ?_
    cases hf
    exact hQ _ _ _ _ dX11_akin_36 (by decide) w
  · have hf := if_f hf c2
    refine lv_aload_n hx hb dX11_akin_8 rfl (lv_at hl 0 rfl) ?_
    refine lv_iload_n hx hb dX11_akin_9 rfl (lv_at hl 2 rfl) ?_
    obtain ⟨r3, er3, hf⟩ := ob_e hf
    refine kVi (As := [.int x2]) (rest := []) F B w (tX11_isPerson er3) (cwV 1 hts gX11_akin_X11_isPerson rfl rfl rfl (by decide +kernel) ⟨Nat.le_of_ble_eq_true rfl, Nat.le_of_ble_eq_true rfl⟩) 0 gM_0 rfl rfl hl.1 rfl (Nat.le_of_ble_eq_true rfl) dX11_akin_10 ⟨Nat.le_of_ble_eq_true rfl, Nat.le_of_ble_eq_true rfl⟩ (fun H locs w => ?_)
    refine lv_if_eq (tgt := 35) hx hb dX11_akin_13 (by decide) (fun c4 => ?_) (fun c4 => ?_)
    · have hf := if_t hf c4
      refine lv_iconst (v := 0) hx hb dX11_akin_35 (by decide) ?_
      cases hf
      exact hQ _ _ _ _ dX11_akin_36 (by decide) w
    · have hf := if_f hf c4
      refine lv_iload_n hx hb dX11_akin_16 rfl (lv_at hl 1 rfl) ?_
      refine lv_iload_n hx hb dX11_akin_17 rfl (lv_at hl 2 rfl) ?_
      refine lv_icmp_eq (tgt := 35) hx hb dX11_akin_18 (by decide) (fun c5 => ?_) (fun c5 => ?_)
      · have hf := if_t hf c5
        refine lv_iconst (v := 0) hx hb dX11_akin_35 (by decide) ?_
        cases hf
        exact hQ _ _ _ _ dX11_akin_36 (by decide) w
      · have hf := if_f hf c5
        refine lv_aload_n hx hb dX11_akin_21 rfl (lv_at hl 0 rfl) ?_
        refine kget (v := .ref (ad 3)) F B w inX11_akin_11 0 gM_0 rfl 7 (by decide) (hts (.fieldLink RX11 16 "LandReformModel" "isAkin" "[Z") (by decide +kernel)) rfl rfl dX11_akin_22 ?_
        refine lv_bipush (v := 40) hx hb dX11_akin_25 (by decide) ?_
        refine lv_iload_n hx hb dX11_akin_27 rfl (lv_at hl 1 rfl) ?_
        refine lv_imul hx hb dX11_akin_28 ?_
        refine lv_iload_n hx hb dX11_akin_29 rfl (lv_at hl 2 rfl) ?_
        refine lv_iadd hx hb dX11_akin_30 ?_
        obtain ⟨g6, hf⟩ := if_g hf
        refine kzald F B w 3 gM_3 g6 dX11_akin_31 ?_
        refine lv_if_eq (tgt := 37) hx hb dX11_akin_32 (by decide) (fun c7 => ?_) (fun c7 => ?_)
        · have hf := if_t hf c7
          refine lv_aload_n hx hb dX11_akin_37 rfl (lv_at hl 0 rfl) ?_
          refine kget (v := .ref (ad 3)) F B w inX11_akin_11 0 gM_0 rfl 7 (by decide) (hts (.fieldLink RX11 16 "LandReformModel" "isAkin" "[Z") (by decide +kernel)) rfl rfl dX11_akin_38 ?_
          refine lv_bipush (v := 40) hx hb dX11_akin_41 (by decide) ?_
          refine lv_iload_n hx hb dX11_akin_43 rfl (lv_at hl 1 rfl) ?_
          refine lv_imul hx hb dX11_akin_44 ?_
          refine lv_iload_n hx hb dX11_akin_45 rfl (lv_at hl 2 rfl) ?_
          refine lv_iadd hx hb dX11_akin_46 ?_
          refine lv_iconst (v := 1) hx hb dX11_akin_47 (by decide) ?_
          obtain ⟨g8, hf⟩ := if_g hf
          refine kzast F B w 3 gM_3 g8 bM_3 dX11_akin_48 (fun H locs w => ?_)
          obtain ⟨S9, eS9⟩ : ∃ z, z = sA S 7 (Int32.toNatClampNeg (((40 : Int32) * x1) + x2)) (vp_nar .boolean 1) := ⟨_, rfl⟩
          rw [← eS9] at w
          have hf := lt_e hf eS9
          refine lv_aload_n hx hb dX11_akin_49 rfl (lv_at hl 0 rfl) ?_
          refine kget (v := .ref (ad 3)) F B w inX11_akin_11 0 gM_0 rfl 7 (by decide) (hts (.fieldLink RX11 16 "LandReformModel" "isAkin" "[Z") (by decide +kernel)) rfl rfl dX11_akin_50 ?_
          refine lv_bipush (v := 40) hx hb dX11_akin_53 (by decide) ?_
          refine lv_iload_n hx hb dX11_akin_55 rfl (lv_at hl 2 rfl) ?_
          refine lv_imul hx hb dX11_akin_56 ?_
          refine lv_iload_n hx hb dX11_akin_57 rfl (lv_at hl 1 rfl) ?_
          refine lv_iadd hx hb dX11_akin_58 ?_
          refine lv_iconst (v := 1) hx hb dX11_akin_59 (by decide) ?_
          obtain ⟨g10, hf⟩ := if_g hf
          refine kzast F B w 3 gM_3 g10 bM_3 dX11_akin_60 (fun H locs w => ?_)
          obtain ⟨S11, eS11⟩ : ∃ z, z = sA S9 7 (Int32.toNatClampNeg (((40 : Int32) * x2) + x1)) (vp_nar .boolean 1) := ⟨_, rfl⟩
          rw [← eS11] at w
          have hf := lt_e hf eS11
          refine lv_aload_n hx hb dX11_akin_61 rfl (lv_at hl 0 rfl) ?_
          refine lv_dup hx hb dX11_akin_62 rfl ?_
          refine kget (v := .int (S11.1 4)) F B w inX11_akin_11 0 gM_0 rfl 4 (by decide) (hts (.fieldLink RX11 127 "LandReformModel" "kin" "I") (by decide +kernel)) rfl rfl dX11_akin_63 ?_
          refine lv_iconst (v := 1) hx hb dX11_akin_66 (by decide) ?_
          refine lv_iadd hx hb dX11_akin_67 ?_
          refine kput (ty := .int) F B w inX11_akin_11 tyX11 tyX11_ok nmX11 0 gM_0 rfl 4 (by decide) (hts (.fieldLink RX11 127 "LandReformModel" "kin" "I") (by decide +kernel)) rfl rfl (by decide +kernel) rfl rfl (Nat.le_of_ble_eq_true rfl) pM_4 dX11_akin_68 (fun H locs w => ?_)
          obtain ⟨S12, eS12⟩ : ∃ z, z = sS S11 4 ((S11.1 4) + 1) := ⟨_, rfl⟩
          rw [← eS12] at w
          have hf := lt_e hf eS12
          refine lv_iconst (v := 1) hx hb dX11_akin_71 (by decide) ?_
          cases hf
          exact hQ _ _ _ _ dX11_akin_72 (by decide) w
        · have hf := if_f hf c7
          refine lv_iconst (v := 0) hx hb dX11_akin_35 (by decide) ?_
          cases hf
          exact hQ _ _ _ _ dX11_akin_36 (by decide) w

def fX11_field (S : St) (x1 : Int32) (x2 : Int32) (x3 : Int32) (x4 : Int32) (x5 : Int32) : Option (Int32 × St) := ob (fX11_isIn x1 0 99) fun r1 => if r1 = 0 then (some ((-1), S)) else (ob (fX11_isIn x2 1 100) fun r3 => if r3 = 0 then (some ((-1), S)) else (ob (fX11_isIn x3 0 3) fun r5 => if r5 = 0 then (some ((-1), S)) else (ob (fX11_isIn x4 0 9) fun r7 => if r7 = 0 then (some ((-1), S)) else (ob (fX11_isPerson S x5) fun r9 => if r9 = 0 then (some ((-1), S)) else (if (S.1 2) = 60 then (some ((-1), S)) else (if (S.1 2) < 0 ∨ 60 ≤ Int32.toNatClampNeg (S.1 2) then none else lt_ (sA S 8 (Int32.toNatClampNeg (S.1 2)) x1) fun S13 => if (S13.1 2) < 0 ∨ 60 ≤ Int32.toNatClampNeg (S13.1 2) then none else lt_ (sA S13 9 (Int32.toNatClampNeg (S13.1 2)) x2) fun S15 => if (S15.1 2) < 0 ∨ 60 ≤ Int32.toNatClampNeg (S15.1 2) then none else lt_ (sA S15 10 (Int32.toNatClampNeg (S15.1 2)) x3) fun S17 => if (S17.1 2) < 0 ∨ 60 ≤ Int32.toNatClampNeg (S17.1 2) then none else lt_ (sA S17 11 (Int32.toNatClampNeg (S17.1 2)) x4) fun S19 => if (S19.1 2) < 0 ∨ 60 ≤ Int32.toNatClampNeg (S19.1 2) then none else lt_ (sA S19 12 (Int32.toNatClampNeg (S19.1 2)) x5) fun S21 => lt_ (sS S21 2 ((S21.1 2) + 1)) fun S22 => some (((S22.1 2) - 1), S22)))))))
set_option maxRecDepth 20000 in
theorem inX11_field_11 : ∀ w ∈ u_ws RX11 TX11 47, w ∈ wsX11_field := by decide +kernel
set_option maxHeartbeats 4000000 in
set_option maxRecDepth 100000 in
theorem tX11_field {l : Launch} {D : va_G} {cc : Nat → ClassId} {ak av : Nat → Nat} {ad : Nat → Nat} {E : va_W} {S : St} {x1 : Int32} {x2 : Int32} {x3 : Int32} {x4 : Int32} {x5 : Int32} {r : Int32} {S' : St} (hf : fX11_field S x1 x2 x3 x4 x5 = some (r, S')) : CI l yX11_field wsX11_field ({ frames := 2, cells := 0, slots := 0, locals := 43 } : Room) D cc ak av [.ref (ad 0), .int x1, .int x2, .int x3, .int x4, .int x5] (WM cc ad S ++ E) (WM cc ad S' ++ E) r := by
  refine mkI (c0 := cX11_field) (nL := 6) (own := RX11) rfl rfl (by decide) rfl rfl (Nat.le_of_ble_eq_true rfl) ?_
  intro p e s m args below meth c A Q ls F B hQ hl w
  have hx := F.1
  have hb := F.2.1
  have hown := F.2.2.2.1
  have hts := F.2.2.2.2
  have hl : lv_has ls 6 [(0, .ref (ad 0)), (1, .int x1), (2, .int x2), (3, .int x3), (4, .int x4), (5, .int x5)] := hl
  unfold fX11_field at hf
  refine lv_iload_n hx hb dX11_field_0 rfl (lv_at hl 1 rfl) ?_
  refine lv_iconst (v := 0) hx hb dX11_field_1 (by decide) ?_
  refine lv_bipush (v := 99) hx hb dX11_field_2 (by decide) ?_
  obtain ⟨r1, er1, hf⟩ := ob_e hf
  refine kSi (As := [.int x1, .int 0, .int 99]) (rest := []) F B w (tX11_isIn er1) (va_cwS 3 hts gX11_field_X11_isIn rfl rfl rfl (by decide +kernel) ⟨Nat.le_of_ble_eq_true rfl, Nat.le_of_ble_eq_true rfl⟩) rfl hl.1 rfl (Nat.le_of_ble_eq_true rfl) dX11_field_4 ⟨Nat.le_of_ble_eq_true rfl, Nat.le_of_ble_eq_true rfl⟩ (fun H locs w => ?_)
  refine lv_if_eq (tgt := 58) hx hb dX11_field_7 (by decide) (fun c2 => ?_) (fun c2 => ?_)
  · have hf := if_t hf c2
    refine lv_iconst (v := (-1)) hx hb dX11_field_58 (by decide) ?_
    cases hf
    exact hQ _ _ _ _ dX11_field_59 w
  · have hf := if_f hf c2
    refine lv_iload_n hx hb dX11_field_10 rfl (lv_at hl 2 rfl) ?_
    refine lv_iconst (v := 1) hx hb dX11_field_11 (by decide) ?_
    refine lv_bipush (v := 100) hx hb dX11_field_12 (by decide) ?_
    obtain ⟨r3, er3, hf⟩ := ob_e hf
    refine kSi (As := [.int x2, .int 1, .int 100]) (rest := []) F B w (tX11_isIn er3) (va_cwS 3 hts gX11_field_X11_isIn rfl rfl rfl (by decide +kernel) ⟨Nat.le_of_ble_eq_true rfl, Nat.le_of_ble_eq_true rfl⟩) rfl hl.1 rfl (Nat.le_of_ble_eq_true rfl) dX11_field_14 ⟨Nat.le_of_ble_eq_true rfl, Nat.le_of_ble_eq_true rfl⟩ (fun H locs w => ?_)
    refine lv_if_eq (tgt := 58) hx hb dX11_field_17 (by decide) (fun c4 => ?_) (fun c4 => ?_)
    · have hf := if_t hf c4
      refine lv_iconst (v := (-1)) hx hb dX11_field_58 (by decide) ?_
      cases hf
      exact hQ _ _ _ _ dX11_field_59 w
    · have hf := if_f hf c4
      refine lv_iload_n hx hb dX11_field_20 rfl (lv_at hl 3 rfl) ?_
      refine lv_iconst (v := 0) hx hb dX11_field_21 (by decide) ?_
      refine lv_iconst (v := 3) hx hb dX11_field_22 (by decide) ?_
      obtain ⟨r5, er5, hf⟩ := ob_e hf
      refine kSi (As := [.int x3, .int 0, .int 3]) (rest := []) F B w (tX11_isIn er5) (va_cwS 3 hts gX11_field_X11_isIn rfl rfl rfl (by decide +kernel) ⟨Nat.le_of_ble_eq_true rfl, Nat.le_of_ble_eq_true rfl⟩) rfl hl.1 rfl (Nat.le_of_ble_eq_true rfl) dX11_field_23 ⟨Nat.le_of_ble_eq_true rfl, Nat.le_of_ble_eq_true rfl⟩ (fun H locs w => ?_)
      refine lv_if_eq (tgt := 58) hx hb dX11_field_26 (by decide) (fun c6 => ?_) (fun c6 => ?_)
      · have hf := if_t hf c6
        refine lv_iconst (v := (-1)) hx hb dX11_field_58 (by decide) ?_
        cases hf
        exact hQ _ _ _ _ dX11_field_59 w
      · have hf := if_f hf c6
        refine lv_iload hx hb dX11_field_29 (lv_at hl 4 rfl) ?_
        refine lv_iconst (v := 0) hx hb dX11_field_31 (by decide) ?_
        refine lv_bipush (v := 9) hx hb dX11_field_32 (by decide) ?_
        obtain ⟨r7, er7, hf⟩ := ob_e hf
        refine kSi (As := [.int x4, .int 0, .int 9]) (rest := []) F B w (tX11_isIn er7) (va_cwS 3 hts gX11_field_X11_isIn rfl rfl rfl (by decide +kernel) ⟨Nat.le_of_ble_eq_true rfl, Nat.le_of_ble_eq_true rfl⟩) rfl hl.1 rfl (Nat.le_of_ble_eq_true rfl) dX11_field_34 ⟨Nat.le_of_ble_eq_true rfl, Nat.le_of_ble_eq_true rfl⟩ (fun H locs w => ?_)
        refine lv_if_eq (tgt := 58) hx hb dX11_field_37 (by decide) (fun c8 => ?_) (fun c8 => ?_)
        · have hf := if_t hf c8
          refine lv_iconst (v := (-1)) hx hb dX11_field_58 (by decide) ?_
          cases hf
          exact hQ _ _ _ _ dX11_field_59 w
        · have hf := if_f hf c8
          refine lv_aload_n hx hb dX11_field_40 rfl (lv_at hl 0 rfl) ?_
          refine lv_iload hx hb dX11_field_41 (lv_at hl 5 rfl) ?_
          obtain ⟨r9, er9, hf⟩ := ob_e hf
          refine kVi (As := [.int x5]) (rest := []) F B w (tX11_isPerson er9) (cwV 1 hts gX11_field_X11_isPerson rfl rfl rfl (by decide +kernel) ⟨Nat.le_of_ble_eq_true rfl, Nat.le_of_ble_eq_true rfl⟩) 0 gM_0 rfl rfl hl.1 rfl (Nat.le_of_ble_eq_true rfl) dX11_field_43 ⟨Nat.le_of_ble_eq_true rfl, Nat.le_of_ble_eq_true rfl⟩ (fun H locs w => ?_)
          refine lv_if_eq (tgt := 58) hx hb dX11_field_46 (by decide) (fun c10 => ?_) (fun c10 => ?_)
          · have hf := if_t hf c10
            refine lv_iconst (v := (-1)) hx hb dX11_field_58 (by decide) ?_
            cases hf
            exact hQ _ _ _ _ dX11_field_59 w
          · have hf := if_f hf c10
            refine lv_aload_n hx hb dX11_field_49 rfl (lv_at hl 0 rfl) ?_
            refine kget (v := .int (S.1 2)) F B w inX11_field_11 0 gM_0 rfl 2 (by decide) (hts (.fieldLink RX11 120 "LandReformModel" "fields" "I") (by decide +kernel)) rfl rfl dX11_field_50 ?_
            refine lv_bipush (v := 60) hx hb dX11_field_53 (by decide) ?_
            refine lv_icmp_ne (tgt := 60) hx hb dX11_field_55 (by decide) (fun c11 => ?_) (fun c11 => ?_)
            · have hf := if_f hf c11
              refine lv_aload_n hx hb dX11_field_60 rfl (lv_at hl 0 rfl) ?_
              refine kget (v := .ref (ad 4)) F B w inX11_field_11 0 gM_0 rfl 8 (by decide) (hts (.fieldLink RX11 20 "LandReformModel" "place" "[I") (by decide +kernel)) rfl rfl dX11_field_61 ?_
              refine lv_aload_n hx hb dX11_field_64 rfl (lv_at hl 0 rfl) ?_
              refine kget (v := .int (S.1 2)) F B w inX11_field_11 0 gM_0 rfl 2 (by decide) (hts (.fieldLink RX11 120 "LandReformModel" "fields" "I") (by decide +kernel)) rfl rfl dX11_field_65 ?_
              refine lv_iload_n hx hb dX11_field_68 rfl (lv_at hl 1 rfl) ?_
              obtain ⟨g12, hf⟩ := if_g hf
              refine kiast F B w 4 gM_4 g12 bM_4 dX11_field_69 (fun H locs w => ?_)
              obtain ⟨S13, eS13⟩ : ∃ z, z = sA S 8 (Int32.toNatClampNeg (S.1 2)) x1 := ⟨_, rfl⟩
              rw [← eS13] at w
              have hf := lt_e hf eS13
              refine lv_aload_n hx hb dX11_field_70 rfl (lv_at hl 0 rfl) ?_
              refine kget (v := .ref (ad 5)) F B w inX11_field_11 0 gM_0 rfl 9 (by decide) (hts (.fieldLink RX11 23 "LandReformModel" "area" "[I") (by decide +kernel)) rfl rfl dX11_field_71 ?_
              refine lv_aload_n hx hb dX11_field_74 rfl (lv_at hl 0 rfl) ?_
              refine kget (v := .int (S13.1 2)) F B w inX11_field_11 0 gM_0 rfl 2 (by decide) (hts (.fieldLink RX11 120 "LandReformModel" "fields" "I") (by decide +kernel)) rfl rfl dX11_field_75 ?_
              refine lv_iload_n hx hb dX11_field_78 rfl (lv_at hl 2 rfl) ?_
              obtain ⟨g14, hf⟩ := if_g hf
              refine kiast F B w 5 gM_5 g14 bM_5 dX11_field_79 (fun H locs w => ?_)
              obtain ⟨S15, eS15⟩ : ∃ z, z = sA S13 9 (Int32.toNatClampNeg (S13.1 2)) x2 := ⟨_, rfl⟩
              rw [← eS15] at w
              have hf := lt_e hf eS15
              refine lv_aload_n hx hb dX11_field_80 rfl (lv_at hl 0 rfl) ?_
              refine kget (v := .ref (ad 6)) F B w inX11_field_11 0 gM_0 rfl 10 (by decide) (hts (.fieldLink RX11 26 "LandReformModel" "soil" "[I") (by decide +kernel)) rfl rfl dX11_field_81 ?_
              refine lv_aload_n hx hb dX11_field_84 rfl (lv_at hl 0 rfl) ?_
              refine kget (v := .int (S15.1 2)) F B w inX11_field_11 0 gM_0 rfl 2 (by decide) (hts (.fieldLink RX11 120 "LandReformModel" "fields" "I") (by decide +kernel)) rfl rfl dX11_field_85 ?_
              refine lv_iload_n hx hb dX11_field_88 rfl (lv_at hl 3 rfl) ?_
              obtain ⟨g16, hf⟩ := if_g hf
              refine kiast F B w 6 gM_6 g16 bM_6 dX11_field_89 (fun H locs w => ?_)
              obtain ⟨S17, eS17⟩ : ∃ z, z = sA S15 10 (Int32.toNatClampNeg (S15.1 2)) x3 := ⟨_, rfl⟩
              rw [← eS17] at w
              have hf := lt_e hf eS17
              refine lv_aload_n hx hb dX11_field_90 rfl (lv_at hl 0 rfl) ?_
              refine kget (v := .ref (ad 7)) F B w inX11_field_11 0 gM_0 rfl 11 (by decide) (hts (.fieldLink RX11 29 "LandReformModel" "crop" "[I") (by decide +kernel)) rfl rfl dX11_field_91 ?_
              refine lv_aload_n hx hb dX11_field_94 rfl (lv_at hl 0 rfl) ?_
              refine kget (v := .int (S17.1 2)) F B w inX11_field_11 0 gM_0 rfl 2 (by decide) (hts (.fieldLink RX11 120 "LandReformModel" "fields" "I") (by decide +kernel)) rfl rfl dX11_field_95 ?_
              refine lv_iload hx hb dX11_field_98 (lv_at hl 4 rfl) ?_
              obtain ⟨g18, hf⟩ := if_g hf
              refine kiast F B w 7 gM_7 g18 bM_7 dX11_field_100 (fun H locs w => ?_)
              obtain ⟨S19, eS19⟩ : ∃ z, z = sA S17 11 (Int32.toNatClampNeg (S17.1 2)) x4 := ⟨_, rfl⟩
              rw [← eS19] at w
              have hf := lt_e hf eS19
              refine lv_aload_n hx hb dX11_field_101 rfl (lv_at hl 0 rfl) ?_
              refine kget (v := .ref (ad 8)) F B w inX11_field_11 0 gM_0 rfl 12 (by decide) (hts (.fieldLink RX11 32 "LandReformModel" "firstOwner" "[I") (by decide +kernel)) rfl rfl dX11_field_102 ?_
              refine lv_aload_n hx hb dX11_field_105 rfl (lv_at hl 0 rfl) ?_
              refine kget (v := .int (S19.1 2)) F B w inX11_field_11 0 gM_0 rfl 2 (by decide) (hts (.fieldLink RX11 120 "LandReformModel" "fields" "I") (by decide +kernel)) rfl rfl dX11_field_106 ?_
              refine lv_iload hx hb dX11_field_109 (lv_at hl 5 rfl) ?_
              obtain ⟨g20, hf⟩ := if_g hf
              refine kiast F B w 8 gM_8 g20 bM_8 dX11_field_111 (fun H locs w => ?_)
              obtain ⟨S21, eS21⟩ : ∃ z, z = sA S19 12 (Int32.toNatClampNeg (S19.1 2)) x5 := ⟨_, rfl⟩
              rw [← eS21] at w
              have hf := lt_e hf eS21
              refine lv_aload_n hx hb dX11_field_112 rfl (lv_at hl 0 rfl) ?_
              refine lv_dup hx hb dX11_field_113 rfl ?_
              refine kget (v := .int (S21.1 2)) F B w inX11_field_11 0 gM_0 rfl 2 (by decide) (hts (.fieldLink RX11 120 "LandReformModel" "fields" "I") (by decide +kernel)) rfl rfl dX11_field_114 ?_
              refine lv_iconst (v := 1) hx hb dX11_field_117 (by decide) ?_
              refine lv_iadd hx hb dX11_field_118 ?_
              refine kput (ty := .int) F B w inX11_field_11 tyX11 tyX11_ok nmX11 0 gM_0 rfl 2 (by decide) (hts (.fieldLink RX11 120 "LandReformModel" "fields" "I") (by decide +kernel)) rfl rfl (by decide +kernel) rfl rfl (Nat.le_of_ble_eq_true rfl) pM_2 dX11_field_119 (fun H locs w => ?_)
              obtain ⟨S22, eS22⟩ : ∃ z, z = sS S21 2 ((S21.1 2) + 1) := ⟨_, rfl⟩
              rw [← eS22] at w
              have hf := lt_e hf eS22
              refine lv_aload_n hx hb dX11_field_122 rfl (lv_at hl 0 rfl) ?_
              refine kget (v := .int (S22.1 2)) F B w inX11_field_11 0 gM_0 rfl 2 (by decide) (hts (.fieldLink RX11 120 "LandReformModel" "fields" "I") (by decide +kernel)) rfl rfl dX11_field_123 ?_
              refine lv_iconst (v := 1) hx hb dX11_field_126 (by decide) ?_
              refine lv_isub hx hb dX11_field_127 ?_
              cases hf
              exact hQ _ _ _ _ dX11_field_128 w
            · have hf := if_t hf c11
              refine lv_iconst (v := (-1)) hx hb dX11_field_58 (by decide) ?_
              cases hf
              exact hQ _ _ _ _ dX11_field_59 w
