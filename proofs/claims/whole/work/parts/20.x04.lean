def fX8_room (S : St) : Option Int32 := some ((400 : Int32) - (S.1 6))
set_option maxRecDepth 20000 in
theorem inX8_room_8 : ∀ w ∈ u_ws RX8 TX8 2, w ∈ wsX8_room := by decide +kernel
set_option maxHeartbeats 4000000 in
set_option maxRecDepth 100000 in
theorem tX8_room {l : Launch} {D : va_G} {cc : Nat → ClassId} {ak av : Nat → Nat} {ad : Nat → Nat} {g : Nat → Option Nat} {E : va_W} {S : St} {r : Int32} (hf : fX8_room S = some r) : CI l yX8_room wsX8_room ({ frames := 0, cells := 0, slots := 0, locals := 0 } : Room) D cc ak av [.ref (ad 3)] (WX cc ad g S ++ E) (WX cc ad g S ++ E) r := by
  refine mkI (c0 := cX8_room) (nL := 1) (own := RX8) rfl rfl (by decide) rfl rfl (Nat.le_of_ble_eq_true rfl) ?_
  intro p e s m args below meth c A Q ls F B hQ hl w
  have hx := F.1
  have hb := F.2.1
  have hown := F.2.2.2.1
  have hts := F.2.2.2.2
  have hl : lv_has ls 1 [(0, .ref (ad 3))] := hl
  unfold fX8_room at hf
  refine lv_sipush (v := 400) hx hb dX8_room_0 (by decide) ?_
  refine lv_aload_n hx hb dX8_room_3 rfl (lv_at hl 0 rfl) ?_
  refine kget (v := .int (S.1 6)) F B w inX8_room_8 3 gX_3 rfl 1 (by decide) (hts (.fieldLink RX8 15 "LandReform$Tape" "length" "I") (by decide +kernel)) rfl rfl dX8_room_4 ?_
  refine lv_isub hx hb dX8_room_7 ?_
  cases hf
  exact hQ _ _ _ _ dX8_room_8 w

def fX8_append_L3 (n : Nat) (x1 : Int32) (k : Int32 → St → Option St) : Nat → Int32 → St → Option St
  | 0, _, _ => none
  | fu + 1, x2, S => if x2 < 0 then (k x2 S) else (if 400 ≤ (S.1 6) then (k x2 S) else (if (S.1 6) < 0 ∨ 400 ≤ Int32.toNatClampNeg (S.1 6) then none else lt_ (sA S 11 (Int32.toNatClampNeg (S.1 6)) (vp_nar .byte (Int8.toInt32 (Int32.toInt8 (x1 >>> (x2 &&& 31)))))) fun S4 => lt_ (sS S4 6 ((S4.1 6) + 1)) fun S5 => fX8_append_L3 n x1 k fu (x2 + (-8)) S5))
def fX8_append (n : Nat) (S : St) (x1 : Int32) : Option St := fX8_append_L3 n x1 (fun x6 S7 => some S7) n 24 S
set_option maxRecDepth 20000 in
theorem inX8_append_8 : ∀ w ∈ u_ws RX8 TX8 2, w ∈ wsX8_append := by decide +kernel
set_option maxHeartbeats 4000000 in
set_option maxRecDepth 100000 in
theorem wX8_append_L3 {p : Program} {l : Launch} {e : Env} {s : State} {m : MethodId} {args : Array Value} {below : List Frame} {meth : Method} {c : Code} {Q : State → Prop} {D : va_G} {cc : Nat → ClassId} {ak av : Nat → Nat} {A : Nat → Prop} {ad : Nat → Nat} {g : Nat → Option Nat} {E : va_W} {n : Nat} {x1 : Int32} {S' : St} {k : Int32 → St → Option St} (F : CallFix p m c cX8_append 3 s args wsX8_append RX8) (B : Bd D cc ak av A s) (hQ : RetV p l e ({ frames := 0, cells := 0, slots := 0, locals := 0 } : Room) s m args below meth c D A Q cX8_append (WX cc ad g S' ++ E))
    (hk : ∀ (x2 : Int32) (S : St) (H : Heap) (locs : List Loc) (ls : Array Slot), Wd D A s.heap H locs (WX cc ad g S ++ E) → lv_has ls 3 [(0, .ref (ad 3)), (1, .int x1), (2, .int x2)] → k x2 S = some S' → W p l e ({ frames := 0, cells := 0, slots := 0, locals := 0 } : Room) s m args below meth c H locs 0 0 Q (F0 m 46 ls [])) :
    ∀ (fu : Nat) (x2 : Int32) (S : St) (H : Heap) (locs : List Loc) (ls : Array Slot), Wd D A s.heap H locs (WX cc ad g S ++ E) → lv_has ls 3 [(0, .ref (ad 3)), (1, .int x1), (2, .int x2)] → fX8_append_L3 n x1 k fu x2 S = some S' → W p l e ({ frames := 0, cells := 0, slots := 0, locals := 0 } : Room) s m args below meth c H locs 0 0 Q (F0 m 3 ls []) := by
  have hx := F.1
  have hb := F.2.1
  have hown := F.2.2.2.1
  have hts := F.2.2.2.2
  intro fu
  induction fu with
  | zero => intro x2 S H locs ls w hl hf; rw [fX8_append_L3] at hf; cases hf
  | succ fu ih =>
    intro x2 S H locs ls w hl hf
    rw [fX8_append_L3] at hf
    refine lv_iload_n hx hb dX8_append_3 rfl (lv_at hl 2 rfl) ?_
    refine lv_if_lt (tgt := 46) hx hb dX8_append_4 (by decide) (fun c1 => ?_) (fun c1 => ?_)
    · have hf := if_t hf c1
      exact hk _ _ _ _ _ w (lv_sub hl [0, 1, 2] rfl) hf
    · have hf := if_f hf c1
      refine lv_aload_n hx hb dX8_append_7 rfl (lv_at hl 0 rfl) ?_
      refine kget (v := .int (S.1 6)) F B w inX8_append_8 3 gX_3 rfl 1 (by decide) (hts (.fieldLink RX8 15 "LandReform$Tape" "length" "I") (by decide +kernel)) rfl rfl dX8_append_8 ?_
      refine lv_sipush (v := 400) hx hb dX8_append_11 (by decide) ?_
      refine lv_icmp_ge (tgt := 46) hx hb dX8_append_14 (by decide) (fun c2 => ?_) (fun c2 => ?_)
      · have hf := if_t hf c2
        exact hk _ _ _ _ _ w (lv_sub hl [0, 1, 2] rfl) hf
      · have hf := if_f hf c2
        refine lv_aload_n hx hb dX8_append_17 rfl (lv_at hl 0 rfl) ?_
        refine kget (v := .ref (ad 24)) F B w inX8_append_8 3 gX_3 rfl 0 (by decide) (hts (.fieldLink RX8 9 "LandReform$Tape" "bytes" "[B") (by decide +kernel)) rfl rfl dX8_append_18 ?_
        refine lv_aload_n hx hb dX8_append_21 rfl (lv_at hl 0 rfl) ?_
        refine kget (v := .int (S.1 6)) F B w inX8_append_8 3 gX_3 rfl 1 (by decide) (hts (.fieldLink RX8 15 "LandReform$Tape" "length" "I") (by decide +kernel)) rfl rfl dX8_append_22 ?_
        refine lv_iload_n hx hb dX8_append_25 rfl (lv_at hl 1 rfl) ?_
        refine lv_iload_n hx hb dX8_append_26 rfl (lv_at hl 2 rfl) ?_
        refine lv_ishr hx hb dX8_append_27 ?_
        refine lv_i2b (v := (Int8.toInt32 (Int32.toInt8 (x1 >>> (x2 &&& 31))))) hx hb dX8_append_28 rfl ?_
        obtain ⟨g3, hf⟩ := if_g hf
        refine kbast F B w 24 gX_24 g3 bX_24 dX8_append_29 (fun H locs w => ?_)
        obtain ⟨S4, eS4⟩ : ∃ z, z = sA S 11 (Int32.toNatClampNeg (S.1 6)) (vp_nar .byte (Int8.toInt32 (Int32.toInt8 (x1 >>> (x2 &&& 31))))) := ⟨_, rfl⟩
        rw [← eS4] at w
        have hf := lt_e hf eS4
        refine lv_aload_n hx hb dX8_append_30 rfl (lv_at hl 0 rfl) ?_
        refine lv_dup hx hb dX8_append_31 rfl ?_
        refine kget (v := .int (S4.1 6)) F B w inX8_append_8 3 gX_3 rfl 1 (by decide) (hts (.fieldLink RX8 15 "LandReform$Tape" "length" "I") (by decide +kernel)) rfl rfl dX8_append_32 ?_
        refine lv_iconst (v := 1) hx hb dX8_append_35 (by decide) ?_
        refine lv_iadd hx hb dX8_append_36 ?_
        refine kput (ty := .int) F B w inX8_append_8 tyX8 tyX8_ok nmX8 3 gX_3 rfl 1 (by decide) (hts (.fieldLink RX8 15 "LandReform$Tape" "length" "I") (by decide +kernel)) rfl rfl (by decide +kernel) rfl rfl (Nat.le_of_ble_eq_true rfl) pX_6 dX8_append_37 (fun H locs w => ?_)
        obtain ⟨S5, eS5⟩ : ∃ z, z = sS S4 6 ((S4.1 6) + 1) := ⟨_, rfl⟩
        rw [← eS5] at w
        have hf := lt_e hf eS5
        refine lv_iinc (v := (x2 + (-8))) (lv' := [(2, .int (x2 + (-8))), (0, .ref (ad 3)), (1, .int x1)]) hx hb dX8_append_40 hl (k := 2) rfl rfl (by decide) rfl (fun ls hl => ?_)
        refine lv_goto (tgt := 3) hx hb dX8_append_43 (by decide) ?_
        exact ih _ _ _ _ _ w (lv_sub hl [1, 2, 0] rfl) hf
set_option maxHeartbeats 4000000 in
set_option maxRecDepth 100000 in
theorem tX8_append {l : Launch} {D : va_G} {cc : Nat → ClassId} {ak av : Nat → Nat} {ad : Nat → Nat} {g : Nat → Option Nat} {E : va_W} {n : Nat} {S : St} {x1 : Int32} {S' : St} (hf : fX8_append n S x1 = some S') : CV l yX8_append wsX8_append ({ frames := 0, cells := 0, slots := 0, locals := 0 } : Room) D cc ak av [.ref (ad 3), .int x1] (WX cc ad g S ++ E) (WX cc ad g S' ++ E) := by
  refine mkV (c0 := cX8_append) (nL := 3) (own := RX8) rfl rfl (by decide) rfl rfl (Nat.le_of_ble_eq_true rfl) ?_
  intro p e s m args below meth c A Q ls F B hQ hl w
  have hx := F.1
  have hb := F.2.1
  have hown := F.2.2.2.1
  have hts := F.2.2.2.2
  have hl : lv_has ls 3 [(0, .ref (ad 3)), (1, .int x1)] := hl
  unfold fX8_append at hf
  refine lv_bipush (v := 24) hx hb dX8_append_0 (by decide) ?_
  refine lv_istore_n (lv' := [(2, .int 24), (0, .ref (ad 3)), (1, .int x1)]) hx hb dX8_append_2 rfl hl (by decide) rfl (fun ls hl => ?_)
  refine wX8_append_L3 F B hQ (fun x6 S7 H locs ls w hl hf => ?_) n _ _ _ _ _ w (lv_sub hl [1, 2, 0] rfl) hf
  cases hf
  exact hQ _ _ _ _ dX8_append_46 w

def fX5_isBlank (x0 : Int32) : Option Int32 := if x0 = 32 then (some 1) else (if x0 = 10 then (some 1) else (some 0))
set_option maxHeartbeats 4000000 in
set_option maxRecDepth 100000 in
theorem tX5_isBlank {l : Launch} {D : va_G} {cc : Nat → ClassId} {ak av : Nat → Nat} {w0 : va_W} {x0 : Int32} {r : Int32} (hf : fX5_isBlank x0 = some r) : CI l yX5_isBlank wsX5_isBlank ({ frames := 0, cells := 0, slots := 0, locals := 0 } : Room) D cc ak av [.int x0] (w0) (w0) r := by
  refine mkZ (c0 := cX5_isBlank) (nL := 1) (own := RX5) rfl rfl (by decide) rfl rfl (Nat.le_of_ble_eq_true rfl) ?_
  intro p e s m args below meth c A Q ls F B hQ hl w
  have hx := F.1
  have hb := F.2.1
  have hown := F.2.2.2.1
  have hts := F.2.2.2.2
  have hl : lv_has ls 1 [(0, .int x0)] := hl
  unfold fX5_isBlank at hf
  refine lv_iload_n hx hb dX5_isBlank_0 rfl (lv_at hl 0 rfl) ?_
  refine lv_bipush (v := 32) hx hb dX5_isBlank_1 (by decide) ?_
  refine lv_icmp_eq (tgt := 12) hx hb dX5_isBlank_3 (by decide) (fun c1 => ?_) (fun c1 => ?_)
  · have hf := if_t hf c1
    refine lv_iconst (v := 1) hx hb dX5_isBlank_12 (by decide) ?_
    refine lv_goto (tgt := 17) hx hb dX5_isBlank_13 (by decide) ?_
    cases hf
    exact hQ _ _ _ _ dX5_isBlank_17 (by decide) w
  · have hf := if_f hf c1
    refine lv_iload_n hx hb dX5_isBlank_6 rfl (lv_at hl 0 rfl) ?_
    refine lv_bipush (v := 10) hx hb dX5_isBlank_7 (by decide) ?_
    refine lv_icmp_ne (tgt := 16) hx hb dX5_isBlank_9 (by decide) (fun c2 => ?_) (fun c2 => ?_)
    · have hf := if_f hf c2
      refine lv_iconst (v := 0) hx hb dX5_isBlank_16 (by decide) ?_
      cases hf
      exact hQ _ _ _ _ dX5_isBlank_17 (by decide) w
    · have hf := if_t hf c2
      refine lv_iconst (v := 1) hx hb dX5_isBlank_12 (by decide) ?_
      refine lv_goto (tgt := 17) hx hb dX5_isBlank_13 (by decide) ?_
      cases hf
      exact hQ _ _ _ _ dX5_isBlank_17 (by decide) w

def fX5_isLetter (x0 : Int32) : Option Int32 := if x0 < 97 then (some 0) else (if 122 < x0 then (some 0) else (some 1))
set_option maxHeartbeats 4000000 in
set_option maxRecDepth 100000 in
theorem tX5_isLetter {l : Launch} {D : va_G} {cc : Nat → ClassId} {ak av : Nat → Nat} {w0 : va_W} {x0 : Int32} {r : Int32} (hf : fX5_isLetter x0 = some r) : CI l yX5_isLetter wsX5_isLetter ({ frames := 0, cells := 0, slots := 0, locals := 0 } : Room) D cc ak av [.int x0] (w0) (w0) r := by
  refine mkZ (c0 := cX5_isLetter) (nL := 1) (own := RX5) rfl rfl (by decide) rfl rfl (Nat.le_of_ble_eq_true rfl) ?_
  intro p e s m args below meth c A Q ls F B hQ hl w
  have hx := F.1
  have hb := F.2.1
  have hown := F.2.2.2.1
  have hts := F.2.2.2.2
  have hl : lv_has ls 1 [(0, .int x0)] := hl
  unfold fX5_isLetter at hf
  refine lv_iload_n hx hb dX5_isLetter_0 rfl (lv_at hl 0 rfl) ?_
  refine lv_bipush (v := 97) hx hb dX5_isLetter_1 (by decide) ?_
  refine lv_icmp_lt (tgt := 16) hx hb dX5_isLetter_3 (by decide) (fun c1 => ?_) (fun c1 => ?_)
  · have hf := if_t hf c1
    refine lv_iconst (v := 0) hx hb dX5_isLetter_16 (by decide) ?_
    cases hf
    exact hQ _ _ _ _ dX5_isLetter_17 (by decide) w
  · have hf := if_f hf c1
    refine lv_iload_n hx hb dX5_isLetter_6 rfl (lv_at hl 0 rfl) ?_
    refine lv_bipush (v := 122) hx hb dX5_isLetter_7 (by decide) ?_
    refine lv_icmp_gt (tgt := 16) hx hb dX5_isLetter_9 (by decide) (fun c2 => ?_) (fun c2 => ?_)
    · have hf := if_t hf c2
      refine lv_iconst (v := 0) hx hb dX5_isLetter_16 (by decide) ?_
      cases hf
      exact hQ _ _ _ _ dX5_isLetter_17 (by decide) w
    · have hf := if_f hf c2
      refine lv_iconst (v := 1) hx hb dX5_isLetter_12 (by decide) ?_
      refine lv_goto (tgt := 17) hx hb dX5_isLetter_13 (by decide) ?_
      cases hf
      exact hQ _ _ _ _ dX5_isLetter_17 (by decide) w

def fX5_isDigit (x0 : Int32) : Option Int32 := if x0 < 48 then (some 0) else (if 57 < x0 then (some 0) else (some 1))
set_option maxHeartbeats 4000000 in
set_option maxRecDepth 100000 in
theorem tX5_isDigit {l : Launch} {D : va_G} {cc : Nat → ClassId} {ak av : Nat → Nat} {w0 : va_W} {x0 : Int32} {r : Int32} (hf : fX5_isDigit x0 = some r) : CI l yX5_isDigit wsX5_isDigit ({ frames := 0, cells := 0, slots := 0, locals := 0 } : Room) D cc ak av [.int x0] (w0) (w0) r := by
  refine mkZ (c0 := cX5_isDigit) (nL := 1) (own := RX5) rfl rfl (by decide) rfl rfl (Nat.le_of_ble_eq_true rfl) ?_
  intro p e s m args below meth c A Q ls F B hQ hl w
  have hx := F.1
  have hb := F.2.1
  have hown := F.2.2.2.1
  have hts := F.2.2.2.2
  have hl : lv_has ls 1 [(0, .int x0)] := hl
  unfold fX5_isDigit at hf
  refine lv_iload_n hx hb dX5_isDigit_0 rfl (lv_at hl 0 rfl) ?_
  refine lv_bipush (v := 48) hx hb dX5_isDigit_1 (by decide) ?_
  refine lv_icmp_lt (tgt := 16) hx hb dX5_isDigit_3 (by decide) (fun c1 => ?_) (fun c1 => ?_)
  · have hf := if_t hf c1
    refine lv_iconst (v := 0) hx hb dX5_isDigit_16 (by decide) ?_
    cases hf
    exact hQ _ _ _ _ dX5_isDigit_17 (by decide) w
  · have hf := if_f hf c1
    refine lv_iload_n hx hb dX5_isDigit_6 rfl (lv_at hl 0 rfl) ?_
    refine lv_bipush (v := 57) hx hb dX5_isDigit_7 (by decide) ?_
    refine lv_icmp_gt (tgt := 16) hx hb dX5_isDigit_9 (by decide) (fun c2 => ?_) (fun c2 => ?_)
    · have hf := if_t hf c2
      refine lv_iconst (v := 0) hx hb dX5_isDigit_16 (by decide) ?_
      cases hf
      exact hQ _ _ _ _ dX5_isDigit_17 (by decide) w
    · have hf := if_f hf c2
      refine lv_iconst (v := 1) hx hb dX5_isDigit_12 (by decide) ?_
      refine lv_goto (tgt := 17) hx hb dX5_isDigit_13 (by decide) ?_
      cases hf
      exact hQ _ _ _ _ dX5_isDigit_17 (by decide) w

def fX5_nextToken_L5 (n : Nat) (S : St) (k : Int32 → Option St) : Nat → Int32 → Option St
  | 0, _ => none
  | fu + 1, x1 => if (S.1 7) ≤ x1 then (k x1) else (if x1 < 0 ∨ 400 ≤ Int32.toNatClampNeg x1 then none else ob (fX5_isBlank (S.2.1 11 (Int32.toNatClampNeg x1))) fun r4 => if r4 = 0 then (k x1) else (fX5_nextToken_L5 n S k fu (x1 + 1)))
def fX5_nextToken_L107 (n : Nat) (S : St) (k : Int32 → Option St) : Nat → Int32 → Option St
  | 0, _ => none
  | fu + 1, x1 => if (S.1 7) ≤ x1 then (k x1) else (if x1 < 0 ∨ 400 ≤ Int32.toNatClampNeg x1 then none else ob (fX5_isDigit (S.2.1 11 (Int32.toNatClampNeg x1))) fun r12 => if r12 = 0 then (k x1) else (fX5_nextToken_L107 n S k fu (x1 + 1)))
def fX5_nextToken_L81 (n : Nat) (S : St) (k : Int32 → Option St) : Nat → Int32 → Option St
  | 0, _ => none
  | fu + 1, x1 => if (S.1 7) ≤ x1 then (k x1) else (if x1 < 0 ∨ 400 ≤ Int32.toNatClampNeg x1 then none else ob (fX5_isLetter (S.2.1 11 (Int32.toNatClampNeg x1))) fun r23 => if r23 = 0 then (k x1) else (fX5_nextToken_L81 n S k fu (x1 + 1)))
def fX5_nextToken (n : Nat) (S : St) : Option St := lt_ (S.1 9) fun v1 => fX5_nextToken_L5 n S (fun x6 => lt_ (sS S 8 x6) fun S7 => if (S7.1 7) ≤ x6 then (if (S7.1 7) ≤ x6 then (fX5_nextToken_L107 n S7 (fun x14 => lt_ (sS S7 9 x14) fun S15 => some S15) n x6) else (if x6 < 0 ∨ 400 ≤ Int32.toNatClampNeg x6 then none else ob (fX5_isLetter (S7.2.1 11 (Int32.toNatClampNeg x6))) fun r17 => if r17 = 0 then (fX5_nextToken_L107 n S7 (fun x19 => lt_ (sS S7 9 x19) fun S20 => some S20) n x6) else (fX5_nextToken_L81 n S7 (fun x25 => lt_ (sS S7 9 x25) fun S26 => some S26) n x6))) else (if x6 < 0 ∨ 400 ≤ Int32.toNatClampNeg x6 then none else if (S7.2.1 11 (Int32.toNatClampNeg x6)) = 59 then (lt_ (sS S7 9 (x6 + 1)) fun S39 => some S39) else (if (S7.1 7) ≤ x6 then (fX5_nextToken_L107 n S7 (fun x30 => lt_ (sS S7 9 x30) fun S31 => some S31) n x6) else (if x6 < 0 ∨ 400 ≤ Int32.toNatClampNeg x6 then none else ob (fX5_isLetter (S7.2.1 11 (Int32.toNatClampNeg x6))) fun r33 => if r33 = 0 then (fX5_nextToken_L107 n S7 (fun x35 => lt_ (sS S7 9 x35) fun S36 => some S36) n x6) else (fX5_nextToken_L81 n S7 (fun x37 => lt_ (sS S7 9 x37) fun S38 => some S38) n x6))))) n v1
set_option maxRecDepth 20000 in
theorem inX5_nextToken_5 : ∀ w ∈ u_ws RX5 TX5 5, w ∈ wsX5_nextToken := by decide +kernel
set_option maxHeartbeats 4000000 in
set_option maxRecDepth 100000 in
theorem wX5_nextToken_L5 {p : Program} {l : Launch} {e : Env} {s : State} {m : MethodId} {args : Array Value} {below : List Frame} {meth : Method} {c : Code} {Q : State → Prop} {D : va_G} {cc : Nat → ClassId} {ak av : Nat → Nat} {A : Nat → Prop} {ad : Nat → Nat} {g : Nat → Option Nat} {E : va_W} {n : Nat} {S : St} {S' : St} {k : Int32 → Option St} (F : CallFix p m c cX5_nextToken 2 s args wsX5_nextToken RX5) (B : Bd D cc ak av A s) (hQ : RetV p l e ({ frames := 1, cells := 0, slots := 0, locals := 20 } : Room) s m args below meth c D A Q cX5_nextToken (WX cc ad g S' ++ E))
    (hk : ∀ (x1 : Int32) (H : Heap) (locs : List Loc) (ls : Array Slot), Wd D A s.heap H locs (WX cc ad g S ++ E) → lv_has ls 2 [(0, .ref (ad 4)), (1, .int x1)] → k x1 = some S' → W p l e ({ frames := 1, cells := 0, slots := 0, locals := 20 } : Room) s m args below meth c H locs 0 0 Q (F0 m 31 ls [])) :
    ∀ (fu : Nat) (x1 : Int32) (H : Heap) (locs : List Loc) (ls : Array Slot), Wd D A s.heap H locs (WX cc ad g S ++ E) → lv_has ls 2 [(0, .ref (ad 4)), (1, .int x1)] → fX5_nextToken_L5 n S k fu x1 = some S' → W p l e ({ frames := 1, cells := 0, slots := 0, locals := 20 } : Room) s m args below meth c H locs 0 0 Q (F0 m 5 ls []) := by
  have hx := F.1
  have hb := F.2.1
  have hown := F.2.2.2.1
  have hts := F.2.2.2.2
  intro fu
  induction fu with
  | zero => intro x1 H locs ls w hl hf; rw [fX5_nextToken_L5] at hf; cases hf
  | succ fu ih =>
    intro x1 H locs ls w hl hf
    rw [fX5_nextToken_L5] at hf
    refine lv_iload_n hx hb dX5_nextToken_5 rfl (lv_at hl 1 rfl) ?_
    refine lv_aload_n hx hb dX5_nextToken_6 rfl (lv_at hl 0 rfl) ?_
    refine kget (v := .int (S.1 7)) F B w inX5_nextToken_5 4 gX_4 rfl 1 (by decide) (hts (.fieldLink RX5 25 "LandReform$Reader" "length" "I") (by decide +kernel)) rfl rfl dX5_nextToken_7 ?_
    refine lv_icmp_ge (tgt := 31) hx hb dX5_nextToken_10 (by decide) (fun c2 => ?_) (fun c2 => ?_)
    · have hf := if_t hf c2
      exact hk _ _ _ _ w (lv_sub hl [0, 1] rfl) hf
    · have hf := if_f hf c2
      refine lv_aload_n hx hb dX5_nextToken_13 rfl (lv_at hl 0 rfl) ?_
      refine kget (v := .ref (ad 24)) F B w inX5_nextToken_5 4 gX_4 rfl 0 (by decide) (hts (.fieldLink RX5 15 "LandReform$Reader" "text" "[B") (by decide +kernel)) rfl rfl dX5_nextToken_14 ?_
      refine lv_iload_n hx hb dX5_nextToken_17 rfl (lv_at hl 1 rfl) ?_
      obtain ⟨g3, hf⟩ := if_g hf
      refine kbald F B w 24 gX_24 g3 dX5_nextToken_18 ?_
      obtain ⟨r4, er4, hf⟩ := ob_e hf
      refine kSi (As := [.int (S.2.1 11 (Int32.toNatClampNeg x1))]) (rest := []) F B w (tX5_isBlank er4) (va_cwS 1 hts gX5_nextToken_X5_isBlank rfl rfl rfl (by decide +kernel) ⟨Nat.le_of_ble_eq_true rfl, Nat.le_of_ble_eq_true rfl⟩) rfl hl.1 rfl (Nat.le_of_ble_eq_true rfl) dX5_nextToken_19 ⟨Nat.le_of_ble_eq_true rfl, Nat.le_of_ble_eq_true rfl⟩ (fun H locs w => ?_)
      refine lv_if_eq (tgt := 31) hx hb dX5_nextToken_22 (by decide) (fun c5 => ?_) (fun c5 => ?_)
      · have hf := if_t hf c5
        exact hk _ _ _ _ w (lv_sub hl [0, 1] rfl) hf
      · have hf := if_f hf c5
        refine lv_iinc (v := (x1 + 1)) (lv' := [(1, .int (x1 + 1)), (0, .ref (ad 4))]) hx hb dX5_nextToken_25 hl (k := 1) rfl rfl (by decide) rfl (fun ls hl => ?_)
        refine lv_goto (tgt := 5) hx hb dX5_nextToken_28 (by decide) ?_
        exact ih _ _ _ _ w (lv_sub hl [1, 0] rfl) hf
set_option maxHeartbeats 4000000 in
set_option maxRecDepth 100000 in
theorem wX5_nextToken_L107 {p : Program} {l : Launch} {e : Env} {s : State} {m : MethodId} {args : Array Value} {below : List Frame} {meth : Method} {c : Code} {Q : State → Prop} {D : va_G} {cc : Nat → ClassId} {ak av : Nat → Nat} {A : Nat → Prop} {ad : Nat → Nat} {g : Nat → Option Nat} {E : va_W} {n : Nat} {S : St} {S' : St} {k : Int32 → Option St} (F : CallFix p m c cX5_nextToken 2 s args wsX5_nextToken RX5) (B : Bd D cc ak av A s) (hQ : RetV p l e ({ frames := 1, cells := 0, slots := 0, locals := 20 } : Room) s m args below meth c D A Q cX5_nextToken (WX cc ad g S' ++ E))
    (hk : ∀ (x1 : Int32) (H : Heap) (locs : List Loc) (ls : Array Slot), Wd D A s.heap H locs (WX cc ad g S ++ E) → lv_has ls 2 [(0, .ref (ad 4)), (1, .int x1)] → k x1 = some S' → W p l e ({ frames := 1, cells := 0, slots := 0, locals := 20 } : Room) s m args below meth c H locs 0 0 Q (F0 m 133 ls [])) :
    ∀ (fu : Nat) (x1 : Int32) (H : Heap) (locs : List Loc) (ls : Array Slot), Wd D A s.heap H locs (WX cc ad g S ++ E) → lv_has ls 2 [(0, .ref (ad 4)), (1, .int x1)] → fX5_nextToken_L107 n S k fu x1 = some S' → W p l e ({ frames := 1, cells := 0, slots := 0, locals := 20 } : Room) s m args below meth c H locs 0 0 Q (F0 m 107 ls []) := by
  have hx := F.1
  have hb := F.2.1
  have hown := F.2.2.2.1
  have hts := F.2.2.2.2
  intro fu
  induction fu with
  | zero => intro x1 H locs ls w hl hf; rw [fX5_nextToken_L107] at hf; cases hf
  | succ fu ih =>
    intro x1 H locs ls w hl hf
    rw [fX5_nextToken_L107] at hf
    refine lv_iload_n hx hb dX5_nextToken_107 rfl (lv_at hl 1 rfl) ?_
    refine lv_aload_n hx hb dX5_nextToken_108 rfl (lv_at hl 0 rfl) ?_
    refine kget (v := .int (S.1 7)) F B w inX5_nextToken_5 4 gX_4 rfl 1 (by decide) (hts (.fieldLink RX5 25 "LandReform$Reader" "length" "I") (by decide +kernel)) rfl rfl dX5_nextToken_109 ?_
    refine lv_icmp_ge (tgt := 133) hx hb dX5_nextToken_112 (by decide) (fun c10 => ?_) (fun c10 => ?_)
    · have hf := if_t hf c10
      exact hk _ _ _ _ w (lv_sub hl [0, 1] rfl) hf
    · have hf := if_f hf c10
      refine lv_aload_n hx hb dX5_nextToken_115 rfl (lv_at hl 0 rfl) ?_
      refine kget (v := .ref (ad 24)) F B w inX5_nextToken_5 4 gX_4 rfl 0 (by decide) (hts (.fieldLink RX5 15 "LandReform$Reader" "text" "[B") (by decide +kernel)) rfl rfl dX5_nextToken_116 ?_
      refine lv_iload_n hx hb dX5_nextToken_119 rfl (lv_at hl 1 rfl) ?_
      obtain ⟨g11, hf⟩ := if_g hf
      refine kbald F B w 24 gX_24 g11 dX5_nextToken_120 ?_
      obtain ⟨r12, er12, hf⟩ := ob_e hf
      refine kSi (As := [.int (S.2.1 11 (Int32.toNatClampNeg x1))]) (rest := []) F B w (tX5_isDigit er12) (va_cwS 1 hts gX5_nextToken_X5_isDigit rfl rfl rfl (by decide +kernel) ⟨Nat.le_of_ble_eq_true rfl, Nat.le_of_ble_eq_true rfl⟩) rfl hl.1 rfl (Nat.le_of_ble_eq_true rfl) dX5_nextToken_121 ⟨Nat.le_of_ble_eq_true rfl, Nat.le_of_ble_eq_true rfl⟩ (fun H locs w => ?_)
      refine lv_if_eq (tgt := 133) hx hb dX5_nextToken_124 (by decide) (fun c13 => ?_) (fun c13 => ?_)
      · have hf := if_t hf c13
        exact hk _ _ _ _ w (lv_sub hl [0, 1] rfl) hf
      · have hf := if_f hf c13
        refine lv_iinc (v := (x1 + 1)) (lv' := [(1, .int (x1 + 1)), (0, .ref (ad 4))]) hx hb dX5_nextToken_127 hl (k := 1) rfl rfl (by decide) rfl (fun ls hl => ?_)
        refine lv_goto (tgt := 107) hx hb dX5_nextToken_130 (by decide) ?_
        exact ih _ _ _ _ w (lv_sub hl [1, 0] rfl) hf
set_option maxHeartbeats 4000000 in
set_option maxRecDepth 100000 in
theorem wX5_nextToken_L81 {p : Program} {l : Launch} {e : Env} {s : State} {m : MethodId} {args : Array Value} {below : List Frame} {meth : Method} {c : Code} {Q : State → Prop} {D : va_G} {cc : Nat → ClassId} {ak av : Nat → Nat} {A : Nat → Prop} {ad : Nat → Nat} {g : Nat → Option Nat} {E : va_W} {n : Nat} {S : St} {S' : St} {k : Int32 → Option St} (F : CallFix p m c cX5_nextToken 2 s args wsX5_nextToken RX5) (B : Bd D cc ak av A s) (hQ : RetV p l e ({ frames := 1, cells := 0, slots := 0, locals := 20 } : Room) s m args below meth c D A Q cX5_nextToken (WX cc ad g S' ++ E))
    (hk : ∀ (x1 : Int32) (H : Heap) (locs : List Loc) (ls : Array Slot), Wd D A s.heap H locs (WX cc ad g S ++ E) → lv_has ls 2 [(0, .ref (ad 4)), (1, .int x1)] → k x1 = some S' → W p l e ({ frames := 1, cells := 0, slots := 0, locals := 20 } : Room) s m args below meth c H locs 0 0 Q (F0 m 133 ls [])) :
    ∀ (fu : Nat) (x1 : Int32) (H : Heap) (locs : List Loc) (ls : Array Slot), Wd D A s.heap H locs (WX cc ad g S ++ E) → lv_has ls 2 [(0, .ref (ad 4)), (1, .int x1)] → fX5_nextToken_L81 n S k fu x1 = some S' → W p l e ({ frames := 1, cells := 0, slots := 0, locals := 20 } : Room) s m args below meth c H locs 0 0 Q (F0 m 81 ls []) := by
  have hx := F.1
  have hb := F.2.1
  have hown := F.2.2.2.1
  have hts := F.2.2.2.2
  intro fu
  induction fu with
  | zero => intro x1 H locs ls w hl hf; rw [fX5_nextToken_L81] at hf; cases hf
  | succ fu ih =>
    intro x1 H locs ls w hl hf
    rw [fX5_nextToken_L81] at hf
    refine lv_iload_n hx hb dX5_nextToken_81 rfl (lv_at hl 1 rfl) ?_
    refine lv_aload_n hx hb dX5_nextToken_82 rfl (lv_at hl 0 rfl) ?_
    refine kget (v := .int (S.1 7)) F B w inX5_nextToken_5 4 gX_4 rfl 1 (by decide) (hts (.fieldLink RX5 25 "LandReform$Reader" "length" "I") (by decide +kernel)) rfl rfl dX5_nextToken_83 ?_
    refine lv_icmp_ge (tgt := 133) hx hb dX5_nextToken_86 (by decide) (fun c21 => ?_) (fun c21 => ?_)
    · have hf := if_t hf c21
      exact hk _ _ _ _ w (lv_sub hl [0, 1] rfl) hf
    · have hf := if_f hf c21
      refine lv_aload_n hx hb dX5_nextToken_89 rfl (lv_at hl 0 rfl) ?_
      refine kget (v := .ref (ad 24)) F B w inX5_nextToken_5 4 gX_4 rfl 0 (by decide) (hts (.fieldLink RX5 15 "LandReform$Reader" "text" "[B") (by decide +kernel)) rfl rfl dX5_nextToken_90 ?_
      refine lv_iload_n hx hb dX5_nextToken_93 rfl (lv_at hl 1 rfl) ?_
      obtain ⟨g22, hf⟩ := if_g hf
      refine kbald F B w 24 gX_24 g22 dX5_nextToken_94 ?_
      obtain ⟨r23, er23, hf⟩ := ob_e hf
      refine kSi (As := [.int (S.2.1 11 (Int32.toNatClampNeg x1))]) (rest := []) F B w (tX5_isLetter er23) (va_cwS 1 hts gX5_nextToken_X5_isLetter rfl rfl rfl (by decide +kernel) ⟨Nat.le_of_ble_eq_true rfl, Nat.le_of_ble_eq_true rfl⟩) rfl hl.1 rfl (Nat.le_of_ble_eq_true rfl) dX5_nextToken_95 ⟨Nat.le_of_ble_eq_true rfl, Nat.le_of_ble_eq_true rfl⟩ (fun H locs w => ?_)
      refine lv_if_eq (tgt := 133) hx hb dX5_nextToken_98 (by decide) (fun c24 => ?_) (fun c24 => ?_)
      · have hf := if_t hf c24
        exact hk _ _ _ _ w (lv_sub hl [0, 1] rfl) hf
      · have hf := if_f hf c24
        refine lv_iinc (v := (x1 + 1)) (lv' := [(1, .int (x1 + 1)), (0, .ref (ad 4))]) hx hb dX5_nextToken_101 hl (k := 1) rfl rfl (by decide) rfl (fun ls hl => ?_)
        refine lv_goto (tgt := 81) hx hb dX5_nextToken_104 (by decide) ?_
        exact ih _ _ _ _ w (lv_sub hl [1, 0] rfl) hf
set_option maxHeartbeats 4000000 in
set_option maxRecDepth 100000 in
theorem tX5_nextToken {l : Launch} {D : va_G} {cc : Nat → ClassId} {ak av : Nat → Nat} {ad : Nat → Nat} {g : Nat → Option Nat} {E : va_W} {n : Nat} {S : St} {S' : St} (hf : fX5_nextToken n S = some S') : CV l yX5_nextToken wsX5_nextToken ({ frames := 1, cells := 0, slots := 0, locals := 20 } : Room) D cc ak av [.ref (ad 4)] (WX cc ad g S ++ E) (WX cc ad g S' ++ E) := by
  refine mkV (c0 := cX5_nextToken) (nL := 2) (own := RX5) rfl rfl (by decide) rfl rfl (Nat.le_of_ble_eq_true rfl) ?_
  intro p e s m args below meth c A Q ls F B hQ hl w
  have hx := F.1
  have hb := F.2.1
  have hown := F.2.2.2.1
  have hts := F.2.2.2.2
  have hl : lv_has ls 2 [(0, .ref (ad 4))] := hl
  unfold fX5_nextToken at hf
  refine lv_aload_n hx hb dX5_nextToken_0 rfl (lv_at hl 0 rfl) ?_
  refine kget (v := .int (S.1 9)) F B w inX5_nextToken_5 4 gX_4 rfl 3 (by decide) (hts (.fieldLink RX5 28 "LandReform$Reader" "tokenEnd" "I") (by decide +kernel)) rfl rfl dX5_nextToken_1 ?_
  refine lv_topi (fun v1 ev1 => ?_)
  have hf := lt_e hf ev1
  refine lv_istore_n (lv' := [(1, .int v1), (0, .ref (ad 4))]) hx hb dX5_nextToken_4 rfl hl (by decide) rfl (fun ls hl => ?_)
  refine wX5_nextToken_L5 F B hQ (fun x6 H locs ls w hl hf => ?_) n _ _ _ _ w (lv_sub hl [1, 0] rfl) hf
  refine lv_aload_n hx hb dX5_nextToken_31 rfl (lv_at hl 0 rfl) ?_
  refine lv_iload_n hx hb dX5_nextToken_32 rfl (lv_at hl 1 rfl) ?_
  refine kput (ty := .int) F B w inX5_nextToken_5 tyX5 tyX5_ok nmX5 4 gX_4 rfl 2 (by decide) (hts (.fieldLink RX5 39 "LandReform$Reader" "tokenStart" "I") (by decide +kernel)) rfl rfl (by decide +kernel) rfl rfl (Nat.le_of_ble_eq_true rfl) pX_8 dX5_nextToken_33 (fun H locs w => ?_)
  obtain ⟨S7, eS7⟩ : ∃ z, z = sS S 8 x6 := ⟨_, rfl⟩
  rw [← eS7] at w
  have hf := lt_e hf eS7
  refine lv_iload_n hx hb dX5_nextToken_36 rfl (lv_at hl 1 rfl) ?_
  refine lv_aload_n hx hb dX5_nextToken_37 rfl (lv_at hl 0 rfl) ?_
  refine kget (v := .int (S7.1 7)) F B w inX5_nextToken_5 4 gX_4 rfl 1 (by decide) (hts (.fieldLink RX5 25 "LandReform$Reader" "length" "I") (by decide +kernel)) rfl rfl dX5_nextToken_38 ?_
  refine lv_icmp_ge (tgt := 61) hx hb dX5_nextToken_41 (by decide) (fun c8 => ?_) (fun c8 => ?_)
  · have hf := if_t hf c8
    refine lv_iload_n hx hb dX5_nextToken_61 rfl (lv_at hl 1 rfl) ?_
    refine lv_aload_n hx hb dX5_nextToken_62 rfl (lv_at hl 0 rfl) ?_
    refine kget (v := .int (S7.1 7)) F B w inX5_nextToken_5 4 gX_4 rfl 1 (by decide) (hts (.fieldLink RX5 25 "LandReform$Reader" "length" "I") (by decide +kernel)) rfl rfl dX5_nextToken_63 ?_
    refine lv_icmp_ge (tgt := 107) hx hb dX5_nextToken_66 (by decide) (fun c9 => ?_) (fun c9 => ?_)
    · have hf := if_t hf c9
      refine wX5_nextToken_L107 F B hQ (fun x14 H locs ls w hl hf => ?_) n _ _ _ _ w (lv_sub hl [0, 1] rfl) hf
      refine lv_aload_n hx hb dX5_nextToken_133 rfl (lv_at hl 0 rfl) ?_
      refine lv_iload_n hx hb dX5_nextToken_134 rfl (lv_at hl 1 rfl) ?_
      refine kput (ty := .int) F B w inX5_nextToken_5 tyX5 tyX5_ok nmX5 4 gX_4 rfl 3 (by decide) (hts (.fieldLink RX5 28 "LandReform$Reader" "tokenEnd" "I") (by decide +kernel)) rfl rfl (by decide +kernel) rfl rfl (Nat.le_of_ble_eq_true rfl) pX_9 dX5_nextToken_135 (fun H locs w => ?_)
      obtain ⟨S15, eS15⟩ : ∃ z, z = sS S7 9 x14 := ⟨_, rfl⟩
      rw [← eS15] at w
      have hf := lt_e hf eS15
      cases hf
      exact hQ _ _ _ _ dX5_nextToken_138 w
    · have hf := if_f hf c9
      refine lv_aload_n hx hb dX5_nextToken_69 rfl (lv_at hl 0 rfl) ?_
      refine kget (v := .ref (ad 24)) F B w inX5_nextToken_5 4 gX_4 rfl 0 (by decide) (hts (.fieldLink RX5 15 "LandReform$Reader" "text" "[B") (by decide +kernel)) rfl rfl dX5_nextToken_70 ?_
      refine lv_iload_n hx hb dX5_nextToken_73 rfl (lv_at hl 1 rfl) ?_
      obtain ⟨g16, hf⟩ := if_g hf
      refine kbald F B w 24 gX_24 g16 dX5_nextToken_74 ?_
      obtain ⟨r17, er17, hf⟩ := ob_e hf
      refine kSi (As := [.int (S7.2.1 11 (Int32.toNatClampNeg x6))]) (rest := []) F B w (tX5_isLetter er17) (va_cwS 1 hts gX5_nextToken_X5_isLetter rfl rfl rfl (by decide +kernel) ⟨Nat.le_of_ble_eq_true rfl, Nat.le_of_ble_eq_true rfl⟩) rfl hl.1 rfl (Nat.le_of_ble_eq_true rfl) dX5_nextToken_75 ⟨Nat.le_of_ble_eq_true rfl, Nat.le_of_ble_eq_true rfl⟩ (fun H locs w => ?_)
      refine lv_if_eq (tgt := 107) hx hb dX5_nextToken_78 (by decide) (fun c18 => ?_) (fun c18 => ?_)
      · have hf := if_t hf c18
        refine wX5_nextToken_L107 F B hQ (fun x19 H locs ls w hl hf => ?_) n _ _ _ _ w (lv_sub hl [0, 1] rfl) hf
        refine lv_aload_n hx hb dX5_nextToken_133 rfl (lv_at hl 0 rfl) ?_
        refine lv_iload_n hx hb dX5_nextToken_134 rfl (lv_at hl 1 rfl) ?_
        refine kput (ty := .int) F B w inX5_nextToken_5 tyX5 tyX5_ok nmX5 4 gX_4 rfl 3 (by decide) (hts (.fieldLink RX5 28 "LandReform$Reader" "tokenEnd" "I") (by decide +kernel)) rfl rfl (by decide +kernel) rfl rfl (Nat.le_of_ble_eq_true rfl) pX_9 dX5_nextToken_135 (fun H locs w => ?_)
        obtain ⟨S20, eS20⟩ : ∃ z, z = sS S7 9 x19 := ⟨_, rfl⟩
        rw [← eS20] at w
        have hf := lt_e hf eS20
        cases hf
        exact hQ _ _ _ _ dX5_nextToken_138 w
      · have hf := if_f hf c18
        refine wX5_nextToken_L81 F B hQ (fun x25 H locs ls w hl hf => ?_) n _ _ _ _ w (lv_sub hl [0, 1] rfl) hf
        refine lv_aload_n hx hb dX5_nextToken_133 rfl (lv_at hl 0 rfl) ?_
        refine lv_iload_n hx hb dX5_nextToken_134 rfl (lv_at hl 1 rfl) ?_
        refine kput (ty := .int) F B w inX5_nextToken_5 tyX5 tyX5_ok nmX5 4 gX_4 rfl 3 (by decide) (hts (.fieldLink RX5 28 "LandReform$Reader" "tokenEnd" "I") (by decide +kernel)) rfl rfl (by decide +kernel) rfl rfl (Nat.le_of_ble_eq_true rfl) pX_9 dX5_nextToken_135 (fun H locs w => ?_)
        obtain ⟨S26, eS26⟩ : ∃ z, z = sS S7 9 x25 := ⟨_, rfl⟩
        rw [← eS26] at w
        have hf := lt_e hf eS26
        cases hf
        exact hQ _ _ _ _ dX5_nextToken_138 w
  · have hf := if_f hf c8
    refine lv_aload_n hx hb dX5_nextToken_44 rfl (lv_at hl 0 rfl) ?_
    refine kget (v := .ref (ad 24)) F B w inX5_nextToken_5 4 gX_4 rfl 0 (by decide) (hts (.fieldLink RX5 15 "LandReform$Reader" "text" "[B") (by decide +kernel)) rfl rfl dX5_nextToken_45 ?_
    refine lv_iload_n hx hb dX5_nextToken_48 rfl (lv_at hl 1 rfl) ?_
    obtain ⟨g27, hf⟩ := if_g hf
    refine kbald F B w 24 gX_24 g27 dX5_nextToken_49 ?_
    refine lv_bipush (v := 59) hx hb dX5_nextToken_50 (by decide) ?_
    refine lv_icmp_ne (tgt := 61) hx hb dX5_nextToken_52 (by decide) (fun c28 => ?_) (fun c28 => ?_)
    · have hf := if_f hf c28
      refine lv_iload_n hx hb dX5_nextToken_61 rfl (lv_at hl 1 rfl) ?_
      refine lv_aload_n hx hb dX5_nextToken_62 rfl (lv_at hl 0 rfl) ?_
      refine kget (v := .int (S7.1 7)) F B w inX5_nextToken_5 4 gX_4 rfl 1 (by decide) (hts (.fieldLink RX5 25 "LandReform$Reader" "length" "I") (by decide +kernel)) rfl rfl dX5_nextToken_63 ?_
      refine lv_icmp_ge (tgt := 107) hx hb dX5_nextToken_66 (by decide) (fun c29 => ?_) (fun c29 => ?_)
      · have hf := if_t hf c29
        refine wX5_nextToken_L107 F B hQ (fun x30 H locs ls w hl hf => ?_) n _ _ _ _ w (lv_sub hl [0, 1] rfl) hf
        refine lv_aload_n hx hb dX5_nextToken_133 rfl (lv_at hl 0 rfl) ?_
        refine lv_iload_n hx hb dX5_nextToken_134 rfl (lv_at hl 1 rfl) ?_
        refine kput (ty := .int) F B w inX5_nextToken_5 tyX5 tyX5_ok nmX5 4 gX_4 rfl 3 (by decide) (hts (.fieldLink RX5 28 "LandReform$Reader" "tokenEnd" "I") (by decide +kernel)) rfl rfl (by decide +kernel) rfl rfl (Nat.le_of_ble_eq_true rfl) pX_9 dX5_nextToken_135 (fun H locs w => ?_)
        obtain ⟨S31, eS31⟩ : ∃ z, z = sS S7 9 x30 := ⟨_, rfl⟩
        rw [← eS31] at w
        have hf := lt_e hf eS31
        cases hf
        exact hQ _ _ _ _ dX5_nextToken_138 w
      · have hf := if_f hf c29
        refine lv_aload_n hx hb dX5_nextToken_69 rfl (lv_at hl 0 rfl) ?_
        refine kget (v := .ref (ad 24)) F B w inX5_nextToken_5 4 gX_4 rfl 0 (by decide) (hts (.fieldLink RX5 15 "LandReform$Reader" "text" "[B") (by decide +kernel)) rfl rfl dX5_nextToken_70 ?_
        refine lv_iload_n hx hb dX5_nextToken_73 rfl (lv_at hl 1 rfl) ?_
        obtain ⟨g32, hf⟩ := if_g hf
        refine kbald F B w 24 gX_24 g32 dX5_nextToken_74 ?_
        obtain ⟨r33, er33, hf⟩ := ob_e hf
        refine kSi (As := [.int (S7.2.1 11 (Int32.toNatClampNeg x6))]) (rest := []) F B w (tX5_isLetter er33) (va_cwS 1 hts gX5_nextToken_X5_isLetter rfl rfl rfl (by decide +kernel) ⟨Nat.le_of_ble_eq_true rfl, Nat.le_of_ble_eq_true rfl⟩) rfl hl.1 rfl (Nat.le_of_ble_eq_true rfl) dX5_nextToken_75 ⟨Nat.le_of_ble_eq_true rfl, Nat.le_of_ble_eq_true rfl⟩ (fun H locs w => ?_)
        refine lv_if_eq (tgt := 107) hx hb dX5_nextToken_78 (by decide) (fun c34 => ?_) (fun c34 => ?_)
        · have hf := if_t hf c34
          refine wX5_nextToken_L107 F B hQ (fun x35 H locs ls w hl hf => ?_) n _ _ _ _ w (lv_sub hl [0, 1] rfl) hf
          refine lv_aload_n hx hb dX5_nextToken_133 rfl (lv_at hl 0 rfl) ?_
          refine lv_iload_n hx hb dX5_nextToken_134 rfl (lv_at hl 1 rfl) ?_
          refine kput (ty := .int) F B w inX5_nextToken_5 tyX5 tyX5_ok nmX5 4 gX_4 rfl 3 (by decide) (hts (.fieldLink RX5 28 "LandReform$Reader" "tokenEnd" "I") (by decide +kernel)) rfl rfl (by decide +kernel) rfl rfl (Nat.le_of_ble_eq_true rfl) pX_9 dX5_nextToken_135 (fun H locs w => ?_)
          obtain ⟨S36, eS36⟩ : ∃ z, z = sS S7 9 x35 := ⟨_, rfl⟩
          rw [← eS36] at w
          have hf := lt_e hf eS36
          cases hf
          exact hQ _ _ _ _ dX5_nextToken_138 w
        · have hf := if_f hf c34
          refine wX5_nextToken_L81 F B hQ (fun x37 H locs ls w hl hf => ?_) n _ _ _ _ w (lv_sub hl [0, 1] rfl) hf
          refine lv_aload_n hx hb dX5_nextToken_133 rfl (lv_at hl 0 rfl) ?_
          refine lv_iload_n hx hb dX5_nextToken_134 rfl (lv_at hl 1 rfl) ?_
          refine kput (ty := .int) F B w inX5_nextToken_5 tyX5 tyX5_ok nmX5 4 gX_4 rfl 3 (by decide) (hts (.fieldLink RX5 28 "LandReform$Reader" "tokenEnd" "I") (by decide +kernel)) rfl rfl (by decide +kernel) rfl rfl (Nat.le_of_ble_eq_true rfl) pX_9 dX5_nextToken_135 (fun H locs w => ?_)
          obtain ⟨S38, eS38⟩ : ∃ z, z = sS S7 9 x37 := ⟨_, rfl⟩
          rw [← eS38] at w
          have hf := lt_e hf eS38
          cases hf
          exact hQ _ _ _ _ dX5_nextToken_138 w
    · have hf := if_t hf c28
      refine lv_iinc (v := (x6 + 1)) (lv' := [(1, .int (x6 + 1)), (0, .ref (ad 4))]) hx hb dX5_nextToken_55 hl (k := 1) rfl rfl (by decide) rfl (fun ls hl => ?_)
      refine lv_goto (tgt := 133) hx hb dX5_nextToken_58 (by decide) ?_
      refine lv_aload_n hx hb dX5_nextToken_133 rfl (lv_at hl 1 rfl) ?_
      refine lv_iload_n hx hb dX5_nextToken_134 rfl (lv_at hl 0 rfl) ?_
      refine kput (ty := .int) F B w inX5_nextToken_5 tyX5 tyX5_ok nmX5 4 gX_4 rfl 3 (by decide) (hts (.fieldLink RX5 28 "LandReform$Reader" "tokenEnd" "I") (by decide +kernel)) rfl rfl (by decide +kernel) rfl rfl (Nat.le_of_ble_eq_true rfl) pX_9 dX5_nextToken_135 (fun H locs w => ?_)
      obtain ⟨S39, eS39⟩ : ∃ z, z = sS S7 9 (x6 + 1) := ⟨_, rfl⟩
      rw [← eS39] at w
      have hf := lt_e hf eS39
      cases hf
      exact hQ _ _ _ _ dX5_nextToken_138 w

def fX5_spells_L31 (n : Nat) (x1 : Nat) (S : St) (k : Int32 → Option Int32) : Nat → Int32 → Option Int32
  | 0, _ => none
  | fu + 1, x2 => if (Int32.ofNat (lenT.getD x1 0)) ≤ x2 then (k x2) else (if ((S.1 8) + x2) < 0 ∨ 400 ≤ Int32.toNatClampNeg ((S.1 8) + x2) then none else if x2 < 0 ∨ lenT.getD x1 0 ≤ Int32.toNatClampNeg x2 then none else if (S.2.1 11 (Int32.toNatClampNeg ((S.1 8) + x2))) = ((bytT.getD x1 []).getD (Int32.toNatClampNeg x2) 0) then (fX5_spells_L31 n x1 S k fu (x2 + 1)) else (some 0))
def fX5_spells (n : Nat) (S : St) (x1 : Nat) : Option Int32 := if ((S.1 9) - (S.1 8)) = (Int32.ofNat (lenT.getD x1 0)) then (if (S.1 9) ≤ (S.1 7) then (fX5_spells_L31 n x1 S (fun x7 => some 1) n 0) else (some 0)) else (some 0)
set_option maxRecDepth 20000 in
theorem inX5_spells_5 : ∀ w ∈ u_ws RX5 TX5 5, w ∈ wsX5_spells := by decide +kernel
set_option maxHeartbeats 4000000 in
set_option maxRecDepth 100000 in
theorem wX5_spells_L31 {p : Program} {l : Launch} {e : Env} {s : State} {m : MethodId} {args : Array Value} {below : List Frame} {meth : Method} {c : Code} {Q : State → Prop} {D : va_G} {cc : Nat → ClassId} {ak av : Nat → Nat} {A : Nat → Prop} {ad : Nat → Nat} {g : Nat → Option Nat} {E : va_W} {n : Nat} {x1 : Nat} {S : St} {r : Int32} {k : Int32 → Option Int32} (F : CallFix p m c cX5_spells 3 s args wsX5_spells RX5) (B : Bd D cc ak av A s) (hQ : RetZ p l e ({ frames := 4, cells := 0, slots := 0, locals := 85 } : Room) s m args below meth c D A Q cX5_spells (WX cc ad g S ++ E) r) (hsx1 : x1 < 10)
    (hk : ∀ (x2 : Int32) (H : Heap) (locs : List Loc) (ls : Array Slot), Wd D A s.heap H locs (WX cc ad g S ++ E) → lv_has ls 3 [(0, .ref (ad 4)), (1, .ref (ak x1)), (2, .int x2)] → k x2 = some r → W p l e ({ frames := 4, cells := 0, slots := 0, locals := 85 } : Room) s m args below meth c H locs 0 0 Q (F0 m 66 ls [])) :
    ∀ (fu : Nat) (x2 : Int32) (H : Heap) (locs : List Loc) (ls : Array Slot), Wd D A s.heap H locs (WX cc ad g S ++ E) → lv_has ls 3 [(0, .ref (ad 4)), (1, .ref (ak x1)), (2, .int x2)] → fX5_spells_L31 n x1 S k fu x2 = some r → W p l e ({ frames := 4, cells := 0, slots := 0, locals := 85 } : Room) s m args below meth c H locs 0 0 Q (F0 m 31 ls []) := by
  have hx := F.1
  have hb := F.2.1
  have hown := F.2.2.2.1
  have hts := F.2.2.2.2
  intro fu
  induction fu with
  | zero => intro x2 H locs ls w hl hf; rw [fX5_spells_L31] at hf; cases hf
  | succ fu ih =>
    intro x2 H locs ls w hl hf
    rw [fX5_spells_L31] at hf
    refine lv_iload_n hx hb dX5_spells_31 rfl (lv_at hl 2 rfl) ?_
    refine lv_aload_n hx hb dX5_spells_32 rfl (lv_at hl 1 rfl) ?_
    refine kTi (As := []) (rest := [.int x2]) F B w hsx1 (tJ0_length hsx1) (cwV 0 hts gX5_spells_J0_length_8abf5 rfl rfl rfl (by decide +kernel) ⟨Nat.le_of_ble_eq_true rfl, Nat.le_of_ble_eq_true rfl⟩) rfl hl.1 rfl (Nat.le_of_ble_eq_true rfl) dX5_spells_33 ⟨Nat.le_of_ble_eq_true rfl, Nat.le_of_ble_eq_true rfl⟩ (fun H locs w => ?_)
    refine lv_icmp_ge (tgt := 66) hx hb dX5_spells_36 (by decide) (fun c3 => ?_) (fun c3 => ?_)
    · have hf := if_t hf c3
      exact hk _ _ _ _ w (lv_sub hl [0, 1, 2] rfl) hf
    · have hf := if_f hf c3
      refine lv_aload_n hx hb dX5_spells_39 rfl (lv_at hl 0 rfl) ?_
      refine kget (v := .ref (ad 24)) F B w inX5_spells_5 4 gX_4 rfl 0 (by decide) (hts (.fieldLink RX5 15 "LandReform$Reader" "text" "[B") (by decide +kernel)) rfl rfl dX5_spells_40 ?_
      refine lv_aload_n hx hb dX5_spells_43 rfl (lv_at hl 0 rfl) ?_
      refine kget (v := .int (S.1 8)) F B w inX5_spells_5 4 gX_4 rfl 2 (by decide) (hts (.fieldLink RX5 39 "LandReform$Reader" "tokenStart" "I") (by decide +kernel)) rfl rfl dX5_spells_44 ?_
      refine lv_iload_n hx hb dX5_spells_47 rfl (lv_at hl 2 rfl) ?_
      refine lv_iadd hx hb dX5_spells_48 ?_
      obtain ⟨g4, hf⟩ := if_g hf
      refine kbald F B w 24 gX_24 g4 dX5_spells_49 ?_
      refine lv_aload_n hx hb dX5_spells_50 rfl (lv_at hl 1 rfl) ?_
      refine lv_iload_n hx hb dX5_spells_51 rfl (lv_at hl 2 rfl) ?_
      obtain ⟨g5, hf⟩ := if_g hf
      refine kTi (As := [.int x2]) (rest := [.int (S.2.1 11 (Int32.toNatClampNeg ((S.1 8) + x2)))]) F B w hsx1 (tJ0_charAt hsx1 g5) (cwV 1 hts gX5_spells_J0_charAt_5068e rfl rfl rfl (by decide +kernel) ⟨Nat.le_of_ble_eq_true rfl, Nat.le_of_ble_eq_true rfl⟩) rfl hl.1 rfl (Nat.le_of_ble_eq_true rfl) dX5_spells_52 ⟨Nat.le_of_ble_eq_true rfl, Nat.le_of_ble_eq_true rfl⟩ (fun H locs w => ?_)
      refine lv_icmp_eq (tgt := 60) hx hb dX5_spells_55 (by decide) (fun c6 => ?_) (fun c6 => ?_)
      · have hf := if_t hf c6
        refine lv_iinc (v := (x2 + 1)) (lv' := [(2, .int (x2 + 1)), (0, .ref (ad 4)), (1, .ref (ak x1))]) hx hb dX5_spells_60 hl (k := 2) rfl rfl (by decide) rfl (fun ls hl => ?_)
        refine lv_goto (tgt := 31) hx hb dX5_spells_63 (by decide) ?_
        exact ih _ _ _ _ w (lv_sub hl [1, 2, 0] rfl) hf
      · have hf := if_f hf c6
        refine lv_iconst (v := 0) hx hb dX5_spells_58 (by decide) ?_
        cases hf
        exact hQ _ _ _ _ dX5_spells_59 (by decide) w
set_option maxHeartbeats 4000000 in
set_option maxRecDepth 100000 in
theorem tX5_spells {l : Launch} {D : va_G} {cc : Nat → ClassId} {ak av : Nat → Nat} {ad : Nat → Nat} {g : Nat → Option Nat} {E : va_W} {n : Nat} {S : St} {x1 : Nat} {r : Int32} (hf : fX5_spells n S x1 = some r) (hsx1 : x1 < 10) : CI l yX5_spells wsX5_spells ({ frames := 4, cells := 0, slots := 0, locals := 85 } : Room) D cc ak av [.ref (ad 4), .ref (ak x1)] (WX cc ad g S ++ E) (WX cc ad g S ++ E) r := by
  refine mkZ (c0 := cX5_spells) (nL := 3) (own := RX5) rfl rfl (by decide) rfl rfl (Nat.le_of_ble_eq_true rfl) ?_
  intro p e s m args below meth c A Q ls F B hQ hl w
  have hx := F.1
  have hb := F.2.1
  have hown := F.2.2.2.1
  have hts := F.2.2.2.2
  have hl : lv_has ls 3 [(0, .ref (ad 4)), (1, .ref (ak x1))] := hl
  unfold fX5_spells at hf
  refine lv_aload_n hx hb dX5_spells_0 rfl (lv_at hl 0 rfl) ?_
  refine kget (v := .int (S.1 9)) F B w inX5_spells_5 4 gX_4 rfl 3 (by decide) (hts (.fieldLink RX5 28 "LandReform$Reader" "tokenEnd" "I") (by decide +kernel)) rfl rfl dX5_spells_1 ?_
  refine lv_aload_n hx hb dX5_spells_4 rfl (lv_at hl 0 rfl) ?_
  refine kget (v := .int (S.1 8)) F B w inX5_spells_5 4 gX_4 rfl 2 (by decide) (hts (.fieldLink RX5 39 "LandReform$Reader" "tokenStart" "I") (by decide +kernel)) rfl rfl dX5_spells_5 ?_
  refine lv_isub hx hb dX5_spells_8 ?_
  refine lv_aload_n hx hb dX5_spells_9 rfl (lv_at hl 1 rfl) ?_
  refine kTi (As := []) (rest := [.int ((S.1 9) - (S.1 8))]) F B w hsx1 (tJ0_length hsx1) (cwV 0 hts gX5_spells_J0_length_8abf5 rfl rfl rfl (by decide +kernel) ⟨Nat.le_of_ble_eq_true rfl, Nat.le_of_ble_eq_true rfl⟩) rfl hl.1 rfl (Nat.le_of_ble_eq_true rfl) dX5_spells_10 ⟨Nat.le_of_ble_eq_true rfl, Nat.le_of_ble_eq_true rfl⟩ (fun H locs w => ?_)
  refine lv_icmp_ne (tgt := 27) hx hb dX5_spells_13 (by decide) (fun c1 => ?_) (fun c1 => ?_)
  · have hf := if_f hf c1
    refine lv_iconst (v := 0) hx hb dX5_spells_27 (by decide) ?_
    cases hf
    exact hQ _ _ _ _ dX5_spells_28 (by decide) w
  · have hf := if_t hf c1
    refine lv_aload_n hx hb dX5_spells_16 rfl (lv_at hl 0 rfl) ?_
    refine kget (v := .int (S.1 9)) F B w inX5_spells_5 4 gX_4 rfl 3 (by decide) (hts (.fieldLink RX5 28 "LandReform$Reader" "tokenEnd" "I") (by decide +kernel)) rfl rfl dX5_spells_17 ?_
    refine lv_aload_n hx hb dX5_spells_20 rfl (lv_at hl 0 rfl) ?_
    refine kget (v := .int (S.1 7)) F B w inX5_spells_5 4 gX_4 rfl 1 (by decide) (hts (.fieldLink RX5 25 "LandReform$Reader" "length" "I") (by decide +kernel)) rfl rfl dX5_spells_21 ?_
    refine lv_icmp_le (tgt := 29) hx hb dX5_spells_24 (by decide) (fun c2 => ?_) (fun c2 => ?_)
    · have hf := if_t hf c2
      refine lv_iconst (v := 0) hx hb dX5_spells_29 (by decide) ?_
      refine lv_istore_n (lv' := [(2, .int 0), (0, .ref (ad 4)), (1, .ref (ak x1))]) hx hb dX5_spells_30 rfl hl (by decide) rfl (fun ls hl => ?_)
      refine wX5_spells_L31 F B hQ hsx1 (fun x7 H locs ls w hl hf => ?_) n _ _ _ _ w (lv_sub hl [1, 2, 0] rfl) hf
      refine lv_iconst (v := 1) hx hb dX5_spells_66 (by decide) ?_
      cases hf
      exact hQ _ _ _ _ dX5_spells_67 (by decide) w
    · have hf := if_f hf c2
      refine lv_iconst (v := 0) hx hb dX5_spells_27 (by decide) ?_
      cases hf
      exact hQ _ _ _ _ dX5_spells_28 (by decide) w
