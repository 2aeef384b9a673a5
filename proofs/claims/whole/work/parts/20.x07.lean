def fX1_keeps (S : St) (x1 : Int32) : Option Int32 := ob (fX10_isBelow x1 (S.1 11)) fun r1 => if r1 = 0 then (some 0) else (if (((S.1 15) >>> (x1 &&& 31)) &&& 1) = 1 then (some 1) else (some 0))
set_option maxRecDepth 20000 in
theorem inX1_keeps_1 : ∀ w ∈ u_ws RX1 TX1 10, w ∈ wsX1_keeps := by decide +kernel
set_option maxHeartbeats 4000000 in
set_option maxRecDepth 100000 in
theorem tX1_keeps {l : Launch} {D : va_G} {cc : Nat → ClassId} {ak av : Nat → Nat} {ad : Nat → Nat} {g : Nat → Option Nat} {E : va_W} {S : St} {x1 : Int32} {r : Int32} (hf : fX1_keeps S x1 = some r) : CI l yX1_keeps wsX1_keeps ({ frames := 1, cells := 0, slots := 0, locals := 21 } : Room) D cc ak av [.ref (ad 5), .int x1] (WX cc ad g S ++ E) (WX cc ad g S ++ E) r := by
  refine mkZ (c0 := cX1_keeps) (nL := 2) (own := RX1) rfl rfl (by decide) rfl rfl (Nat.le_of_ble_eq_true rfl) ?_
  intro p e s m args below meth c A Q ls F B hQ hl w
  have hx := F.1
  have hb := F.2.1
  have hown := F.2.2.2.1
  have hts := F.2.2.2.2
  have hl : lv_has ls 2 [(0, .ref (ad 5)), (1, .int x1)] := hl
  unfold fX1_keeps at hf
  refine lv_iload_n hx hb dX1_keeps_0 rfl (lv_at hl 1 rfl) ?_
  refine lv_aload_n hx hb dX1_keeps_1 rfl (lv_at hl 0 rfl) ?_
  refine kget (v := .int (S.1 11)) F B w inX1_keeps_1 5 gX_5 rfl 4 (by decide) (hts (.fieldLink RX1 69 "LandReform$Holding" "size" "I") (by decide +kernel)) rfl rfl dX1_keeps_2 ?_
  obtain ⟨r1, er1, hf⟩ := ob_e hf
  refine kSNi (As := [.int x1, .int (S.1 11)]) (rest := []) F B w (tX10_isBelow er1) ⟨va_cnB 2 hts gX1_keeps_X10_isBelow_n34 rfl rfl rfl (B.2.1.m 8 rfl) (hts (.initialized RX10) (by decide +kernel)) (by decide +kernel) ⟨Nat.le_of_ble_eq_true rfl, Nat.le_of_ble_eq_true rfl⟩, hts (.static yX10_isBelow) (by decide +kernel), trivial⟩ rfl hl.1 rfl (Nat.le_of_ble_eq_true rfl) dX1_keeps_5 ⟨Nat.le_of_ble_eq_true rfl, Nat.le_of_ble_eq_true rfl⟩ (fun H locs w => ?_)
  refine lv_if_eq (tgt := 27) hx hb dX1_keeps_8 (by decide) (fun c2 => ?_) (fun c2 => ?_)
  · have hf := if_t hf c2
    refine lv_iconst (v := 0) hx hb dX1_keeps_27 (by decide) ?_
    cases hf
    exact hQ _ _ _ _ dX1_keeps_28 (by decide) w
  · have hf := if_f hf c2
    refine lv_aload_n hx hb dX1_keeps_11 rfl (lv_at hl 0 rfl) ?_
    refine kget (v := .int (S.1 15)) F B w inX1_keeps_1 5 gX_5 rfl 8 (by decide) (hts (.fieldLink RX1 110 "LandReform$Holding" "keptSet" "I") (by decide +kernel)) rfl rfl dX1_keeps_12 ?_
    refine lv_iload_n hx hb dX1_keeps_15 rfl (lv_at hl 1 rfl) ?_
    refine lv_ishr hx hb dX1_keeps_16 ?_
    refine lv_iconst (v := 1) hx hb dX1_keeps_17 (by decide) ?_
    refine lv_iand hx hb dX1_keeps_18 ?_
    refine lv_iconst (v := 1) hx hb dX1_keeps_19 (by decide) ?_
    refine lv_icmp_ne (tgt := 27) hx hb dX1_keeps_20 (by decide) (fun c3 => ?_) (fun c3 => ?_)
    · have hf := if_f hf c3
      refine lv_iconst (v := 0) hx hb dX1_keeps_27 (by decide) ?_
      cases hf
      exact hQ _ _ _ _ dX1_keeps_28 (by decide) w
    · have hf := if_t hf c3
      refine lv_iconst (v := 1) hx hb dX1_keeps_23 (by decide) ?_
      refine lv_goto (tgt := 28) hx hb dX1_keeps_24 (by decide) ?_
      cases hf
      exact hQ _ _ _ _ dX1_keeps_28 (by decide) w

def fX1_takenField_L4 (n : Nat) (x1 : Int32) (S : St) (k : Int32 → Int32 → Option Int32) : Nat → Int32 → Int32 → Option Int32
  | 0, _, _ => none
  | fu + 1, x2, x3 => if (S.1 11) ≤ x3 then (k x2 x3) else (ob (fX1_keeps S x3) fun r2 => if r2 = 0 then (if x2 = x1 then (if x3 < 0 ∨ 60 ≤ Int32.toNatClampNeg x3 then none else some (S.2.1 13 (Int32.toNatClampNeg x3))) else (fX1_takenField_L4 n x1 S k fu (x2 + 1) (x3 + 1))) else (fX1_takenField_L4 n x1 S k fu x2 (x3 + 1)))
def fX1_takenField (n : Nat) (S : St) (x1 : Int32) : Option Int32 := fX1_takenField_L4 n x1 S (fun x6 x7 => some (-1)) n 0 0
set_option maxRecDepth 20000 in
theorem inX1_takenField_1 : ∀ w ∈ u_ws RX1 TX1 10, w ∈ wsX1_takenField := by decide +kernel
set_option maxHeartbeats 4000000 in
set_option maxRecDepth 100000 in
theorem wX1_takenField_L4 {p : Program} {l : Launch} {e : Env} {s : State} {m : MethodId} {args : Array Value} {below : List Frame} {meth : Method} {c : Code} {Q : State → Prop} {D : va_G} {cc : Nat → ClassId} {ak av : Nat → Nat} {A : Nat → Prop} {ad : Nat → Nat} {g : Nat → Option Nat} {E : va_W} {n : Nat} {x1 : Int32} {S : St} {r : Int32} {k : Int32 → Int32 → Option Int32} (F : CallFix p m c cX1_takenField 4 s args wsX1_takenField RX1) (B : Bd D cc ak av A s) (hQ : RetI p l e ({ frames := 2, cells := 0, slots := 0, locals := 42 } : Room) s m args below meth c D A Q cX1_takenField (WX cc ad g S ++ E) r)
    (hk : ∀ (x2 : Int32) (x3 : Int32) (H : Heap) (locs : List Loc) (ls : Array Slot), Wd D A s.heap H locs (WX cc ad g S ++ E) → lv_has ls 4 [(0, .ref (ad 5)), (1, .int x1), (2, .int x2), (3, .int x3)] → k x2 x3 = some r → W p l e ({ frames := 2, cells := 0, slots := 0, locals := 42 } : Room) s m args below meth c H locs 0 0 Q (F0 m 44 ls [])) :
    ∀ (fu : Nat) (x2 : Int32) (x3 : Int32) (H : Heap) (locs : List Loc) (ls : Array Slot), Wd D A s.heap H locs (WX cc ad g S ++ E) → lv_has ls 4 [(0, .ref (ad 5)), (1, .int x1), (2, .int x2), (3, .int x3)] → fX1_takenField_L4 n x1 S k fu x2 x3 = some r → W p l e ({ frames := 2, cells := 0, slots := 0, locals := 42 } : Room) s m args below meth c H locs 0 0 Q (F0 m 4 ls []) := by
  have hx := F.1
  have hb := F.2.1
  have hown := F.2.2.2.1
  have hts := F.2.2.2.2
  intro fu
  induction fu with
  | zero => intro x2 x3 H locs ls w hl hf; rw [fX1_takenField_L4] at hf; cases hf
  | succ fu ih =>
    intro x2 x3 H locs ls w hl hf
    rw [fX1_takenField_L4] at hf
    refine lv_iload_n hx hb dX1_takenField_4 rfl (lv_at hl 3 rfl) ?_
    refine lv_aload_n hx hb dX1_takenField_5 rfl (lv_at hl 0 rfl) ?_
    refine kget (v := .int (S.1 11)) F B w inX1_takenField_1 5 gX_5 rfl 4 (by decide) (hts (.fieldLink RX1 69 "LandReform$Holding" "size" "I") (by decide +kernel)) rfl rfl dX1_takenField_6 ?_
    refine lv_icmp_ge (tgt := 44) hx hb dX1_takenField_9 (by decide) (fun c1 => ?_) (fun c1 => ?_)
    · have hf := if_t hf c1
      exact hk _ _ _ _ _ w (lv_sub hl [0, 1, 2, 3] rfl) hf
    · have hf := if_f hf c1
      refine lv_aload_n hx hb dX1_takenField_12 rfl (lv_at hl 0 rfl) ?_
      refine lv_iload_n hx hb dX1_takenField_13 rfl (lv_at hl 3 rfl) ?_
      obtain ⟨r2, er2, hf⟩ := ob_e hf
      refine kVi (As := [.int x3]) (rest := []) F B w (tX1_keeps er2) (cwV 1 hts gX1_takenField_X1_keeps rfl rfl rfl (by decide +kernel) ⟨Nat.le_of_ble_eq_true rfl, Nat.le_of_ble_eq_true rfl⟩) 5 gX_5 rfl rfl hl.1 rfl (Nat.le_of_ble_eq_true rfl) dX1_takenField_14 ⟨Nat.le_of_ble_eq_true rfl, Nat.le_of_ble_eq_true rfl⟩ (fun H locs w => ?_)
      refine lv_if_eq (tgt := 23) hx hb dX1_takenField_17 (by decide) (fun c3 => ?_) (fun c3 => ?_)
      · have hf := if_t hf c3
        refine lv_iload_n hx hb dX1_takenField_23 rfl (lv_at hl 2 rfl) ?_
        refine lv_iload_n hx hb dX1_takenField_24 rfl (lv_at hl 1 rfl) ?_
        refine lv_icmp_ne (tgt := 35) hx hb dX1_takenField_25 (by decide) (fun c4 => ?_) (fun c4 => ?_)
        · have hf := if_f hf c4
          refine lv_iinc (v := (x2 + 1)) (lv' := [(2, .int (x2 + 1)), (0, .ref (ad 5)), (1, .int x1), (3, .int x3)]) hx hb dX1_takenField_35 hl (k := 2) rfl rfl (by decide) rfl (fun ls hl => ?_)
          refine lv_iinc (v := (x3 + 1)) (lv' := [(3, .int (x3 + 1)), (2, .int (x2 + 1)), (0, .ref (ad 5)), (1, .int x1)]) hx hb dX1_takenField_38 hl (k := 3) rfl rfl (by decide) rfl (fun ls hl => ?_)
          refine lv_goto (tgt := 4) hx hb dX1_takenField_41 (by decide) ?_
          exact ih _ _ _ _ _ w (lv_sub hl [2, 3, 1, 0] rfl) hf
        · have hf := if_t hf c4
          refine lv_aload_n hx hb dX1_takenField_28 rfl (lv_at hl 0 rfl) ?_
          refine kget (v := .ref (ad 26)) F B w inX1_takenField_1 5 gX_5 rfl 1 (by decide) (hts (.fieldLink RX1 15 "LandReform$Holding" "counting" "[I") (by decide +kernel)) rfl rfl dX1_takenField_29 ?_
          refine lv_iload_n hx hb dX1_takenField_32 rfl (lv_at hl 3 rfl) ?_
          obtain ⟨g5, hf⟩ := if_g hf
          refine kiald F B w 26 gX_26 g5 dX1_takenField_33 ?_
          cases hf
          exact hQ _ _ _ _ dX1_takenField_34 w
      · have hf := if_f hf c3
        refine lv_goto (tgt := 38) hx hb dX1_takenField_20 (by decide) ?_
        refine lv_iinc (v := (x3 + 1)) (lv' := [(3, .int (x3 + 1)), (0, .ref (ad 5)), (1, .int x1), (2, .int x2)]) hx hb dX1_takenField_38 hl (k := 3) rfl rfl (by decide) rfl (fun ls hl => ?_)
        refine lv_goto (tgt := 4) hx hb dX1_takenField_41 (by decide) ?_
        exact ih _ _ _ _ _ w (lv_sub hl [1, 2, 3, 0] rfl) hf
set_option maxHeartbeats 4000000 in
set_option maxRecDepth 100000 in
theorem tX1_takenField {l : Launch} {D : va_G} {cc : Nat → ClassId} {ak av : Nat → Nat} {ad : Nat → Nat} {g : Nat → Option Nat} {E : va_W} {n : Nat} {S : St} {x1 : Int32} {r : Int32} (hf : fX1_takenField n S x1 = some r) : CI l yX1_takenField wsX1_takenField ({ frames := 2, cells := 0, slots := 0, locals := 42 } : Room) D cc ak av [.ref (ad 5), .int x1] (WX cc ad g S ++ E) (WX cc ad g S ++ E) r := by
  refine mkI (c0 := cX1_takenField) (nL := 4) (own := RX1) rfl rfl (by decide) rfl rfl (Nat.le_of_ble_eq_true rfl) ?_
  intro p e s m args below meth c A Q ls F B hQ hl w
  have hx := F.1
  have hb := F.2.1
  have hown := F.2.2.2.1
  have hts := F.2.2.2.2
  have hl : lv_has ls 4 [(0, .ref (ad 5)), (1, .int x1)] := hl
  unfold fX1_takenField at hf
  refine lv_iconst (v := 0) hx hb dX1_takenField_0 (by decide) ?_
  refine lv_istore_n (lv' := [(2, .int 0), (0, .ref (ad 5)), (1, .int x1)]) hx hb dX1_takenField_1 rfl hl (by decide) rfl (fun ls hl => ?_)
  refine lv_iconst (v := 0) hx hb dX1_takenField_2 (by decide) ?_
  refine lv_istore_n (lv' := [(3, .int 0), (2, .int 0), (0, .ref (ad 5)), (1, .int x1)]) hx hb dX1_takenField_3 rfl hl (by decide) rfl (fun ls hl => ?_)
  refine wX1_takenField_L4 F B hQ (fun x6 x7 H locs ls w hl hf => ?_) n _ _ _ _ _ w (lv_sub hl [2, 3, 1, 0] rfl) hf
  refine lv_iconst (v := (-1)) hx hb dX1_takenField_44 (by decide) ?_
  cases hf
  exact hQ _ _ _ _ dX1_takenField_45 w

def fX9_pairOf_L2 (n : Nat) (x1 : Int32) (x2 : Int32) (S : St) (k : Int32 → Option Int32) : Nat → Int32 → Option Int32
  | 0, _ => none
  | fu + 1, x3 => if (S.1 17) ≤ x3 then (k x3) else (if x3 < 0 ∨ 60 ≤ Int32.toNatClampNeg x3 then none else if (S.2.1 16 (Int32.toNatClampNeg x3)) = x1 then (if x3 < 0 ∨ 60 ≤ Int32.toNatClampNeg x3 then none else if (S.2.1 17 (Int32.toNatClampNeg x3)) = x2 then (some x3) else (fX9_pairOf_L2 n x1 x2 S k fu (x3 + 1))) else (fX9_pairOf_L2 n x1 x2 S k fu (x3 + 1)))
def fX9_pairOf (n : Nat) (S : St) (x1 : Int32) (x2 : Int32) : Option Int32 := fX9_pairOf_L2 n x1 x2 S (fun x6 => some (S.1 17)) n 0
set_option maxRecDepth 20000 in
theorem inX9_pairOf_9 : ∀ w ∈ u_ws RX9 TX9 4, w ∈ wsX9_pairOf := by decide +kernel
set_option maxHeartbeats 4000000 in
set_option maxRecDepth 100000 in
theorem wX9_pairOf_L2 {p : Program} {l : Launch} {e : Env} {s : State} {m : MethodId} {args : Array Value} {below : List Frame} {meth : Method} {c : Code} {Q : State → Prop} {D : va_G} {cc : Nat → ClassId} {ak av : Nat → Nat} {A : Nat → Prop} {ad : Nat → Nat} {g : Nat → Option Nat} {E : va_W} {n : Nat} {x1 : Int32} {x2 : Int32} {S : St} {r : Int32} {k : Int32 → Option Int32} (F : CallFix p m c cX9_pairOf 4 s args wsX9_pairOf RX9) (B : Bd D cc ak av A s) (hQ : RetI p l e ({ frames := 0, cells := 0, slots := 0, locals := 0 } : Room) s m args below meth c D A Q cX9_pairOf (WX cc ad g S ++ E) r)
    (hk : ∀ (x3 : Int32) (H : Heap) (locs : List Loc) (ls : Array Slot), Wd D A s.heap H locs (WX cc ad g S ++ E) → lv_has ls 4 [(0, .ref (ad 6)), (1, .int x1), (2, .int x2), (3, .int x3)] → k x3 = some r → W p l e ({ frames := 0, cells := 0, slots := 0, locals := 0 } : Room) s m args below meth c H locs 0 0 Q (F0 m 38 ls [])) :
    ∀ (fu : Nat) (x3 : Int32) (H : Heap) (locs : List Loc) (ls : Array Slot), Wd D A s.heap H locs (WX cc ad g S ++ E) → lv_has ls 4 [(0, .ref (ad 6)), (1, .int x1), (2, .int x2), (3, .int x3)] → fX9_pairOf_L2 n x1 x2 S k fu x3 = some r → W p l e ({ frames := 0, cells := 0, slots := 0, locals := 0 } : Room) s m args below meth c H locs 0 0 Q (F0 m 2 ls []) := by
  have hx := F.1
  have hb := F.2.1
  have hown := F.2.2.2.1
  have hts := F.2.2.2.2
  intro fu
  induction fu with
  | zero => intro x3 H locs ls w hl hf; rw [fX9_pairOf_L2] at hf; cases hf
  | succ fu ih =>
    intro x3 H locs ls w hl hf
    rw [fX9_pairOf_L2] at hf
    refine lv_iload_n hx hb dX9_pairOf_2 rfl (lv_at hl 3 rfl) ?_
    refine lv_aload_n hx hb dX9_pairOf_3 rfl (lv_at hl 0 rfl) ?_
    refine kget (v := .int (S.1 17)) F B w inX9_pairOf_9 6 gX_6 rfl 3 (by decide) (hts (.fieldLink RX9 25 "LandReform$Tenancies" "size" "I") (by decide +kernel)) rfl rfl dX9_pairOf_4 ?_
    refine lv_icmp_ge (tgt := 38) hx hb dX9_pairOf_7 (by decide) (fun c1 => ?_) (fun c1 => ?_)
    · have hf := if_t hf c1
      exact hk _ _ _ _ w (lv_sub hl [0, 1, 2, 3] rfl) hf
    · have hf := if_f hf c1
      refine lv_aload_n hx hb dX9_pairOf_10 rfl (lv_at hl 0 rfl) ?_
      refine kget (v := .ref (ad 29)) F B w inX9_pairOf_9 6 gX_6 rfl 0 (by decide) (hts (.fieldLink RX9 9 "LandReform$Tenancies" "fields" "[I") (by decide +kernel)) rfl rfl dX9_pairOf_11 ?_
      refine lv_iload_n hx hb dX9_pairOf_14 rfl (lv_at hl 3 rfl) ?_
      obtain ⟨g2, hf⟩ := if_g hf
      refine kiald F B w 29 gX_29 g2 dX9_pairOf_15 ?_
      refine lv_iload_n hx hb dX9_pairOf_16 rfl (lv_at hl 1 rfl) ?_
      refine lv_icmp_ne (tgt := 32) hx hb dX9_pairOf_17 (by decide) (fun c3 => ?_) (fun c3 => ?_)
      · have hf := if_f hf c3
        refine lv_iinc (v := (x3 + 1)) (lv' := [(3, .int (x3 + 1)), (0, .ref (ad 6)), (1, .int x1), (2, .int x2)]) hx hb dX9_pairOf_32 hl (k := 3) rfl rfl (by decide) rfl (fun ls hl => ?_)
        refine lv_goto (tgt := 2) hx hb dX9_pairOf_35 (by decide) ?_
        exact ih _ _ _ _ w (lv_sub hl [1, 2, 3, 0] rfl) hf
      · have hf := if_t hf c3
        refine lv_aload_n hx hb dX9_pairOf_20 rfl (lv_at hl 0 rfl) ?_
        refine kget (v := .ref (ad 30)) F B w inX9_pairOf_9 6 gX_6 rfl 1 (by decide) (hts (.fieldLink RX9 15 "LandReform$Tenancies" "persons" "[I") (by decide +kernel)) rfl rfl dX9_pairOf_21 ?_
        refine lv_iload_n hx hb dX9_pairOf_24 rfl (lv_at hl 3 rfl) ?_
        obtain ⟨g4, hf⟩ := if_g hf
        refine kiald F B w 30 gX_30 g4 dX9_pairOf_25 ?_
        refine lv_iload_n hx hb dX9_pairOf_26 rfl (lv_at hl 2 rfl) ?_
        refine lv_icmp_ne (tgt := 32) hx hb dX9_pairOf_27 (by decide) (fun c5 => ?_) (fun c5 => ?_)
        · have hf := if_f hf c5
          refine lv_iinc (v := (x3 + 1)) (lv' := [(3, .int (x3 + 1)), (0, .ref (ad 6)), (1, .int x1), (2, .int x2)]) hx hb dX9_pairOf_32 hl (k := 3) rfl rfl (by decide) rfl (fun ls hl => ?_)
          refine lv_goto (tgt := 2) hx hb dX9_pairOf_35 (by decide) ?_
          exact ih _ _ _ _ w (lv_sub hl [1, 2, 3, 0] rfl) hf
        · have hf := if_t hf c5
          refine lv_iload_n hx hb dX9_pairOf_30 rfl (lv_at hl 3 rfl) ?_
          cases hf
          exact hQ _ _ _ _ dX9_pairOf_31 w
set_option maxHeartbeats 4000000 in
set_option maxRecDepth 100000 in
theorem tX9_pairOf {l : Launch} {D : va_G} {cc : Nat → ClassId} {ak av : Nat → Nat} {ad : Nat → Nat} {g : Nat → Option Nat} {E : va_W} {n : Nat} {S : St} {x1 : Int32} {x2 : Int32} {r : Int32} (hf : fX9_pairOf n S x1 x2 = some r) : CI l yX9_pairOf wsX9_pairOf ({ frames := 0, cells := 0, slots := 0, locals := 0 } : Room) D cc ak av [.ref (ad 6), .int x1, .int x2] (WX cc ad g S ++ E) (WX cc ad g S ++ E) r := by
  refine mkI (c0 := cX9_pairOf) (nL := 4) (own := RX9) rfl rfl (by decide) rfl rfl (Nat.le_of_ble_eq_true rfl) ?_
  intro p e s m args below meth c A Q ls F B hQ hl w
  have hx := F.1
  have hb := F.2.1
  have hown := F.2.2.2.1
  have hts := F.2.2.2.2
  have hl : lv_has ls 4 [(0, .ref (ad 6)), (1, .int x1), (2, .int x2)] := hl
  unfold fX9_pairOf at hf
  refine lv_iconst (v := 0) hx hb dX9_pairOf_0 (by decide) ?_
  refine lv_istore_n (lv' := [(3, .int 0), (0, .ref (ad 6)), (1, .int x1), (2, .int x2)]) hx hb dX9_pairOf_1 rfl hl (by decide) rfl (fun ls hl => ?_)
  refine wX9_pairOf_L2 F B hQ (fun x6 H locs ls w hl hf => ?_) n _ _ _ _ w (lv_sub hl [1, 2, 3, 0] rfl) hf
  refine lv_aload_n hx hb dX9_pairOf_38 rfl (lv_at hl 0 rfl) ?_
  refine kget (v := .int (S.1 17)) F B w inX9_pairOf_9 6 gX_6 rfl 3 (by decide) (hts (.fieldLink RX9 25 "LandReform$Tenancies" "size" "I") (by decide +kernel)) rfl rfl dX9_pairOf_39 ?_
  cases hf
  exact hQ _ _ _ _ dX9_pairOf_42 w

def fX9_tell (n : Nat) (S : St) (x1 : Int32) (x2 : Int32) (x3 : Int32) : Option (Int32 × St) := ob (fX9_pairOf n S x1 x2) fun r1 => if r1 < 60 then (if r1 = (S.1 17) then (if r1 < 0 ∨ 60 ≤ Int32.toNatClampNeg r1 then none else lt_ (sA S 16 (Int32.toNatClampNeg r1) x1) fun S10 => if r1 < 0 ∨ 60 ≤ Int32.toNatClampNeg r1 then none else lt_ (sA S10 17 (Int32.toNatClampNeg r1) x2) fun S12 => if r1 < 0 ∨ 60 ≤ Int32.toNatClampNeg r1 then none else lt_ (sA S12 18 (Int32.toNatClampNeg r1) 0) fun S14 => lt_ (sS S14 17 ((S14.1 17) + 1)) fun S15 => if r1 < 0 ∨ 60 ≤ Int32.toNatClampNeg r1 then none else if r1 < 0 ∨ 60 ≤ Int32.toNatClampNeg r1 then none else lt_ (sA S15 18 (Int32.toNatClampNeg r1) ((S15.2.1 18 (Int32.toNatClampNeg r1)) ||| ((1 : Int32) <<< (x3 &&& 31)))) fun S18 => if r1 < 0 ∨ 60 ≤ Int32.toNatClampNeg r1 then none else ob (fJ6_bitCount_0f7a4 (S18.2.1 18 (Int32.toNatClampNeg r1))) fun r20 => some (r20, S18)) else (if r1 < 0 ∨ 60 ≤ Int32.toNatClampNeg r1 then none else if r1 < 0 ∨ 60 ≤ Int32.toNatClampNeg r1 then none else lt_ (sA S 18 (Int32.toNatClampNeg r1) ((S.2.1 18 (Int32.toNatClampNeg r1)) ||| ((1 : Int32) <<< (x3 &&& 31)))) fun S6 => if r1 < 0 ∨ 60 ≤ Int32.toNatClampNeg r1 then none else ob (fJ6_bitCount_0f7a4 (S6.2.1 18 (Int32.toNatClampNeg r1))) fun r8 => some (r8, S6))) else (some ((-1), S))
set_option maxRecDepth 20000 in
theorem inX9_tell_9 : ∀ w ∈ u_ws RX9 TX9 4, w ∈ wsX9_tell := by decide +kernel
set_option maxHeartbeats 4000000 in
set_option maxRecDepth 100000 in
theorem tX9_tell {l : Launch} {D : va_G} {cc : Nat → ClassId} {ak av : Nat → Nat} {ad : Nat → Nat} {g : Nat → Option Nat} {E : va_W} {n : Nat} {S : St} {x1 : Int32} {x2 : Int32} {x3 : Int32} {r : Int32} {S' : St} (hf : fX9_tell n S x1 x2 x3 = some (r, S')) : CI l yX9_tell wsX9_tell ({ frames := 1, cells := 0, slots := 0, locals := 23 } : Room) D cc ak av [.ref (ad 6), .int x1, .int x2, .int x3] (WX cc ad g S ++ E) (WX cc ad g S' ++ E) r := by
  refine mkI (c0 := cX9_tell) (nL := 5) (own := RX9) rfl rfl (by decide) rfl rfl (Nat.le_of_ble_eq_true rfl) ?_
  intro p e s m args below meth c A Q ls F B hQ hl w
  have hx := F.1
  have hb := F.2.1
  have hown := F.2.2.2.1
  have hts := F.2.2.2.2
  have hl : lv_has ls 5 [(0, .ref (ad 6)), (1, .int x1), (2, .int x2), (3, .int x3)] := hl
  unfold fX9_tell at hf
  refine lv_aload_n hx hb dX9_tell_0 rfl (lv_at hl 0 rfl) ?_
  refine lv_iload_n hx hb dX9_tell_1 rfl (lv_at hl 1 rfl) ?_
  refine lv_iload_n hx hb dX9_tell_2 rfl (lv_at hl 2 rfl) ?_
  obtain ⟨r1, er1, hf⟩ := ob_e hf
  refine kVi (As := [.int x1, .int x2]) (rest := []) F B w (tX9_pairOf er1) (cwV 2 hts gX9_tell_X9_pairOf rfl rfl rfl (by decide +kernel) ⟨Nat.le_of_ble_eq_true rfl, Nat.le_of_ble_eq_true rfl⟩) 6 gX_6 rfl rfl hl.1 rfl (Nat.le_of_ble_eq_true rfl) dX9_tell_3 ⟨Nat.le_of_ble_eq_true rfl, Nat.le_of_ble_eq_true rfl⟩ (fun H locs w => ?_)
  refine lv_istore (lv' := [(4, .int r1), (0, .ref (ad 6)), (1, .int x1), (2, .int x2), (3, .int x3)]) hx hb dX9_tell_6 hl (by decide) rfl (fun ls hl => ?_)
  refine lv_iload hx hb dX9_tell_8 (lv_at hl 0 rfl) ?_
  refine lv_bipush (v := 60) hx hb dX9_tell_10 (by decide) ?_
  refine lv_icmp_lt (tgt := 17) hx hb dX9_tell_12 (by decide) (fun c2 => ?_) (fun c2 => ?_)
  · have hf := if_t hf c2
    refine lv_iload hx hb dX9_tell_17 (lv_at hl 0 rfl) ?_
    refine lv_aload_n hx hb dX9_tell_19 rfl (lv_at hl 1 rfl) ?_
    refine kget (v := .int (S.1 17)) F B w inX9_tell_9 6 gX_6 rfl 3 (by decide) (hts (.fieldLink RX9 25 "LandReform$Tenancies" "size" "I") (by decide +kernel)) rfl rfl dX9_tell_20 ?_
    refine lv_icmp_ne (tgt := 60) hx hb dX9_tell_23 (by decide) (fun c3 => ?_) (fun c3 => ?_)
    · have hf := if_f hf c3
      refine lv_aload_n hx hb dX9_tell_60 rfl (lv_at hl 1 rfl) ?_
      refine kget (v := .ref (ad 31)) F B w inX9_tell_9 6 gX_6 rfl 2 (by decide) (hts (.fieldLink RX9 18 "LandReform$Tenancies" "yearSets" "[I") (by decide +kernel)) rfl rfl dX9_tell_61 ?_
      refine lv_iload hx hb dX9_tell_64 (lv_at hl 0 rfl) ?_
      refine lv_dup2_11 hx hb dX9_tell_66 rfl rfl ?_
      obtain ⟨g4, hf⟩ := if_g hf
      refine kiald F B w 31 gX_31 g4 dX9_tell_67 ?_
      refine lv_iconst (v := 1) hx hb dX9_tell_68 (by decide) ?_
      refine lv_iload_n hx hb dX9_tell_69 rfl (lv_at hl 4 rfl) ?_
      refine lv_ishl hx hb dX9_tell_70 ?_
      refine lv_ior hx hb dX9_tell_71 ?_
      obtain ⟨g5, hf⟩ := if_g hf
      refine kiast F B w 31 gX_31 g5 bX_31 dX9_tell_72 (fun H locs w => ?_)
      obtain ⟨S6, eS6⟩ : ∃ z, z = sA S 18 (Int32.toNatClampNeg r1) ((S.2.1 18 (Int32.toNatClampNeg r1)) ||| ((1 : Int32) <<< (x3 &&& 31))) := ⟨_, rfl⟩
      rw [← eS6] at w
      have hf := lt_e hf eS6
      refine lv_aload_n hx hb dX9_tell_73 rfl (lv_at hl 1 rfl) ?_
      refine kget (v := .ref (ad 31)) F B w inX9_tell_9 6 gX_6 rfl 2 (by decide) (hts (.fieldLink RX9 18 "LandReform$Tenancies" "yearSets" "[I") (by decide +kernel)) rfl rfl dX9_tell_74 ?_
      refine lv_iload hx hb dX9_tell_77 (lv_at hl 0 rfl) ?_
      obtain ⟨g7, hf⟩ := if_g hf
      refine kiald F B w 31 gX_31 g7 dX9_tell_79 ?_
      obtain ⟨r8, er8, hf⟩ := ob_e hf
      refine kSi (As := [.int (S6.2.1 18 (Int32.toNatClampNeg r1))]) (rest := []) F B w (tJ6_bitCount_0f7a4 er8) (va_cwS 1 hts gX9_tell_J6_bitCount_0f7a4 rfl rfl rfl (by decide +kernel) ⟨Nat.le_of_ble_eq_true rfl, Nat.le_of_ble_eq_true rfl⟩) rfl hl.1 rfl (Nat.le_of_ble_eq_true rfl) dX9_tell_80 ⟨Nat.le_of_ble_eq_true rfl, Nat.le_of_ble_eq_true rfl⟩ (fun H locs w => ?_)
      cases hf
      exact hQ _ _ _ _ dX9_tell_83 w
    · have hf := if_t hf c3
      refine lv_aload_n hx hb dX9_tell_26 rfl (lv_at hl 1 rfl) ?_
      refine kget (v := .ref (ad 29)) F B w inX9_tell_9 6 gX_6 rfl 0 (by decide) (hts (.fieldLink RX9 9 "LandReform$Tenancies" "fields" "[I") (by decide +kernel)) rfl rfl dX9_tell_27 ?_
      refine lv_iload hx hb dX9_tell_30 (lv_at hl 0 rfl) ?_
      refine lv_iload_n hx hb dX9_tell_32 rfl (lv_at hl 2 rfl) ?_
      obtain ⟨g9, hf⟩ := if_g hf
      refine kiast F B w 29 gX_29 g9 bX_29 dX9_tell_33 (fun H locs w => ?_)
      obtain ⟨S10, eS10⟩ : ∃ z, z = sA S 16 (Int32.toNatClampNeg r1) x1 := ⟨_, rfl⟩
      rw [← eS10] at w
      have hf := lt_e hf eS10
      refine lv_aload_n hx hb dX9_tell_34 rfl (lv_at hl 1 rfl) ?_
      refine kget (v := .ref (ad 30)) F B w inX9_tell_9 6 gX_6 rfl 1 (by decide) (hts (.fieldLink RX9 15 "LandReform$Tenancies" "persons" "[I") (by decide +kernel)) rfl rfl dX9_tell_35 ?_
      refine lv_iload hx hb dX9_tell_38 (lv_at hl 0 rfl) ?_
      refine lv_iload_n hx hb dX9_tell_40 rfl (lv_at hl 3 rfl) ?_
      obtain ⟨g11, hf⟩ := if_g hf
      refine kiast F B w 30 gX_30 g11 bX_30 dX9_tell_41 (fun H locs w => ?_)
      obtain ⟨S12, eS12⟩ : ∃ z, z = sA S10 17 (Int32.toNatClampNeg r1) x2 := ⟨_, rfl⟩
      rw [← eS12] at w
      have hf := lt_e hf eS12
      refine lv_aload_n hx hb dX9_tell_42 rfl (lv_at hl 1 rfl) ?_
      refine kget (v := .ref (ad 31)) F B w inX9_tell_9 6 gX_6 rfl 2 (by decide) (hts (.fieldLink RX9 18 "LandReform$Tenancies" "yearSets" "[I") (by decide +kernel)) rfl rfl dX9_tell_43 ?_
      refine lv_iload hx hb dX9_tell_46 (lv_at hl 0 rfl) ?_
      refine lv_iconst (v := 0) hx hb dX9_tell_48 (by decide) ?_
      obtain ⟨g13, hf⟩ := if_g hf
      refine kiast F B w 31 gX_31 g13 bX_31 dX9_tell_49 (fun H locs w => ?_)
      obtain ⟨S14, eS14⟩ : ∃ z, z = sA S12 18 (Int32.toNatClampNeg r1) 0 := ⟨_, rfl⟩
      rw [← eS14] at w
      have hf := lt_e hf eS14
      refine lv_aload_n hx hb dX9_tell_50 rfl (lv_at hl 1 rfl) ?_
      refine lv_dup hx hb dX9_tell_51 rfl ?_
      refine kget (v := .int (S14.1 17)) F B w inX9_tell_9 6 gX_6 rfl 3 (by decide) (hts (.fieldLink RX9 25 "LandReform$Tenancies" "size" "I") (by decide +kernel)) rfl rfl dX9_tell_52 ?_
      refine lv_iconst (v := 1) hx hb dX9_tell_55 (by decide) ?_
      refine lv_iadd hx hb dX9_tell_56 ?_
      refine kput (ty := .int) F B w inX9_tell_9 tyX9 tyX9_ok nmX9 6 gX_6 rfl 3 (by decide) (hts (.fieldLink RX9 25 "LandReform$Tenancies" "size" "I") (by decide +kernel)) rfl rfl (by decide +kernel) rfl rfl (Nat.le_of_ble_eq_true rfl) pX_17 dX9_tell_57 (fun H locs w => ?_)
      obtain ⟨S15, eS15⟩ : ∃ z, z = sS S14 17 ((S14.1 17) + 1) := ⟨_, rfl⟩
      rw [← eS15] at w
      have hf := lt_e hf eS15
      refine lv_aload_n hx hb dX9_tell_60 rfl (lv_at hl 1 rfl) ?_
      refine kget (v := .ref (ad 31)) F B w inX9_tell_9 6 gX_6 rfl 2 (by decide) (hts (.fieldLink RX9 18 "LandReform$Tenancies" "yearSets" "[I") (by decide +kernel)) rfl rfl dX9_tell_61 ?_
      refine lv_iload hx hb dX9_tell_64 (lv_at hl 0 rfl) ?_
      refine lv_dup2_11 hx hb dX9_tell_66 rfl rfl ?_
      obtain ⟨g16, hf⟩ := if_g hf
      refine kiald F B w 31 gX_31 g16 dX9_tell_67 ?_
      refine lv_iconst (v := 1) hx hb dX9_tell_68 (by decide) ?_
      refine lv_iload_n hx hb dX9_tell_69 rfl (lv_at hl 4 rfl) ?_
      refine lv_ishl hx hb dX9_tell_70 ?_
      refine lv_ior hx hb dX9_tell_71 ?_
      obtain ⟨g17, hf⟩ := if_g hf
      refine kiast F B w 31 gX_31 g17 bX_31 dX9_tell_72 (fun H locs w => ?_)
      obtain ⟨S18, eS18⟩ : ∃ z, z = sA S15 18 (Int32.toNatClampNeg r1) ((S15.2.1 18 (Int32.toNatClampNeg r1)) ||| ((1 : Int32) <<< (x3 &&& 31))) := ⟨_, rfl⟩
      rw [← eS18] at w
      have hf := lt_e hf eS18
      refine lv_aload_n hx hb dX9_tell_73 rfl (lv_at hl 1 rfl) ?_
      refine kget (v := .ref (ad 31)) F B w inX9_tell_9 6 gX_6 rfl 2 (by decide) (hts (.fieldLink RX9 18 "LandReform$Tenancies" "yearSets" "[I") (by decide +kernel)) rfl rfl dX9_tell_74 ?_
      refine lv_iload hx hb dX9_tell_77 (lv_at hl 0 rfl) ?_
      obtain ⟨g19, hf⟩ := if_g hf
      refine kiald F B w 31 gX_31 g19 dX9_tell_79 ?_
      obtain ⟨r20, er20, hf⟩ := ob_e hf
      refine kSi (As := [.int (S18.2.1 18 (Int32.toNatClampNeg r1))]) (rest := []) F B w (tJ6_bitCount_0f7a4 er20) (va_cwS 1 hts gX9_tell_J6_bitCount_0f7a4 rfl rfl rfl (by decide +kernel) ⟨Nat.le_of_ble_eq_true rfl, Nat.le_of_ble_eq_true rfl⟩) rfl hl.1 rfl (Nat.le_of_ble_eq_true rfl) dX9_tell_80 ⟨Nat.le_of_ble_eq_true rfl, Nat.le_of_ble_eq_true rfl⟩ (fun H locs w => ?_)
      cases hf
      exact hQ _ _ _ _ dX9_tell_83 w
  · have hf := if_f hf c2
    refine lv_iconst (v := (-1)) hx hb dX9_tell_15 (by decide) ?_
    cases hf
    exact hQ _ _ _ _ dX9_tell_16 w

def fX9_tenantOf_L9 (n : Nat) (x1 : Int32) (x2 : Int32) (x3 : Int32) (S : St) (k : Int32 → Int32 → Int32 → Option Int32) : Nat → Int32 → Int32 → Int32 → Option Int32
  | 0, _, _, _ => none
  | fu + 1, x4, x5, x6 => if (S.1 17) ≤ x6 then (k x4 x5 x6) else (if x6 < 0 ∨ 60 ≤ Int32.toNatClampNeg x6 then none else ob (fJ6_bitCount_0f7a4 (S.2.1 18 (Int32.toNatClampNeg x6))) fun r3 => if x6 < 0 ∨ 60 ≤ Int32.toNatClampNeg x6 then none else if (S.2.1 16 (Int32.toNatClampNeg x6)) = x1 then (if x6 < 0 ∨ 60 ≤ Int32.toNatClampNeg x6 then none else if (S.2.1 17 (Int32.toNatClampNeg x6)) = x2 then (fX9_tenantOf_L9 n x1 x2 x3 S k fu x4 x5 (x6 + 1)) else (if r3 < x3 then (fX9_tenantOf_L9 n x1 x2 x3 S k fu x4 x5 (x6 + 1)) else (if x5 ≤ r3 then (if r3 = x5 then (fX9_tenantOf_L9 n x1 x2 x3 S k fu (-1) r3 (x6 + 1)) else (if x6 < 0 ∨ 60 ≤ Int32.toNatClampNeg x6 then none else lt_ (S.2.1 17 (Int32.toNatClampNeg x6)) fun v12 => fX9_tenantOf_L9 n x1 x2 x3 S k fu v12 r3 (x6 + 1))) else (fX9_tenantOf_L9 n x1 x2 x3 S k fu x4 x5 (x6 + 1))))) else (fX9_tenantOf_L9 n x1 x2 x3 S k fu x4 x5 (x6 + 1)))
def fX9_tenantOf (n : Nat) (S : St) (x1 : Int32) (x2 : Int32) (x3 : Int32) : Option Int32 := fX9_tenantOf_L9 n x1 x2 x3 S (fun x13 x14 x15 => some x13) n (-1) 0 0
set_option maxRecDepth 20000 in
theorem inX9_tenantOf_9 : ∀ w ∈ u_ws RX9 TX9 4, w ∈ wsX9_tenantOf := by decide +kernel
set_option maxHeartbeats 4000000 in
set_option maxRecDepth 100000 in
theorem wX9_tenantOf_L9 {p : Program} {l : Launch} {e : Env} {s : State} {m : MethodId} {args : Array Value} {below : List Frame} {meth : Method} {c : Code} {Q : State → Prop} {D : va_G} {cc : Nat → ClassId} {ak av : Nat → Nat} {A : Nat → Prop} {ad : Nat → Nat} {g : Nat → Option Nat} {E : va_W} {n : Nat} {x1 : Int32} {x2 : Int32} {x3 : Int32} {S : St} {r : Int32} {k : Int32 → Int32 → Int32 → Option Int32} (F : CallFix p m c cX9_tenantOf 8 s args wsX9_tenantOf RX9) (B : Bd D cc ak av A s) (hQ : RetI p l e ({ frames := 1, cells := 0, slots := 0, locals := 20 } : Room) s m args below meth c D A Q cX9_tenantOf (WX cc ad g S ++ E) r)
    (hk : ∀ (x4 : Int32) (x5 : Int32) (x6 : Int32) (H : Heap) (locs : List Loc) (ls : Array Slot), Wd D A s.heap H locs (WX cc ad g S ++ E) → lv_has ls 8 [(0, .ref (ad 6)), (1, .int x1), (2, .int x2), (3, .int x3), (4, .int x4), (5, .int x5), (6, .int x6)] → k x4 x5 x6 = some r → W p l e ({ frames := 1, cells := 0, slots := 0, locals := 20 } : Room) s m args below meth c H locs 0 0 Q (F0 m 98 ls [])) :
    ∀ (fu : Nat) (x4 : Int32) (x5 : Int32) (x6 : Int32) (H : Heap) (locs : List Loc) (ls : Array Slot), Wd D A s.heap H locs (WX cc ad g S ++ E) → lv_has ls 8 [(0, .ref (ad 6)), (1, .int x1), (2, .int x2), (3, .int x3), (4, .int x4), (5, .int x5), (6, .int x6)] → fX9_tenantOf_L9 n x1 x2 x3 S k fu x4 x5 x6 = some r → W p l e ({ frames := 1, cells := 0, slots := 0, locals := 20 } : Room) s m args below meth c H locs 0 0 Q (F0 m 9 ls []) := by
  have hx := F.1
  have hb := F.2.1
  have hown := F.2.2.2.1
  have hts := F.2.2.2.2
  intro fu
  induction fu with
  | zero => intro x4 x5 x6 H locs ls w hl hf; rw [fX9_tenantOf_L9] at hf; cases hf
  | succ fu ih =>
    intro x4 x5 x6 H locs ls w hl hf
    rw [fX9_tenantOf_L9] at hf
    refine lv_iload hx hb dX9_tenantOf_9 (lv_at hl 6 rfl) ?_
    refine lv_aload_n hx hb dX9_tenantOf_11 rfl (lv_at hl 0 rfl) ?_
    refine kget (v := .int (S.1 17)) F B w inX9_tenantOf_9 6 gX_6 rfl 3 (by decide) (hts (.fieldLink RX9 25 "LandReform$Tenancies" "size" "I") (by decide +kernel)) rfl rfl dX9_tenantOf_12 ?_
    refine lv_icmp_ge (tgt := 98) hx hb dX9_tenantOf_15 (by decide) (fun c1 => ?_) (fun c1 => ?_)
    · have hf := if_t hf c1
      exact hk _ _ _ _ _ _ w (lv_sub hl [0, 1, 2, 3, 4, 5, 6] rfl) hf
    · have hf := if_f hf c1
      refine lv_aload_n hx hb dX9_tenantOf_18 rfl (lv_at hl 0 rfl) ?_
      refine kget (v := .ref (ad 31)) F B w inX9_tenantOf_9 6 gX_6 rfl 2 (by decide) (hts (.fieldLink RX9 18 "LandReform$Tenancies" "yearSets" "[I") (by decide +kernel)) rfl rfl dX9_tenantOf_19 ?_
      refine lv_iload hx hb dX9_tenantOf_22 (lv_at hl 6 rfl) ?_
      obtain ⟨g2, hf⟩ := if_g hf
      refine kiald F B w 31 gX_31 g2 dX9_tenantOf_24 ?_
      obtain ⟨r3, er3, hf⟩ := ob_e hf
      refine kSi (As := [.int (S.2.1 18 (Int32.toNatClampNeg x6))]) (rest := []) F B w (tJ6_bitCount_0f7a4 er3) (va_cwS 1 hts gX9_tenantOf_J6_bitCount_0f7a4 rfl rfl rfl (by decide +kernel) ⟨Nat.le_of_ble_eq_true rfl, Nat.le_of_ble_eq_true rfl⟩) rfl hl.1 rfl (Nat.le_of_ble_eq_true rfl) dX9_tenantOf_25 ⟨Nat.le_of_ble_eq_true rfl, Nat.le_of_ble_eq_true rfl⟩ (fun H locs w => ?_)
      refine lv_istore (lv' := [(7, .int r3), (0, .ref (ad 6)), (1, .int x1), (2, .int x2), (3, .int x3), (4, .int x4), (5, .int x5), (6, .int x6)]) hx hb dX9_tenantOf_28 hl (by decide) rfl (fun ls hl => ?_)
      refine lv_aload_n hx hb dX9_tenantOf_30 rfl (lv_at hl 1 rfl) ?_
      refine kget (v := .ref (ad 29)) F B w inX9_tenantOf_9 6 gX_6 rfl 0 (by decide) (hts (.fieldLink RX9 9 "LandReform$Tenancies" "fields" "[I") (by decide +kernel)) rfl rfl dX9_tenantOf_31 ?_
      refine lv_iload hx hb dX9_tenantOf_34 (lv_at hl 7 rfl) ?_
      obtain ⟨g4, hf⟩ := if_g hf
      refine kiald F B w 29 gX_29 g4 dX9_tenantOf_36 ?_
      refine lv_iload_n hx hb dX9_tenantOf_37 rfl (lv_at hl 2 rfl) ?_
      refine lv_icmp_ne (tgt := 92) hx hb dX9_tenantOf_38 (by decide) (fun c5 => ?_) (fun c5 => ?_)
      · have hf := if_f hf c5
        refine lv_iinc (v := (x6 + 1)) (lv' := [(6, .int (x6 + 1)), (7, .int r3), (0, .ref (ad 6)), (1, .int x1), (2, .int x2), (3, .int x3), (4, .int x4), (5, .int x5)]) hx hb dX9_tenantOf_92 hl (k := 7) rfl rfl (by decide) rfl (fun ls hl => ?_)
        refine lv_goto (tgt := 9) hx hb dX9_tenantOf_95 (by decide) ?_
        exact ih _ _ _ _ _ _ w (lv_sub hl [2, 3, 4, 5, 6, 7, 0] rfl) hf
      · have hf := if_t hf c5
        refine lv_aload_n hx hb dX9_tenantOf_41 rfl (lv_at hl 1 rfl) ?_
        refine kget (v := .ref (ad 30)) F B w inX9_tenantOf_9 6 gX_6 rfl 1 (by decide) (hts (.fieldLink RX9 15 "LandReform$Tenancies" "persons" "[I") (by decide +kernel)) rfl rfl dX9_tenantOf_42 ?_
        refine lv_iload hx hb dX9_tenantOf_45 (lv_at hl 7 rfl) ?_
        obtain ⟨g6, hf⟩ := if_g hf
        refine kiald F B w 30 gX_30 g6 dX9_tenantOf_47 ?_
        refine lv_iload_n hx hb dX9_tenantOf_48 rfl (lv_at hl 3 rfl) ?_
        refine lv_icmp_eq (tgt := 92) hx hb dX9_tenantOf_49 (by decide) (fun c7 => ?_) (fun c7 => ?_)
        · have hf := if_t hf c7
          refine lv_iinc (v := (x6 + 1)) (lv' := [(6, .int (x6 + 1)), (7, .int r3), (0, .ref (ad 6)), (1, .int x1), (2, .int x2), (3, .int x3), (4, .int x4), (5, .int x5)]) hx hb dX9_tenantOf_92 hl (k := 7) rfl rfl (by decide) rfl (fun ls hl => ?_)
          refine lv_goto (tgt := 9) hx hb dX9_tenantOf_95 (by decide) ?_
          exact ih _ _ _ _ _ _ w (lv_sub hl [2, 3, 4, 5, 6, 7, 0] rfl) hf
        · have hf := if_f hf c7
          refine lv_iload hx hb dX9_tenantOf_52 (lv_at hl 0 rfl) ?_
          refine lv_iload_n hx hb dX9_tenantOf_54 rfl (lv_at hl 4 rfl) ?_
          refine lv_icmp_lt (tgt := 92) hx hb dX9_tenantOf_55 (by decide) (fun c8 => ?_) (fun c8 => ?_)
          · have hf := if_t hf c8
            refine lv_iinc (v := (x6 + 1)) (lv' := [(6, .int (x6 + 1)), (7, .int r3), (0, .ref (ad 6)), (1, .int x1), (2, .int x2), (3, .int x3), (4, .int x4), (5, .int x5)]) hx hb dX9_tenantOf_92 hl (k := 7) rfl rfl (by decide) rfl (fun ls hl => ?_)
            refine lv_goto (tgt := 9) hx hb dX9_tenantOf_95 (by decide) ?_
            exact ih _ _ _ _ _ _ w (lv_sub hl [2, 3, 4, 5, 6, 7, 0] rfl) hf
          · have hf := if_f hf c8
            refine lv_iload hx hb dX9_tenantOf_58 (lv_at hl 0 rfl) ?_
            refine lv_iload hx hb dX9_tenantOf_60 (lv_at hl 6 rfl) ?_
            refine lv_icmp_ge (tgt := 68) hx hb dX9_tenantOf_62 (by decide) (fun c9 => ?_) (fun c9 => ?_)
            · have hf := if_t hf c9
              refine lv_iload hx hb dX9_tenantOf_68 (lv_at hl 0 rfl) ?_
              refine lv_iload hx hb dX9_tenantOf_70 (lv_at hl 6 rfl) ?_
              refine lv_icmp_ne (tgt := 79) hx hb dX9_tenantOf_72 (by decide) (fun c10 => ?_) (fun c10 => ?_)
              · have hf := if_f hf c10
                refine lv_aload_n hx hb dX9_tenantOf_79 rfl (lv_at hl 1 rfl) ?_
                refine kget (v := .ref (ad 30)) F B w inX9_tenantOf_9 6 gX_6 rfl 1 (by decide) (hts (.fieldLink RX9 15 "LandReform$Tenancies" "persons" "[I") (by decide +kernel)) rfl rfl dX9_tenantOf_80 ?_
                refine lv_iload hx hb dX9_tenantOf_83 (lv_at hl 7 rfl) ?_
                obtain ⟨g11, hf⟩ := if_g hf
                refine kiald F B w 30 gX_30 g11 dX9_tenantOf_85 ?_
                refine lv_topi (fun v12 ev12 => ?_)
                have hf := lt_e hf ev12
                refine lv_istore (lv' := [(4, .int v12), (7, .int r3), (0, .ref (ad 6)), (1, .int x1), (2, .int x2), (3, .int x3), (5, .int x5), (6, .int x6)]) hx hb dX9_tenantOf_86 hl (by decide) rfl (fun ls hl => ?_)
                refine lv_iload hx hb dX9_tenantOf_88 (lv_at hl 1 rfl) ?_
                refine lv_istore (lv' := [(5, .int r3), (4, .int v12), (7, .int r3), (0, .ref (ad 6)), (1, .int x1), (2, .int x2), (3, .int x3), (6, .int x6)]) hx hb dX9_tenantOf_90 hl (by decide) rfl (fun ls hl => ?_)
                refine lv_iinc (v := (x6 + 1)) (lv' := [(6, .int (x6 + 1)), (5, .int r3), (4, .int v12), (7, .int r3), (0, .ref (ad 6)), (1, .int x1), (2, .int x2), (3, .int x3)]) hx hb dX9_tenantOf_92 hl (k := 7) rfl rfl (by decide) rfl (fun ls hl => ?_)
                refine lv_goto (tgt := 9) hx hb dX9_tenantOf_95 (by decide) ?_
                exact ih _ _ _ _ _ _ w (lv_sub hl [4, 5, 6, 7, 2, 1, 0] rfl) hf
              · have hf := if_t hf c10
                refine lv_iconst (v := (-1)) hx hb dX9_tenantOf_75 (by decide) ?_
                refine lv_goto (tgt := 86) hx hb dX9_tenantOf_76 (by decide) ?_
                refine lv_istore (lv' := [(4, .int (-1)), (7, .int r3), (0, .ref (ad 6)), (1, .int x1), (2, .int x2), (3, .int x3), (5, .int x5), (6, .int x6)]) hx hb dX9_tenantOf_86 hl (by decide) rfl (fun ls hl => ?_)
                refine lv_iload hx hb dX9_tenantOf_88 (lv_at hl 1 rfl) ?_
                refine lv_istore (lv' := [(5, .int r3), (4, .int (-1)), (7, .int r3), (0, .ref (ad 6)), (1, .int x1), (2, .int x2), (3, .int x3), (6, .int x6)]) hx hb dX9_tenantOf_90 hl (by decide) rfl (fun ls hl => ?_)
                refine lv_iinc (v := (x6 + 1)) (lv' := [(6, .int (x6 + 1)), (5, .int r3), (4, .int (-1)), (7, .int r3), (0, .ref (ad 6)), (1, .int x1), (2, .int x2), (3, .int x3)]) hx hb dX9_tenantOf_92 hl (k := 7) rfl rfl (by decide) rfl (fun ls hl => ?_)
                refine lv_goto (tgt := 9) hx hb dX9_tenantOf_95 (by decide) ?_
                exact ih _ _ _ _ _ _ w (lv_sub hl [4, 5, 6, 7, 2, 1, 0] rfl) hf
            · have hf := if_f hf c9
              refine lv_goto (tgt := 92) hx hb dX9_tenantOf_65 (by decide) ?_
              refine lv_iinc (v := (x6 + 1)) (lv' := [(6, .int (x6 + 1)), (7, .int r3), (0, .ref (ad 6)), (1, .int x1), (2, .int x2), (3, .int x3), (4, .int x4), (5, .int x5)]) hx hb dX9_tenantOf_92 hl (k := 7) rfl rfl (by decide) rfl (fun ls hl => ?_)
              refine lv_goto (tgt := 9) hx hb dX9_tenantOf_95 (by decide) ?_
              exact ih _ _ _ _ _ _ w (lv_sub hl [2, 3, 4, 5, 6, 7, 0] rfl) hf
set_option maxHeartbeats 4000000 in
set_option maxRecDepth 100000 in
theorem tX9_tenantOf {l : Launch} {D : va_G} {cc : Nat → ClassId} {ak av : Nat → Nat} {ad : Nat → Nat} {g : Nat → Option Nat} {E : va_W} {n : Nat} {S : St} {x1 : Int32} {x2 : Int32} {x3 : Int32} {r : Int32} (hf : fX9_tenantOf n S x1 x2 x3 = some r) : CI l yX9_tenantOf wsX9_tenantOf ({ frames := 1, cells := 0, slots := 0, locals := 20 } : Room) D cc ak av [.ref (ad 6), .int x1, .int x2, .int x3] (WX cc ad g S ++ E) (WX cc ad g S ++ E) r := by
  refine mkI (c0 := cX9_tenantOf) (nL := 8) (own := RX9) rfl rfl (by decide) rfl rfl (Nat.le_of_ble_eq_true rfl) ?_
  intro p e s m args below meth c A Q ls F B hQ hl w
  have hx := F.1
  have hb := F.2.1
  have hown := F.2.2.2.1
  have hts := F.2.2.2.2
  have hl : lv_has ls 8 [(0, .ref (ad 6)), (1, .int x1), (2, .int x2), (3, .int x3)] := hl
  unfold fX9_tenantOf at hf
  refine lv_iconst (v := (-1)) hx hb dX9_tenantOf_0 (by decide) ?_
  refine lv_istore (lv' := [(4, .int (-1)), (0, .ref (ad 6)), (1, .int x1), (2, .int x2), (3, .int x3)]) hx hb dX9_tenantOf_1 hl (by decide) rfl (fun ls hl => ?_)
  refine lv_iconst (v := 0) hx hb dX9_tenantOf_3 (by decide) ?_
  refine lv_istore (lv' := [(5, .int 0), (4, .int (-1)), (0, .ref (ad 6)), (1, .int x1), (2, .int x2), (3, .int x3)]) hx hb dX9_tenantOf_4 hl (by decide) rfl (fun ls hl => ?_)
  refine lv_iconst (v := 0) hx hb dX9_tenantOf_6 (by decide) ?_
  refine lv_istore (lv' := [(6, .int 0), (5, .int 0), (4, .int (-1)), (0, .ref (ad 6)), (1, .int x1), (2, .int x2), (3, .int x3)]) hx hb dX9_tenantOf_7 hl (by decide) rfl (fun ls hl => ?_)
  refine wX9_tenantOf_L9 F B hQ (fun x13 x14 x15 H locs ls w hl hf => ?_) n _ _ _ _ _ _ w (lv_sub hl [3, 4, 5, 6, 2, 1, 0] rfl) hf
  refine lv_iload hx hb dX9_tenantOf_98 (lv_at hl 4 rfl) ?_
  cases hf
  exact hQ _ _ _ _ dX9_tenantOf_100 w

def fX0_sumWith (S : St) (x1 : Int32) (x2 : Int32) : Option Int32 := ob (fJ6_bitCount_0f7a4 x1) fun r1 => lt_ ((S.1 18) - r1) fun v2 => ob (fX10_isBelow v2 5) fun r3 => if r3 = 0 then (some 0) else (ob (fX10_isBelow x2 5) fun r5 => if r5 = 0 then (some 0) else (if v2 < 0 ∨ 5 ≤ Int32.toNatClampNeg v2 then none else if x2 < 0 ∨ 5 ≤ Int32.toNatClampNeg x2 then none else if (x1 &&& (((1 : Int32) <<< (x2 &&& 31)) ^^^ (-1))) < 0 ∨ 32 ≤ Int32.toNatClampNeg (x1 &&& (((1 : Int32) <<< (x2 &&& 31)) ^^^ (-1))) then none else some ((S.2.1 (20 + Int32.toNatClampNeg v2) (Int32.toNatClampNeg x2)) + (S.2.1 19 (Int32.toNatClampNeg (x1 &&& (((1 : Int32) <<< (x2 &&& 31)) ^^^ (-1))))))))
set_option maxRecDepth 20000 in
theorem inX0_sumWith_0 : ∀ w ∈ u_ws RX0 TX0 3, w ∈ wsX0_sumWith := by decide +kernel
set_option maxHeartbeats 4000000 in
set_option maxRecDepth 100000 in
theorem tX0_sumWith {l : Launch} {D : va_G} {cc : Nat → ClassId} {ak av : Nat → Nat} {ad : Nat → Nat} {g : Nat → Option Nat} {E : va_W} {S : St} {x1 : Int32} {x2 : Int32} {r : Int32} (hf : fX0_sumWith S x1 x2 = some r) : CI l yX0_sumWith wsX0_sumWith ({ frames := 1, cells := 0, slots := 0, locals := 21 } : Room) D cc ak av [.ref (ad 7), .int x1, .int x2] (WX cc ad g S ++ E) (WX cc ad g S ++ E) r := by
  refine mkI (c0 := cX0_sumWith) (nL := 4) (own := RX0) rfl rfl (by decide) rfl rfl (Nat.le_of_ble_eq_true rfl) ?_
  intro p e s m args below meth c A Q ls F B hQ hl w
  have hx := F.1
  have hb := F.2.1
  have hown := F.2.2.2.1
  have hts := F.2.2.2.2
  have hl : lv_has ls 4 [(0, .ref (ad 7)), (1, .int x1), (2, .int x2)] := hl
  unfold fX0_sumWith at hf
  refine lv_aload_n hx hb dX0_sumWith_0 rfl (lv_at hl 0 rfl) ?_
  refine kget (v := .int (S.1 18)) F B w inX0_sumWith_0 7 gX_7 rfl 2 (by decide) (hts (.fieldLink RX0 29 "LandReform$Giving" "size" "I") (by decide +kernel)) rfl rfl dX0_sumWith_1 ?_
  refine lv_iload_n hx hb dX0_sumWith_4 rfl (lv_at hl 1 rfl) ?_
  obtain ⟨r1, er1, hf⟩ := ob_e hf
  refine kSi (As := [.int x1]) (rest := [.int (S.1 18)]) F B w (tJ6_bitCount_0f7a4 er1) (va_cwS 1 hts gX0_sumWith_J6_bitCount_0f7a4 rfl rfl rfl (by decide +kernel) ⟨Nat.le_of_ble_eq_true rfl, Nat.le_of_ble_eq_true rfl⟩) rfl hl.1 rfl (Nat.le_of_ble_eq_true rfl) dX0_sumWith_5 ⟨Nat.le_of_ble_eq_true rfl, Nat.le_of_ble_eq_true rfl⟩ (fun H locs w => ?_)
  refine lv_isub hx hb dX0_sumWith_8 ?_
  refine lv_topi (fun v2 ev2 => ?_)
  have hf := lt_e hf ev2
  refine lv_istore_n (lv' := [(3, .int v2), (0, .ref (ad 7)), (1, .int x1), (2, .int x2)]) hx hb dX0_sumWith_9 rfl hl (by decide) rfl (fun ls hl => ?_)
  refine lv_iload_n hx hb dX0_sumWith_10 rfl (lv_at hl 0 rfl) ?_
  refine lv_iconst (v := 5) hx hb dX0_sumWith_11 (by decide) ?_
  obtain ⟨r3, er3, hf⟩ := ob_e hf
  refine kSNi (As := [.int v2, .int 5]) (rest := []) F B w (tX10_isBelow er3) ⟨va_cnB 2 hts gX0_sumWith_X10_isBelow_n56 rfl rfl rfl (B.2.1.m 7 rfl) (hts (.initialized RX10) (by decide +kernel)) (by decide +kernel) ⟨Nat.le_of_ble_eq_true rfl, Nat.le_of_ble_eq_true rfl⟩, hts (.static yX10_isBelow) (by decide +kernel), trivial⟩ rfl hl.1 rfl (Nat.le_of_ble_eq_true rfl) dX0_sumWith_12 ⟨Nat.le_of_ble_eq_true rfl, Nat.le_of_ble_eq_true rfl⟩ (fun H locs w => ?_)
  refine lv_if_eq (tgt := 26) hx hb dX0_sumWith_15 (by decide) (fun c4 => ?_) (fun c4 => ?_)
  · have hf := if_t hf c4
    refine lv_iconst (v := 0) hx hb dX0_sumWith_26 (by decide) ?_
    cases hf
    exact hQ _ _ _ _ dX0_sumWith_27 w
  · have hf := if_f hf c4
    refine lv_iload_n hx hb dX0_sumWith_18 rfl (lv_at hl 3 rfl) ?_
    refine lv_iconst (v := 5) hx hb dX0_sumWith_19 (by decide) ?_
    obtain ⟨r5, er5, hf⟩ := ob_e hf
    refine kSNi (As := [.int x2, .int 5]) (rest := []) F B w (tX10_isBelow er5) ⟨va_cnB 2 hts gX0_sumWith_X10_isBelow_n56 rfl rfl rfl (B.2.1.m 7 rfl) (hts (.initialized RX10) (by decide +kernel)) (by decide +kernel) ⟨Nat.le_of_ble_eq_true rfl, Nat.le_of_ble_eq_true rfl⟩, hts (.static yX10_isBelow) (by decide +kernel), trivial⟩ rfl hl.1 rfl (Nat.le_of_ble_eq_true rfl) dX0_sumWith_20 ⟨Nat.le_of_ble_eq_true rfl, Nat.le_of_ble_eq_true rfl⟩ (fun H locs w => ?_)
    refine lv_if_ne (tgt := 28) hx hb dX0_sumWith_23 (by decide) (fun c6 => ?_) (fun c6 => ?_)
    · have hf := if_f hf c6
      refine lv_aload_n hx hb dX0_sumWith_28 rfl (lv_at hl 1 rfl) ?_
      refine kget (v := .ref (ad 33)) F B w inX0_sumWith_0 7 gX_7 rfl 1 (by decide) (hts (.fieldLink RX0 17 "LandReform$Giving" "distances" "[[I") (by decide +kernel)) rfl rfl dX0_sumWith_29 ?_
      refine lv_iload_n hx hb dX0_sumWith_32 rfl (lv_at hl 0 rfl) ?_
      obtain ⟨g7, hf⟩ := if_g hf
      refine kgald (v := ad (34 + Int32.toNatClampNeg v2)) F B w 33 gX_33 g7 (grid_v g7) dX0_sumWith_33 ?_
      refine lv_iload_n hx hb dX0_sumWith_34 rfl (lv_at hl 3 rfl) ?_
      obtain ⟨g8, hf⟩ := if_g hf
      refine kiald F B w (34 + Int32.toNatClampNeg v2) (gXr g7) g8 dX0_sumWith_35 ?_
      refine lv_aload_n hx hb dX0_sumWith_36 rfl (lv_at hl 1 rfl) ?_
      refine kget (v := .ref (ad 32)) F B w inX0_sumWith_0 7 gX_7 rfl 0 (by decide) (hts (.fieldLink RX0 9 "LandReform$Giving" "leastSums" "[I") (by decide +kernel)) rfl rfl dX0_sumWith_37 ?_
      refine lv_iload_n hx hb dX0_sumWith_40 rfl (lv_at hl 2 rfl) ?_
      refine lv_iconst (v := 1) hx hb dX0_sumWith_41 (by decide) ?_
      refine lv_iload_n hx hb dX0_sumWith_42 rfl (lv_at hl 3 rfl) ?_
      refine lv_ishl hx hb dX0_sumWith_43 ?_
      refine lv_iconst (v := (-1)) hx hb dX0_sumWith_44 (by decide) ?_
      refine lv_ixor hx hb dX0_sumWith_45 ?_
      refine lv_iand hx hb dX0_sumWith_46 ?_
      obtain ⟨g9, hf⟩ := if_g hf
      refine kiald F B w 32 gX_32 g9 dX0_sumWith_47 ?_
      refine lv_iadd hx hb dX0_sumWith_48 ?_
      cases hf
      exact hQ _ _ _ _ dX0_sumWith_49 w
    · have hf := if_t hf c6
      refine lv_iconst (v := 0) hx hb dX0_sumWith_26 (by decide) ?_
      cases hf
      exact hQ _ _ _ _ dX0_sumWith_27 w

def fX0_nearest_L8 (n : Nat) (x1 : Int32) (S : St) (k : Int32 → Int32 → Int32 → Option Int32) : Nat → Int32 → Int32 → Int32 → Option Int32
  | 0, _, _, _ => none
  | fu + 1, x2, x3, x4 => if (S.1 18) ≤ x4 then (k x2 x3 x4) else (if ((x1 >>> (x4 &&& 31)) &&& 1) = 1 then (ob (fX0_sumWith S x1 x4) fun r3 => if x3 ≤ r3 then (fX0_nearest_L8 n x1 S k fu x2 x3 (x4 + 1)) else (ob (fX0_sumWith S x1 x4) fun r5 => fX0_nearest_L8 n x1 S k fu x4 r5 (x4 + 1))) else (fX0_nearest_L8 n x1 S k fu x2 x3 (x4 + 1)))
def fX0_nearest (n : Nat) (S : St) (x1 : Int32) : Option Int32 := fX0_nearest_L8 n x1 S (fun x6 x7 x8 => some x6) n 0 2147483647 0
set_option maxRecDepth 20000 in
theorem inX0_nearest_0 : ∀ w ∈ u_ws RX0 TX0 3, w ∈ wsX0_nearest := by decide +kernel
set_option maxHeartbeats 4000000 in
set_option maxRecDepth 100000 in
theorem wX0_nearest_L8 {p : Program} {l : Launch} {e : Env} {s : State} {m : MethodId} {args : Array Value} {below : List Frame} {meth : Method} {c : Code} {Q : State → Prop} {D : va_G} {cc : Nat → ClassId} {ak av : Nat → Nat} {A : Nat → Prop} {ad : Nat → Nat} {g : Nat → Option Nat} {E : va_W} {n : Nat} {x1 : Int32} {S : St} {r : Int32} {k : Int32 → Int32 → Int32 → Option Int32} (F : CallFix p m c cX0_nearest 5 s args wsX0_nearest RX0) (B : Bd D cc ak av A s) (hQ : RetI p l e ({ frames := 2, cells := 0, slots := 0, locals := 44 } : Room) s m args below meth c D A Q cX0_nearest (WX cc ad g S ++ E) r)
    (hk : ∀ (x2 : Int32) (x3 : Int32) (x4 : Int32) (H : Heap) (locs : List Loc) (ls : Array Slot), Wd D A s.heap H locs (WX cc ad g S ++ E) → lv_has ls 5 [(0, .ref (ad 7)), (1, .int x1), (2, .int x2), (3, .int x3), (4, .int x4)] → k x2 x3 x4 = some r → W p l e ({ frames := 2, cells := 0, slots := 0, locals := 44 } : Room) s m args below meth c H locs 0 0 Q (F0 m 55 ls [])) :
    ∀ (fu : Nat) (x2 : Int32) (x3 : Int32) (x4 : Int32) (H : Heap) (locs : List Loc) (ls : Array Slot), Wd D A s.heap H locs (WX cc ad g S ++ E) → lv_has ls 5 [(0, .ref (ad 7)), (1, .int x1), (2, .int x2), (3, .int x3), (4, .int x4)] → fX0_nearest_L8 n x1 S k fu x2 x3 x4 = some r → W p l e ({ frames := 2, cells := 0, slots := 0, locals := 44 } : Room) s m args below meth c H locs 0 0 Q (F0 m 8 ls []) := by
  have hx := F.1
  have hb := F.2.1
  have hown := F.2.2.2.1
  have hts := F.2.2.2.2
  intro fu
  induction fu with
  | zero => intro x2 x3 x4 H locs ls w hl hf; rw [fX0_nearest_L8] at hf; cases hf
  | succ fu ih =>
    intro x2 x3 x4 H locs ls w hl hf
    rw [fX0_nearest_L8] at hf
    refine lv_iload hx hb dX0_nearest_8 (lv_at hl 4 rfl) ?_
    refine lv_aload_n hx hb dX0_nearest_10 rfl (lv_at hl 0 rfl) ?_
    refine kget (v := .int (S.1 18)) F B w inX0_nearest_0 7 gX_7 rfl 2 (by decide) (hts (.fieldLink RX0 29 "LandReform$Giving" "size" "I") (by decide +kernel)) rfl rfl dX0_nearest_11 ?_
    refine lv_icmp_ge (tgt := 55) hx hb dX0_nearest_14 (by decide) (fun c1 => ?_) (fun c1 => ?_)
    · have hf := if_t hf c1
      exact hk _ _ _ _ _ _ w (lv_sub hl [0, 1, 2, 3, 4] rfl) hf
    · have hf := if_f hf c1
      refine lv_iload_n hx hb dX0_nearest_17 rfl (lv_at hl 1 rfl) ?_
      refine lv_iload hx hb dX0_nearest_18 (lv_at hl 4 rfl) ?_
      refine lv_ishr hx hb dX0_nearest_20 ?_
      refine lv_iconst (v := 1) hx hb dX0_nearest_21 (by decide) ?_
      refine lv_iand hx hb dX0_nearest_22 ?_
      refine lv_iconst (v := 1) hx hb dX0_nearest_23 (by decide) ?_
      refine lv_icmp_ne (tgt := 49) hx hb dX0_nearest_24 (by decide) (fun c2 => ?_) (fun c2 => ?_)
      · have hf := if_f hf c2
        refine lv_iinc (v := (x4 + 1)) (lv' := [(4, .int (x4 + 1)), (0, .ref (ad 7)), (1, .int x1), (2, .int x2), (3, .int x3)]) hx hb dX0_nearest_49 hl (k := 4) rfl rfl (by decide) rfl (fun ls hl => ?_)
        refine lv_goto (tgt := 8) hx hb dX0_nearest_52 (by decide) ?_
        exact ih _ _ _ _ _ _ w (lv_sub hl [1, 2, 3, 4, 0] rfl) hf
      · have hf := if_t hf c2
        refine lv_aload_n hx hb dX0_nearest_27 rfl (lv_at hl 0 rfl) ?_
        refine lv_iload_n hx hb dX0_nearest_28 rfl (lv_at hl 1 rfl) ?_
        refine lv_iload hx hb dX0_nearest_29 (lv_at hl 4 rfl) ?_
        obtain ⟨r3, er3, hf⟩ := ob_e hf
        refine kVi (As := [.int x1, .int x4]) (rest := []) F B w (tX0_sumWith er3) (cwV 2 hts gX0_nearest_X0_sumWith rfl rfl rfl (by decide +kernel) ⟨Nat.le_of_ble_eq_true rfl, Nat.le_of_ble_eq_true rfl⟩) 7 gX_7 rfl rfl hl.1 rfl (Nat.le_of_ble_eq_true rfl) dX0_nearest_31 ⟨Nat.le_of_ble_eq_true rfl, Nat.le_of_ble_eq_true rfl⟩ (fun H locs w => ?_)
        refine lv_iload_n hx hb dX0_nearest_34 rfl (lv_at hl 3 rfl) ?_
        refine lv_icmp_ge (tgt := 49) hx hb dX0_nearest_35 (by decide) (fun c4 => ?_) (fun c4 => ?_)
        · have hf := if_t hf c4
          refine lv_iinc (v := (x4 + 1)) (lv' := [(4, .int (x4 + 1)), (0, .ref (ad 7)), (1, .int x1), (2, .int x2), (3, .int x3)]) hx hb dX0_nearest_49 hl (k := 4) rfl rfl (by decide) rfl (fun ls hl => ?_)
          refine lv_goto (tgt := 8) hx hb dX0_nearest_52 (by decide) ?_
          exact ih _ _ _ _ _ _ w (lv_sub hl [1, 2, 3, 4, 0] rfl) hf
        · have hf := if_f hf c4
          refine lv_iload hx hb dX0_nearest_38 (lv_at hl 4 rfl) ?_
          refine lv_istore_n (lv' := [(2, .int x4), (0, .ref (ad 7)), (1, .int x1), (3, .int x3), (4, .int x4)]) hx hb dX0_nearest_40 rfl hl (by decide) rfl (fun ls hl => ?_)
          refine lv_aload_n hx hb dX0_nearest_41 rfl (lv_at hl 1 rfl) ?_
          refine lv_iload_n hx hb dX0_nearest_42 rfl (lv_at hl 2 rfl) ?_
          refine lv_iload hx hb dX0_nearest_43 (lv_at hl 4 rfl) ?_
          obtain ⟨r5, er5, hf⟩ := ob_e hf
          refine kVi (As := [.int x1, .int x4]) (rest := []) F B w (tX0_sumWith er5) (cwV 2 hts gX0_nearest_X0_sumWith rfl rfl rfl (by decide +kernel) ⟨Nat.le_of_ble_eq_true rfl, Nat.le_of_ble_eq_true rfl⟩) 7 gX_7 rfl rfl hl.1 rfl (Nat.le_of_ble_eq_true rfl) dX0_nearest_45 ⟨Nat.le_of_ble_eq_true rfl, Nat.le_of_ble_eq_true rfl⟩ (fun H locs w => ?_)
          refine lv_istore_n (lv' := [(3, .int r5), (2, .int x4), (0, .ref (ad 7)), (1, .int x1), (4, .int x4)]) hx hb dX0_nearest_48 rfl hl (by decide) rfl (fun ls hl => ?_)
          refine lv_iinc (v := (x4 + 1)) (lv' := [(4, .int (x4 + 1)), (3, .int r5), (2, .int x4), (0, .ref (ad 7)), (1, .int x1)]) hx hb dX0_nearest_49 hl (k := 4) rfl rfl (by decide) rfl (fun ls hl => ?_)
          refine lv_goto (tgt := 8) hx hb dX0_nearest_52 (by decide) ?_
          exact ih _ _ _ _ _ _ w (lv_sub hl [3, 4, 2, 1, 0] rfl) hf
set_option maxHeartbeats 4000000 in
set_option maxRecDepth 100000 in
theorem tX0_nearest {l : Launch} {D : va_G} {cc : Nat → ClassId} {ak av : Nat → Nat} {ad : Nat → Nat} {g : Nat → Option Nat} {E : va_W} {n : Nat} {S : St} {x1 : Int32} {r : Int32} (hf : fX0_nearest n S x1 = some r) : CI l yX0_nearest wsX0_nearest ({ frames := 2, cells := 0, slots := 0, locals := 44 } : Room) D cc ak av [.ref (ad 7), .int x1] (WX cc ad g S ++ E) (WX cc ad g S ++ E) r := by
  refine mkI (c0 := cX0_nearest) (nL := 5) (own := RX0) rfl rfl (by decide) rfl rfl (Nat.le_of_ble_eq_true rfl) ?_
  intro p e s m args below meth c A Q ls F B hQ hl w
  have hx := F.1
  have hb := F.2.1
  have hown := F.2.2.2.1
  have hts := F.2.2.2.2
  have hl : lv_has ls 5 [(0, .ref (ad 7)), (1, .int x1)] := hl
  unfold fX0_nearest at hf
  refine lv_iconst (v := 0) hx hb dX0_nearest_0 (by decide) ?_
  refine lv_istore_n (lv' := [(2, .int 0), (0, .ref (ad 7)), (1, .int x1)]) hx hb dX0_nearest_1 rfl hl (by decide) rfl (fun ls hl => ?_)
  refine lv_ldc (v := 2147483647) hx hb hown (hts (.constant RX0 52 2147483647) (by decide +kernel)) dX0_nearest_2 ?_
  refine lv_istore_n (lv' := [(3, .int 2147483647), (2, .int 0), (0, .ref (ad 7)), (1, .int x1)]) hx hb dX0_nearest_4 rfl hl (by decide) rfl (fun ls hl => ?_)
  refine lv_iconst (v := 0) hx hb dX0_nearest_5 (by decide) ?_
  refine lv_istore (lv' := [(4, .int 0), (3, .int 2147483647), (2, .int 0), (0, .ref (ad 7)), (1, .int x1)]) hx hb dX0_nearest_6 hl (by decide) rfl (fun ls hl => ?_)
  refine wX0_nearest_L8 F B hQ (fun x6 x7 x8 H locs ls w hl hf => ?_) n _ _ _ _ _ _ w (lv_sub hl [3, 4, 2, 1, 0] rfl) hf
  refine lv_iload_n hx hb dX0_nearest_55 rfl (lv_at hl 2 rfl) ?_
  cases hf
  exact hQ _ _ _ _ dX0_nearest_56 w
