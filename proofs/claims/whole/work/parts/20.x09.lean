def fX6_leastInRing_L12 (n : Nat) (x1 : Int32) (S : St) (k : Int32 → Int32 → Int32 → Option Int32) : Nat → Int32 → Int32 → Int32 → Option Int32
  | 0, _, _, _ => none
  | fu + 1, x2, x3, x4 => if (S.1 19) ≤ x4 then (k x2 x3 x4) else (if x3 = x1 then (k x2 x3 x4) else (lt_ (if x3 < x2 then x3 else x2) fun v5 => if x3 < 0 ∨ 8 ≤ Int32.toNatClampNeg x3 then none else lt_ (S.2.1 29 (Int32.toNatClampNeg x3)) fun v7 => fX6_leastInRing_L12 n x1 S k fu v5 v7 (x4 + 1)))
def fX6_leastInRing (n : Nat) (S : St) (x1 : Int32) : Option Int32 := if x1 < 0 ∨ 8 ≤ Int32.toNatClampNeg x1 then none else lt_ (S.2.1 29 (Int32.toNatClampNeg x1)) fun v2 => fX6_leastInRing_L12 n x1 S (fun x8 x9 x10 => if x9 = x1 then (some x8) else (some (-1))) n x1 v2 0
set_option maxRecDepth 20000 in
theorem inX6_leastInRing_6 : ∀ w ∈ u_ws RX6 TX6 7, w ∈ wsX6_leastInRing := by decide +kernel
set_option maxHeartbeats 4000000 in
set_option maxRecDepth 100000 in
theorem wX6_leastInRing_L12 {p : Program} {l : Launch} {e : Env} {s : State} {m : MethodId} {args : Array Value} {below : List Frame} {meth : Method} {c : Code} {Q : State → Prop} {D : va_G} {cc : Nat → ClassId} {ak av : Nat → Nat} {A : Nat → Prop} {ad : Nat → Nat} {g : Nat → Option Nat} {E : va_W} {n : Nat} {x1 : Int32} {S : St} {r : Int32} {k : Int32 → Int32 → Int32 → Option Int32} (F : CallFix p m c cX6_leastInRing 5 s args wsX6_leastInRing RX6) (B : Bd D cc ak av A s) (hQ : RetI p l e ({ frames := 1, cells := 0, slots := 0, locals := 21 } : Room) s m args below meth c D A Q cX6_leastInRing (WX cc ad g S ++ E) r)
    (hk : ∀ (x2 : Int32) (x3 : Int32) (x4 : Int32) (H : Heap) (locs : List Loc) (ls : Array Slot), Wd D A s.heap H locs (WX cc ad g S ++ E) → lv_has ls 5 [(0, .ref (ad 8)), (1, .int x1), (2, .int x2), (3, .int x3), (4, .int x4)] → k x2 x3 x4 = some r → W p l e ({ frames := 1, cells := 0, slots := 0, locals := 21 } : Room) s m args below meth c H locs 0 0 Q (F0 m 45 ls [])) :
    ∀ (fu : Nat) (x2 : Int32) (x3 : Int32) (x4 : Int32) (H : Heap) (locs : List Loc) (ls : Array Slot), Wd D A s.heap H locs (WX cc ad g S ++ E) → lv_has ls 5 [(0, .ref (ad 8)), (1, .int x1), (2, .int x2), (3, .int x3), (4, .int x4)] → fX6_leastInRing_L12 n x1 S k fu x2 x3 x4 = some r → W p l e ({ frames := 1, cells := 0, slots := 0, locals := 21 } : Room) s m args below meth c H locs 0 0 Q (F0 m 12 ls []) := by
  have hx := F.1
  have hb := F.2.1
  have hown := F.2.2.2.1
  have hts := F.2.2.2.2
  intro fu
  induction fu with
  | zero => intro x2 x3 x4 H locs ls w hl hf; rw [fX6_leastInRing_L12] at hf; cases hf
  | succ fu ih =>
    intro x2 x3 x4 H locs ls w hl hf
    rw [fX6_leastInRing_L12] at hf
    refine lv_iload hx hb dX6_leastInRing_12 (lv_at hl 4 rfl) ?_
    refine lv_aload_n hx hb dX6_leastInRing_14 rfl (lv_at hl 0 rfl) ?_
    refine kget (v := .int (S.1 19)) F B w inX6_leastInRing_6 8 gX_8 rfl 5 (by decide) (hts (.fieldLink RX6 36 "LandReform$Rings" "size" "I") (by decide +kernel)) rfl rfl dX6_leastInRing_15 ?_
    refine lv_icmp_ge (tgt := 45) hx hb dX6_leastInRing_18 (by decide) (fun c3 => ?_) (fun c3 => ?_)
    · have hf := if_t hf c3
      exact hk _ _ _ _ _ _ w (lv_sub hl [0, 1, 2, 3, 4] rfl) hf
    · have hf := if_f hf c3
      refine lv_iload_n hx hb dX6_leastInRing_21 rfl (lv_at hl 3 rfl) ?_
      refine lv_iload_n hx hb dX6_leastInRing_22 rfl (lv_at hl 1 rfl) ?_
      refine lv_icmp_eq (tgt := 45) hx hb dX6_leastInRing_23 (by decide) (fun c4 => ?_) (fun c4 => ?_)
      · have hf := if_t hf c4
        exact hk _ _ _ _ _ _ w (lv_sub hl [0, 1, 2, 3, 4] rfl) hf
      · have hf := if_f hf c4
        refine lv_iload_n hx hb dX6_leastInRing_26 rfl (lv_at hl 2 rfl) ?_
        refine lv_iload_n hx hb dX6_leastInRing_27 rfl (lv_at hl 3 rfl) ?_
        refine va_mmin hx hb (by rw [hl.1]; exact F.2.2.1) hown (hts (.methodLink RX6 27 Lib.Math.min.name) (by decide +kernel)) (hts (.static Lib.Math.min.name) (by decide +kernel)) (hts (.initialized "java/lang/Math") (by decide +kernel)) (hts (.code Lib.Math.min.name Lib.Math.min.code 2 (some .int)) (by decide +kernel)) (Nat.le_of_ble_eq_true rfl) (Nat.le_of_ble_eq_true rfl) (Nat.le_of_ble_eq_true rfl) (Nat.le_of_ble_eq_true rfl) dX6_leastInRing_28 ?_
        refine lv_topi (fun v5 ev5 => ?_)
        have hf := lt_e hf ev5
        refine lv_istore_n (lv' := [(2, .int v5), (0, .ref (ad 8)), (1, .int x1), (3, .int x3), (4, .int x4)]) hx hb dX6_leastInRing_31 rfl hl (by decide) rfl (fun ls hl => ?_)
        refine lv_aload_n hx hb dX6_leastInRing_32 rfl (lv_at hl 1 rfl) ?_
        refine kget (v := .ref (ad 43)) F B w inX6_leastInRing_6 8 gX_8 rfl 4 (by decide) (hts (.fieldLink RX6 24 "LandReform$Rings" "pointedAt" "[I") (by decide +kernel)) rfl rfl dX6_leastInRing_33 ?_
        refine lv_iload_n hx hb dX6_leastInRing_36 rfl (lv_at hl 3 rfl) ?_
        obtain ⟨g6, hf⟩ := if_g hf
        refine kiald F B w 43 gX_43 g6 dX6_leastInRing_37 ?_
        refine lv_topi (fun v7 ev7 => ?_)
        have hf := lt_e hf ev7
        refine lv_istore_n (lv' := [(3, .int v7), (2, .int v5), (0, .ref (ad 8)), (1, .int x1), (4, .int x4)]) hx hb dX6_leastInRing_38 rfl hl (by decide) rfl (fun ls hl => ?_)
        refine lv_iinc (v := (x4 + 1)) (lv' := [(4, .int (x4 + 1)), (3, .int v7), (2, .int v5), (0, .ref (ad 8)), (1, .int x1)]) hx hb dX6_leastInRing_39 hl (k := 4) rfl rfl (by decide) rfl (fun ls hl => ?_)
        refine lv_goto (tgt := 12) hx hb dX6_leastInRing_42 (by decide) ?_
        exact ih _ _ _ _ _ _ w (lv_sub hl [3, 4, 2, 1, 0] rfl) hf
set_option maxHeartbeats 4000000 in
set_option maxRecDepth 100000 in
theorem tX6_leastInRing {l : Launch} {D : va_G} {cc : Nat → ClassId} {ak av : Nat → Nat} {ad : Nat → Nat} {g : Nat → Option Nat} {E : va_W} {n : Nat} {S : St} {x1 : Int32} {r : Int32} (hf : fX6_leastInRing n S x1 = some r) : CI l yX6_leastInRing wsX6_leastInRing ({ frames := 1, cells := 0, slots := 0, locals := 21 } : Room) D cc ak av [.ref (ad 8), .int x1] (WX cc ad g S ++ E) (WX cc ad g S ++ E) r := by
  refine mkI (c0 := cX6_leastInRing) (nL := 5) (own := RX6) rfl rfl (by decide) rfl rfl (Nat.le_of_ble_eq_true rfl) ?_
  intro p e s m args below meth c A Q ls F B hQ hl w
  have hx := F.1
  have hb := F.2.1
  have hown := F.2.2.2.1
  have hts := F.2.2.2.2
  have hl : lv_has ls 5 [(0, .ref (ad 8)), (1, .int x1)] := hl
  unfold fX6_leastInRing at hf
  refine lv_iload_n hx hb dX6_leastInRing_0 rfl (lv_at hl 1 rfl) ?_
  refine lv_istore_n (lv' := [(2, .int x1), (0, .ref (ad 8)), (1, .int x1)]) hx hb dX6_leastInRing_1 rfl hl (by decide) rfl (fun ls hl => ?_)
  refine lv_aload_n hx hb dX6_leastInRing_2 rfl (lv_at hl 1 rfl) ?_
  refine kget (v := .ref (ad 43)) F B w inX6_leastInRing_6 8 gX_8 rfl 4 (by decide) (hts (.fieldLink RX6 24 "LandReform$Rings" "pointedAt" "[I") (by decide +kernel)) rfl rfl dX6_leastInRing_3 ?_
  refine lv_iload_n hx hb dX6_leastInRing_6 rfl (lv_at hl 2 rfl) ?_
  obtain ⟨g1, hf⟩ := if_g hf
  refine kiald F B w 43 gX_43 g1 dX6_leastInRing_7 ?_
  refine lv_topi (fun v2 ev2 => ?_)
  have hf := lt_e hf ev2
  refine lv_istore_n (lv' := [(3, .int v2), (2, .int x1), (0, .ref (ad 8)), (1, .int x1)]) hx hb dX6_leastInRing_8 rfl hl (by decide) rfl (fun ls hl => ?_)
  refine lv_iconst (v := 0) hx hb dX6_leastInRing_9 (by decide) ?_
  refine lv_istore (lv' := [(4, .int 0), (3, .int v2), (2, .int x1), (0, .ref (ad 8)), (1, .int x1)]) hx hb dX6_leastInRing_10 hl (by decide) rfl (fun ls hl => ?_)
  refine wX6_leastInRing_L12 F B hQ (fun x8 x9 x10 H locs ls w hl hf => ?_) n _ _ _ _ _ _ w (lv_sub hl [3, 4, 2, 1, 0] rfl) hf
  refine lv_iload_n hx hb dX6_leastInRing_45 rfl (lv_at hl 3 rfl) ?_
  refine lv_iload_n hx hb dX6_leastInRing_46 rfl (lv_at hl 1 rfl) ?_
  refine lv_icmp_ne (tgt := 54) hx hb dX6_leastInRing_47 (by decide) (fun c11 => ?_) (fun c11 => ?_)
  · have hf := if_f hf c11
    refine lv_iconst (v := (-1)) hx hb dX6_leastInRing_54 (by decide) ?_
    cases hf
    exact hQ _ _ _ _ dX6_leastInRing_55 w
  · have hf := if_t hf c11
    refine lv_iload_n hx hb dX6_leastInRing_50 rfl (lv_at hl 2 rfl) ?_
    refine lv_goto (tgt := 55) hx hb dX6_leastInRing_51 (by decide) ?_
    cases hf
    exact hQ _ _ _ _ dX6_leastInRing_55 w

def fX6_leaveInRings_L2 (n : Nat) (k : Int32 → St → Option St) : Nat → Int32 → St → Option St
  | 0, _, _ => none
  | fu + 1, x1, S => if (S.1 19) ≤ x1 then (k x1 S) else (if x1 < 0 ∨ 8 ≤ Int32.toNatClampNeg x1 then none else if (S.2.1 28 (Int32.toNatClampNeg x1)) = (-1) then (ob (fX6_leastInRing n S x1) fun r5 => if r5 = (-1) then (fX6_leaveInRings_L2 n k fu (x1 + 1) S) else (if x1 < 0 ∨ 8 ≤ Int32.toNatClampNeg x1 then none else if (S.2.1 29 (Int32.toNatClampNeg x1)) < 0 ∨ 8 ≤ Int32.toNatClampNeg (S.2.1 29 (Int32.toNatClampNeg x1)) then none else if x1 < 0 ∨ 8 ≤ Int32.toNatClampNeg x1 then none else lt_ (sA S 28 (Int32.toNatClampNeg x1) (S.2.1 26 (Int32.toNatClampNeg (S.2.1 29 (Int32.toNatClampNeg x1))))) fun S10 => if r5 = x1 then (lt_ (sS S10 20 ((S10.1 20) + 1)) fun S12 => fX6_leaveInRings_L2 n k fu (x1 + 1) S12) else (fX6_leaveInRings_L2 n k fu (x1 + 1) S10))) else (fX6_leaveInRings_L2 n k fu (x1 + 1) S))
def fX6_leaveInRings (n : Nat) (S : St) : Option St := fX6_leaveInRings_L2 n (fun x13 S14 => some S14) n 0 S
set_option maxRecDepth 20000 in
theorem inX6_leaveInRings_6 : ∀ w ∈ u_ws RX6 TX6 7, w ∈ wsX6_leaveInRings := by decide +kernel
set_option maxHeartbeats 4000000 in
set_option maxRecDepth 100000 in
theorem wX6_leaveInRings_L2 {p : Program} {l : Launch} {e : Env} {s : State} {m : MethodId} {args : Array Value} {below : List Frame} {meth : Method} {c : Code} {Q : State → Prop} {D : va_G} {cc : Nat → ClassId} {ak av : Nat → Nat} {A : Nat → Prop} {ad : Nat → Nat} {g : Nat → Option Nat} {E : va_W} {n : Nat} {S' : St} {k : Int32 → St → Option St} (F : CallFix p m c cX6_leaveInRings 3 s args wsX6_leaveInRings RX6) (B : Bd D cc ak av A s) (hQ : RetV p l e ({ frames := 2, cells := 0, slots := 0, locals := 45 } : Room) s m args below meth c D A Q cX6_leaveInRings (WX cc ad g S' ++ E))
    (hk : ∀ (x1 : Int32) (S : St) (H : Heap) (locs : List Loc) (ls : Array Slot), Wd D A s.heap H locs (WX cc ad g S ++ E) → lv_has ls 3 [(0, .ref (ad 8)), (1, .int x1)] → k x1 S = some S' → W p l e ({ frames := 2, cells := 0, slots := 0, locals := 45 } : Room) s m args below meth c H locs 0 0 Q (F0 m 76 ls [])) :
    ∀ (fu : Nat) (x1 : Int32) (S : St) (H : Heap) (locs : List Loc) (ls : Array Slot), Wd D A s.heap H locs (WX cc ad g S ++ E) → lv_has ls 3 [(0, .ref (ad 8)), (1, .int x1)] → fX6_leaveInRings_L2 n k fu x1 S = some S' → W p l e ({ frames := 2, cells := 0, slots := 0, locals := 45 } : Room) s m args below meth c H locs 0 0 Q (F0 m 2 ls []) := by
  have hx := F.1
  have hb := F.2.1
  have hown := F.2.2.2.1
  have hts := F.2.2.2.2
  intro fu
  induction fu with
  | zero => intro x1 S H locs ls w hl hf; rw [fX6_leaveInRings_L2] at hf; cases hf
  | succ fu ih =>
    intro x1 S H locs ls w hl hf
    rw [fX6_leaveInRings_L2] at hf
    refine lv_iload_n hx hb dX6_leaveInRings_2 rfl (lv_at hl 1 rfl) ?_
    refine lv_aload_n hx hb dX6_leaveInRings_3 rfl (lv_at hl 0 rfl) ?_
    refine kget (v := .int (S.1 19)) F B w inX6_leaveInRings_6 8 gX_8 rfl 5 (by decide) (hts (.fieldLink RX6 36 "LandReform$Rings" "size" "I") (by decide +kernel)) rfl rfl dX6_leaveInRings_4 ?_
    refine lv_icmp_ge (tgt := 76) hx hb dX6_leaveInRings_7 (by decide) (fun c1 => ?_) (fun c1 => ?_)
    · have hf := if_t hf c1
      exact hk _ _ _ _ _ w (lv_sub hl [0, 1] rfl) hf
    · have hf := if_f hf c1
      refine lv_aload_n hx hb dX6_leaveInRings_10 rfl (lv_at hl 0 rfl) ?_
      refine kget (v := .ref (ad 42)) F B w inX6_leaveInRings_6 8 gX_8 rfl 3 (by decide) (hts (.fieldLink RX6 21 "LandReform$Rings" "fieldsGot" "[I") (by decide +kernel)) rfl rfl dX6_leaveInRings_11 ?_
      refine lv_iload_n hx hb dX6_leaveInRings_14 rfl (lv_at hl 1 rfl) ?_
      obtain ⟨g2, hf⟩ := if_g hf
      refine kiald F B w 42 gX_42 g2 dX6_leaveInRings_15 ?_
      refine lv_iconst (v := (-1)) hx hb dX6_leaveInRings_16 (by decide) ?_
      refine lv_icmp_ne (tgt := 28) hx hb dX6_leaveInRings_17 (by decide) (fun c3 => ?_) (fun c3 => ?_)
      · have hf := if_f hf c3
        refine lv_iconst (v := (-1)) hx hb dX6_leaveInRings_28 (by decide) ?_
        refine lv_istore_n (lv' := [(2, .int (-1)), (0, .ref (ad 8)), (1, .int x1)]) hx hb dX6_leaveInRings_29 rfl hl (by decide) rfl (fun ls hl => ?_)
        refine lv_iload_n hx hb dX6_leaveInRings_30 rfl (lv_at hl 0 rfl) ?_
        refine lv_iconst (v := (-1)) hx hb dX6_leaveInRings_31 (by decide) ?_
        refine lv_icmp_ne (tgt := 38) hx hb dX6_leaveInRings_32 (by decide) (fun c => absurd (by decide) c) (fun _ => ?_)
        refine lv_goto (tgt := 70) hx hb dX6_leaveInRings_35 (by decide) ?_
        refine lv_iinc (v := (x1 + 1)) (lv' := [(1, .int (x1 + 1)), (2, .int (-1)), (0, .ref (ad 8))]) hx hb dX6_leaveInRings_70 hl (k := 2) rfl rfl (by decide) rfl (fun ls hl => ?_)
        refine lv_goto (tgt := 2) hx hb dX6_leaveInRings_73 (by decide) ?_
        exact ih _ _ _ _ _ w (lv_sub hl [2, 0] rfl) hf
      · have hf := if_t hf c3
        refine lv_aload_n hx hb dX6_leaveInRings_20 rfl (lv_at hl 0 rfl) ?_
        refine lv_iload_n hx hb dX6_leaveInRings_21 rfl (lv_at hl 1 rfl) ?_
        obtain ⟨r5, er5, hf⟩ := ob_e hf
        refine kVi (As := [.int x1]) (rest := []) F B w (tX6_leastInRing er5) (cwV 1 hts gX6_leaveInRings_X6_leastInRing rfl rfl rfl (by decide +kernel) ⟨Nat.le_of_ble_eq_true rfl, Nat.le_of_ble_eq_true rfl⟩) 8 gX_8 rfl rfl hl.1 rfl (Nat.le_of_ble_eq_true rfl) dX6_leaveInRings_22 ⟨Nat.le_of_ble_eq_true rfl, Nat.le_of_ble_eq_true rfl⟩ (fun H locs w => ?_)
        refine lv_goto (tgt := 29) hx hb dX6_leaveInRings_25 (by decide) ?_
        refine lv_istore_n (lv' := [(2, .int r5), (0, .ref (ad 8)), (1, .int x1)]) hx hb dX6_leaveInRings_29 rfl hl (by decide) rfl (fun ls hl => ?_)
        refine lv_iload_n hx hb dX6_leaveInRings_30 rfl (lv_at hl 0 rfl) ?_
        refine lv_iconst (v := (-1)) hx hb dX6_leaveInRings_31 (by decide) ?_
        refine lv_icmp_ne (tgt := 38) hx hb dX6_leaveInRings_32 (by decide) (fun c6 => ?_) (fun c6 => ?_)
        · have hf := if_f hf c6
          refine lv_aload_n hx hb dX6_leaveInRings_38 rfl (lv_at hl 1 rfl) ?_
          refine kget (v := .ref (ad 42)) F B w inX6_leaveInRings_6 8 gX_8 rfl 3 (by decide) (hts (.fieldLink RX6 21 "LandReform$Rings" "fieldsGot" "[I") (by decide +kernel)) rfl rfl dX6_leaveInRings_39 ?_
          refine lv_iload_n hx hb dX6_leaveInRings_42 rfl (lv_at hl 2 rfl) ?_
          refine lv_aload_n hx hb dX6_leaveInRings_43 rfl (lv_at hl 1 rfl) ?_
          refine kget (v := .ref (ad 40)) F B w inX6_leaveInRings_6 8 gX_8 rfl 1 (by decide) (hts (.fieldLink RX6 15 "LandReform$Rings" "fieldsHad" "[I") (by decide +kernel)) rfl rfl dX6_leaveInRings_44 ?_
          refine lv_aload_n hx hb dX6_leaveInRings_47 rfl (lv_at hl 1 rfl) ?_
          refine kget (v := .ref (ad 43)) F B w inX6_leaveInRings_6 8 gX_8 rfl 4 (by decide) (hts (.fieldLink RX6 24 "LandReform$Rings" "pointedAt" "[I") (by decide +kernel)) rfl rfl dX6_leaveInRings_48 ?_
          refine lv_iload_n hx hb dX6_leaveInRings_51 rfl (lv_at hl 2 rfl) ?_
          obtain ⟨g7, hf⟩ := if_g hf
          refine kiald F B w 43 gX_43 g7 dX6_leaveInRings_52 ?_
          obtain ⟨g8, hf⟩ := if_g hf
          refine kiald F B w 40 gX_40 g8 dX6_leaveInRings_53 ?_
          obtain ⟨g9, hf⟩ := if_g hf
          refine kiast F B w 42 gX_42 g9 bX_42 dX6_leaveInRings_54 (fun H locs w => ?_)
          obtain ⟨S10, eS10⟩ : ∃ z, z = sA S 28 (Int32.toNatClampNeg x1) (S.2.1 26 (Int32.toNatClampNeg (S.2.1 29 (Int32.toNatClampNeg x1)))) := ⟨_, rfl⟩
          rw [← eS10] at w
          have hf := lt_e hf eS10
          refine lv_iload_n hx hb dX6_leaveInRings_55 rfl (lv_at hl 0 rfl) ?_
          refine lv_iload_n hx hb dX6_leaveInRings_56 rfl (lv_at hl 2 rfl) ?_
          refine lv_icmp_ne (tgt := 70) hx hb dX6_leaveInRings_57 (by decide) (fun c11 => ?_) (fun c11 => ?_)
          · have hf := if_f hf c11
            refine lv_iinc (v := (x1 + 1)) (lv' := [(1, .int (x1 + 1)), (2, .int r5), (0, .ref (ad 8))]) hx hb dX6_leaveInRings_70 hl (k := 2) rfl rfl (by decide) rfl (fun ls hl => ?_)
            refine lv_goto (tgt := 2) hx hb dX6_leaveInRings_73 (by decide) ?_
            exact ih _ _ _ _ _ w (lv_sub hl [2, 0] rfl) hf
          · have hf := if_t hf c11
            refine lv_aload_n hx hb dX6_leaveInRings_60 rfl (lv_at hl 1 rfl) ?_
            refine lv_dup hx hb dX6_leaveInRings_61 rfl ?_
            refine kget (v := .int (S10.1 20)) F B w inX6_leaveInRings_6 8 gX_8 rfl 6 (by decide) (hts (.fieldLink RX6 40 "LandReform$Rings" "closed" "I") (by decide +kernel)) rfl rfl dX6_leaveInRings_62 ?_
            refine lv_iconst (v := 1) hx hb dX6_leaveInRings_65 (by decide) ?_
            refine lv_iadd hx hb dX6_leaveInRings_66 ?_
            refine kput (ty := .int) F B w inX6_leaveInRings_6 tyX6 tyX6_ok nmX6 8 gX_8 rfl 6 (by decide) (hts (.fieldLink RX6 40 "LandReform$Rings" "closed" "I") (by decide +kernel)) rfl rfl (by decide +kernel) rfl rfl (Nat.le_of_ble_eq_true rfl) pX_20 dX6_leaveInRings_67 (fun H locs w => ?_)
            obtain ⟨S12, eS12⟩ : ∃ z, z = sS S10 20 ((S10.1 20) + 1) := ⟨_, rfl⟩
            rw [← eS12] at w
            have hf := lt_e hf eS12
            refine lv_iinc (v := (x1 + 1)) (lv' := [(1, .int (x1 + 1)), (2, .int r5), (0, .ref (ad 8))]) hx hb dX6_leaveInRings_70 hl (k := 2) rfl rfl (by decide) rfl (fun ls hl => ?_)
            refine lv_goto (tgt := 2) hx hb dX6_leaveInRings_73 (by decide) ?_
            exact ih _ _ _ _ _ w (lv_sub hl [2, 0] rfl) hf
        · have hf := if_t hf c6
          refine lv_goto (tgt := 70) hx hb dX6_leaveInRings_35 (by decide) ?_
          refine lv_iinc (v := (x1 + 1)) (lv' := [(1, .int (x1 + 1)), (2, .int r5), (0, .ref (ad 8))]) hx hb dX6_leaveInRings_70 hl (k := 2) rfl rfl (by decide) rfl (fun ls hl => ?_)
          refine lv_goto (tgt := 2) hx hb dX6_leaveInRings_73 (by decide) ?_
          exact ih _ _ _ _ _ w (lv_sub hl [2, 0] rfl) hf
set_option maxHeartbeats 4000000 in
set_option maxRecDepth 100000 in
theorem tX6_leaveInRings {l : Launch} {D : va_G} {cc : Nat → ClassId} {ak av : Nat → Nat} {ad : Nat → Nat} {g : Nat → Option Nat} {E : va_W} {n : Nat} {S : St} {S' : St} (hf : fX6_leaveInRings n S = some S') : CV l yX6_leaveInRings wsX6_leaveInRings ({ frames := 2, cells := 0, slots := 0, locals := 45 } : Room) D cc ak av [.ref (ad 8)] (WX cc ad g S ++ E) (WX cc ad g S' ++ E) := by
  refine mkV (c0 := cX6_leaveInRings) (nL := 3) (own := RX6) rfl rfl (by decide) rfl rfl (Nat.le_of_ble_eq_true rfl) ?_
  intro p e s m args below meth c A Q ls F B hQ hl w
  have hx := F.1
  have hb := F.2.1
  have hown := F.2.2.2.1
  have hts := F.2.2.2.2
  have hl : lv_has ls 3 [(0, .ref (ad 8))] := hl
  unfold fX6_leaveInRings at hf
  refine lv_iconst (v := 0) hx hb dX6_leaveInRings_0 (by decide) ?_
  refine lv_istore_n (lv' := [(1, .int 0), (0, .ref (ad 8))]) hx hb dX6_leaveInRings_1 rfl hl (by decide) rfl (fun ls hl => ?_)
  refine wX6_leaveInRings_L2 F B hQ (fun x13 S14 H locs ls w hl hf => ?_) n _ _ _ _ _ w (lv_sub hl [1, 0] rfl) hf
  cases hf
  exact hQ _ _ _ _ dX6_leaveInRings_76 w

def fX6_close_L22 (n : Nat) (x1 : Int32) (k : Int32 → St → Option (Int32 × St)) : Nat → Int32 → St → Option (Int32 × St)
  | 0, _, _ => none
  | fu + 1, x5, S => if (S.1 19) ≤ x5 then (k x5 S) else (ob (fX4_homeOf S (x1 + x5)) fun r4 => if x5 < 0 ∨ 8 ≤ Int32.toNatClampNeg x5 then none else lt_ (sA S 25 (Int32.toNatClampNeg x5) r4) fun S6 => ob (fX2_firstFieldOf n S6 (x1 + x5)) fun r7 => if x5 < 0 ∨ 8 ≤ Int32.toNatClampNeg x5 then none else lt_ (sA S6 26 (Int32.toNatClampNeg x5) r7) fun S9 => if x5 < 0 ∨ 8 ≤ Int32.toNatClampNeg x5 then none else if (S9.2.1 26 (Int32.toNatClampNeg x5)) = (-1) then (some (0, S9)) else (if x5 < 0 ∨ 8 ≤ Int32.toNatClampNeg x5 then none else ob (fX2_placeOf S9 (S9.2.1 26 (Int32.toNatClampNeg x5))) fun r13 => if x5 < 0 ∨ 8 ≤ Int32.toNatClampNeg x5 then none else lt_ (sA S9 27 (Int32.toNatClampNeg x5) r13) fun S15 => if x5 < 0 ∨ 8 ≤ Int32.toNatClampNeg x5 then none else lt_ (sA S15 28 (Int32.toNatClampNeg x5) (-1)) fun S17 => if x5 < 0 ∨ 8 ≤ Int32.toNatClampNeg x5 then none else lt_ (sA S17 29 (Int32.toNatClampNeg x5) x5) fun S19 => fX6_close_L22 n x1 k fu (x5 + 1) S19))
def fX6_close_L119 (n : Nat) (k : Int32 → St → Option (Int32 × St)) : Nat → Int32 → St → Option (Int32 × St)
  | 0, _, _ => none
  | fu + 1, x5, S => if (S.1 19) ≤ x5 then (k x5 S) else (ob (fX6_point n S) fun S24 => ob (fX6_leaveInRings n S24) fun S26 => fX6_close_L119 n k fu (x5 + 1) S26)
def fX6_close (n : Nat) (S : St) (x1 : Int32) (x2 : Int32) : Option (Int32 × St) := lt_ (sS S 19 (if (0 : Int32) < (if (8 : Int32) < x2 then 8 else x2) then (if (8 : Int32) < x2 then 8 else x2) else 0)) fun S1 => lt_ (sS S1 20 0) fun S2 => fX6_close_L22 n x1 (fun x20 S21 => fX6_close_L119 n (fun x27 S28 => some (1, S28)) n 0 S21) n 0 S2
set_option maxRecDepth 20000 in
theorem inX6_close_6 : ∀ w ∈ u_ws RX6 TX6 7, w ∈ wsX6_close := by decide +kernel
set_option maxHeartbeats 4000000 in
set_option maxRecDepth 100000 in
theorem wX6_close_L22 {p : Program} {l : Launch} {e : Env} {s : State} {m : MethodId} {args : Array Value} {below : List Frame} {meth : Method} {c : Code} {Q : State → Prop} {D : va_G} {cc : Nat → ClassId} {ak av : Nat → Nat} {A : Nat → Prop} {ad : Nat → Nat} {g : Nat → Option Nat} {E : va_W} {n : Nat} {x1 : Int32} {r : Int32} {S' : St} {k : Int32 → St → Option (Int32 × St)} (F : CallFix p m c cX6_close 6 s args wsX6_close RX6) (B : Bd D cc ak av A s) (hQ : RetZ p l e ({ frames := 3, cells := 0, slots := 0, locals := 67 } : Room) s m args below meth c D A Q cX6_close (WX cc ad g S' ++ E) r)
    (hk : ∀ (x5 : Int32) (S : St) (H : Heap) (locs : List Loc) (ls : Array Slot), Wd D A s.heap H locs (WX cc ad g S ++ E) → lv_has ls 6 [(0, .ref (ad 8)), (1, .int x1), (3, .ref (ad 2)), (4, .ref (ad 1)), (5, .int x5)] → k x5 S = some (r, S') → W p l e ({ frames := 3, cells := 0, slots := 0, locals := 67 } : Room) s m args below meth c H locs 0 0 Q (F0 m 116 ls [])) :
    ∀ (fu : Nat) (x5 : Int32) (S : St) (H : Heap) (locs : List Loc) (ls : Array Slot), Wd D A s.heap H locs (WX cc ad g S ++ E) → lv_has ls 6 [(0, .ref (ad 8)), (1, .int x1), (3, .ref (ad 2)), (4, .ref (ad 1)), (5, .int x5)] → fX6_close_L22 n x1 k fu x5 S = some (r, S') → W p l e ({ frames := 3, cells := 0, slots := 0, locals := 67 } : Room) s m args below meth c H locs 0 0 Q (F0 m 22 ls []) := by
  have hx := F.1
  have hb := F.2.1
  have hown := F.2.2.2.1
  have hts := F.2.2.2.2
  intro fu
  induction fu with
  | zero => intro x5 S H locs ls w hl hf; rw [fX6_close_L22] at hf; cases hf
  | succ fu ih =>
    intro x5 S H locs ls w hl hf
    rw [fX6_close_L22] at hf
    refine lv_iload hx hb dX6_close_22 (lv_at hl 4 rfl) ?_
    refine lv_aload_n hx hb dX6_close_24 rfl (lv_at hl 0 rfl) ?_
    refine kget (v := .int (S.1 19)) F B w inX6_close_6 8 gX_8 rfl 5 (by decide) (hts (.fieldLink RX6 36 "LandReform$Rings" "size" "I") (by decide +kernel)) rfl rfl dX6_close_25 ?_
    refine lv_icmp_ge (tgt := 116) hx hb dX6_close_28 (by decide) (fun c3 => ?_) (fun c3 => ?_)
    · have hf := if_t hf c3
      exact hk _ _ _ _ _ w (lv_sub hl [0, 1, 2, 3, 4] rfl) hf
    · have hf := if_f hf c3
      refine lv_aload_n hx hb dX6_close_31 rfl (lv_at hl 0 rfl) ?_
      refine kget (v := .ref (ad 39)) F B w inX6_close_6 8 gX_8 rfl 0 (by decide) (hts (.fieldLink RX6 9 "LandReform$Rings" "homes" "[I") (by decide +kernel)) rfl rfl dX6_close_32 ?_
      refine lv_iload hx hb dX6_close_35 (lv_at hl 4 rfl) ?_
      refine lv_aload hx hb dX6_close_37 (lv_at hl 3 rfl) ?_
      refine lv_iload_n hx hb dX6_close_39 rfl (lv_at hl 1 rfl) ?_
      refine lv_iload hx hb dX6_close_40 (lv_at hl 4 rfl) ?_
      refine lv_iadd hx hb dX6_close_42 ?_
      obtain ⟨r4, er4, hf⟩ := ob_e hf
      refine kVi (As := [.int (x1 + x5)]) (rest := [.int x5, .ref (ad 39)]) F B w (tX4_homeOf er4) (cwV 1 hts gX6_close_X4_homeOf rfl rfl rfl (by decide +kernel) ⟨Nat.le_of_ble_eq_true rfl, Nat.le_of_ble_eq_true rfl⟩) 1 gX_1 rfl rfl hl.1 rfl (Nat.le_of_ble_eq_true rfl) dX6_close_43 ⟨Nat.le_of_ble_eq_true rfl, Nat.le_of_ble_eq_true rfl⟩ (fun H locs w => ?_)
      obtain ⟨g5, hf⟩ := if_g hf
      refine kiast F B w 39 gX_39 g5 bX_39 dX6_close_46 (fun H locs w => ?_)
      obtain ⟨S6, eS6⟩ : ∃ z, z = sA S 25 (Int32.toNatClampNeg x5) r4 := ⟨_, rfl⟩
      rw [← eS6] at w
      have hf := lt_e hf eS6
      refine lv_aload_n hx hb dX6_close_47 rfl (lv_at hl 0 rfl) ?_
      refine kget (v := .ref (ad 40)) F B w inX6_close_6 8 gX_8 rfl 1 (by decide) (hts (.fieldLink RX6 15 "LandReform$Rings" "fieldsHad" "[I") (by decide +kernel)) rfl rfl dX6_close_48 ?_
      refine lv_iload hx hb dX6_close_51 (lv_at hl 4 rfl) ?_
      refine lv_aload_n hx hb dX6_close_53 rfl (lv_at hl 2 rfl) ?_
      refine lv_iload_n hx hb dX6_close_54 rfl (lv_at hl 1 rfl) ?_
      refine lv_iload hx hb dX6_close_55 (lv_at hl 4 rfl) ?_
      refine lv_iadd hx hb dX6_close_57 ?_
      obtain ⟨r7, er7, hf⟩ := ob_e hf
      refine kVi (As := [.int (x1 + x5)]) (rest := [.int x5, .ref (ad 40)]) F B w (tX2_firstFieldOf er7) (cwV 1 hts gX6_close_X2_firstFieldOf rfl rfl rfl (by decide +kernel) ⟨Nat.le_of_ble_eq_true rfl, Nat.le_of_ble_eq_true rfl⟩) 2 gX_2 rfl rfl hl.1 rfl (Nat.le_of_ble_eq_true rfl) dX6_close_58 ⟨Nat.le_of_ble_eq_true rfl, Nat.le_of_ble_eq_true rfl⟩ (fun H locs w => ?_)
      obtain ⟨g8, hf⟩ := if_g hf
      refine kiast F B w 40 gX_40 g8 bX_40 dX6_close_61 (fun H locs w => ?_)
      obtain ⟨S9, eS9⟩ : ∃ z, z = sA S6 26 (Int32.toNatClampNeg x5) r7 := ⟨_, rfl⟩
      rw [← eS9] at w
      have hf := lt_e hf eS9
      refine lv_aload_n hx hb dX6_close_62 rfl (lv_at hl 0 rfl) ?_
      refine kget (v := .ref (ad 40)) F B w inX6_close_6 8 gX_8 rfl 1 (by decide) (hts (.fieldLink RX6 15 "LandReform$Rings" "fieldsHad" "[I") (by decide +kernel)) rfl rfl dX6_close_63 ?_
      refine lv_iload hx hb dX6_close_66 (lv_at hl 4 rfl) ?_
      obtain ⟨g10, hf⟩ := if_g hf
      refine kiald F B w 40 gX_40 g10 dX6_close_68 ?_
      refine lv_iconst (v := (-1)) hx hb dX6_close_69 (by decide) ?_
      refine lv_icmp_ne (tgt := 75) hx hb dX6_close_70 (by decide) (fun c11 => ?_) (fun c11 => ?_)
      · have hf := if_f hf c11
        refine lv_aload_n hx hb dX6_close_75 rfl (lv_at hl 0 rfl) ?_
        refine kget (v := .ref (ad 41)) F B w inX6_close_6 8 gX_8 rfl 2 (by decide) (hts (.fieldLink RX6 18 "LandReform$Rings" "placesHad" "[I") (by decide +kernel)) rfl rfl dX6_close_76 ?_
        refine lv_iload hx hb dX6_close_79 (lv_at hl 4 rfl) ?_
        refine lv_aload_n hx hb dX6_close_81 rfl (lv_at hl 2 rfl) ?_
        refine lv_aload_n hx hb dX6_close_82 rfl (lv_at hl 0 rfl) ?_
        refine kget (v := .ref (ad 40)) F B w inX6_close_6 8 gX_8 rfl 1 (by decide) (hts (.fieldLink RX6 15 "LandReform$Rings" "fieldsHad" "[I") (by decide +kernel)) rfl rfl dX6_close_83 ?_
        refine lv_iload hx hb dX6_close_86 (lv_at hl 4 rfl) ?_
        obtain ⟨g12, hf⟩ := if_g hf
        refine kiald F B w 40 gX_40 g12 dX6_close_88 ?_
        obtain ⟨r13, er13, hf⟩ := ob_e hf
        refine kVi (As := [.int (S9.2.1 26 (Int32.toNatClampNeg x5))]) (rest := [.int x5, .ref (ad 41)]) F B w (tX2_placeOf er13) (cwV 1 hts gX6_close_X2_placeOf rfl rfl rfl (by decide +kernel) ⟨Nat.le_of_ble_eq_true rfl, Nat.le_of_ble_eq_true rfl⟩) 2 gX_2 rfl rfl hl.1 rfl (Nat.le_of_ble_eq_true rfl) dX6_close_89 ⟨Nat.le_of_ble_eq_true rfl, Nat.le_of_ble_eq_true rfl⟩ (fun H locs w => ?_)
        obtain ⟨g14, hf⟩ := if_g hf
        refine kiast F B w 41 gX_41 g14 bX_41 dX6_close_92 (fun H locs w => ?_)
        obtain ⟨S15, eS15⟩ : ∃ z, z = sA S9 27 (Int32.toNatClampNeg x5) r13 := ⟨_, rfl⟩
        rw [← eS15] at w
        have hf := lt_e hf eS15
        refine lv_aload_n hx hb dX6_close_93 rfl (lv_at hl 0 rfl) ?_
        refine kget (v := .ref (ad 42)) F B w inX6_close_6 8 gX_8 rfl 3 (by decide) (hts (.fieldLink RX6 21 "LandReform$Rings" "fieldsGot" "[I") (by decide +kernel)) rfl rfl dX6_close_94 ?_
        refine lv_iload hx hb dX6_close_97 (lv_at hl 4 rfl) ?_
        refine lv_iconst (v := (-1)) hx hb dX6_close_99 (by decide) ?_
        obtain ⟨g16, hf⟩ := if_g hf
        refine kiast F B w 42 gX_42 g16 bX_42 dX6_close_100 (fun H locs w => ?_)
        obtain ⟨S17, eS17⟩ : ∃ z, z = sA S15 28 (Int32.toNatClampNeg x5) (-1) := ⟨_, rfl⟩
        rw [← eS17] at w
        have hf := lt_e hf eS17
        refine lv_aload_n hx hb dX6_close_101 rfl (lv_at hl 0 rfl) ?_
        refine kget (v := .ref (ad 43)) F B w inX6_close_6 8 gX_8 rfl 4 (by decide) (hts (.fieldLink RX6 24 "LandReform$Rings" "pointedAt" "[I") (by decide +kernel)) rfl rfl dX6_close_102 ?_
        refine lv_iload hx hb dX6_close_105 (lv_at hl 4 rfl) ?_
        refine lv_iload hx hb dX6_close_107 (lv_at hl 4 rfl) ?_
        obtain ⟨g18, hf⟩ := if_g hf
        refine kiast F B w 43 gX_43 g18 bX_43 dX6_close_109 (fun H locs w => ?_)
        obtain ⟨S19, eS19⟩ : ∃ z, z = sA S17 29 (Int32.toNatClampNeg x5) x5 := ⟨_, rfl⟩
        rw [← eS19] at w
        have hf := lt_e hf eS19
        refine lv_iinc (v := (x5 + 1)) (lv' := [(5, .int (x5 + 1)), (0, .ref (ad 8)), (1, .int x1), (3, .ref (ad 2)), (4, .ref (ad 1))]) hx hb dX6_close_110 hl (k := 4) rfl rfl (by decide) rfl (fun ls hl => ?_)
        refine lv_goto (tgt := 22) hx hb dX6_close_113 (by decide) ?_
        exact ih _ _ _ _ _ w (lv_sub hl [1, 2, 3, 4, 0] rfl) hf
      · have hf := if_t hf c11
        refine lv_iconst (v := 0) hx hb dX6_close_73 (by decide) ?_
        cases hf
        exact hQ _ _ _ _ dX6_close_74 (by decide) w
set_option maxHeartbeats 4000000 in
set_option maxRecDepth 100000 in
theorem wX6_close_L119 {p : Program} {l : Launch} {e : Env} {s : State} {m : MethodId} {args : Array Value} {below : List Frame} {meth : Method} {c : Code} {Q : State → Prop} {D : va_G} {cc : Nat → ClassId} {ak av : Nat → Nat} {A : Nat → Prop} {ad : Nat → Nat} {g : Nat → Option Nat} {E : va_W} {n : Nat} {r : Int32} {S' : St} {k : Int32 → St → Option (Int32 × St)} (F : CallFix p m c cX6_close 6 s args wsX6_close RX6) (B : Bd D cc ak av A s) (hQ : RetZ p l e ({ frames := 3, cells := 0, slots := 0, locals := 67 } : Room) s m args below meth c D A Q cX6_close (WX cc ad g S' ++ E) r)
    (hk : ∀ (x5 : Int32) (S : St) (H : Heap) (locs : List Loc) (ls : Array Slot), Wd D A s.heap H locs (WX cc ad g S ++ E) → lv_has ls 6 [(0, .ref (ad 8)), (5, .int x5)] → k x5 S = some (r, S') → W p l e ({ frames := 3, cells := 0, slots := 0, locals := 67 } : Room) s m args below meth c H locs 0 0 Q (F0 m 142 ls [])) :
    ∀ (fu : Nat) (x5 : Int32) (S : St) (H : Heap) (locs : List Loc) (ls : Array Slot), Wd D A s.heap H locs (WX cc ad g S ++ E) → lv_has ls 6 [(0, .ref (ad 8)), (5, .int x5)] → fX6_close_L119 n k fu x5 S = some (r, S') → W p l e ({ frames := 3, cells := 0, slots := 0, locals := 67 } : Room) s m args below meth c H locs 0 0 Q (F0 m 119 ls []) := by
  have hx := F.1
  have hb := F.2.1
  have hown := F.2.2.2.1
  have hts := F.2.2.2.2
  intro fu
  induction fu with
  | zero => intro x5 S H locs ls w hl hf; rw [fX6_close_L119] at hf; cases hf
  | succ fu ih =>
    intro x5 S H locs ls w hl hf
    rw [fX6_close_L119] at hf
    refine lv_iload hx hb dX6_close_119 (lv_at hl 1 rfl) ?_
    refine lv_aload_n hx hb dX6_close_121 rfl (lv_at hl 0 rfl) ?_
    refine kget (v := .int (S.1 19)) F B w inX6_close_6 8 gX_8 rfl 5 (by decide) (hts (.fieldLink RX6 36 "LandReform$Rings" "size" "I") (by decide +kernel)) rfl rfl dX6_close_122 ?_
    refine lv_icmp_ge (tgt := 142) hx hb dX6_close_125 (by decide) (fun c22 => ?_) (fun c22 => ?_)
    · have hf := if_t hf c22
      exact hk _ _ _ _ _ w (lv_sub hl [0, 1] rfl) hf
    · have hf := if_f hf c22
      refine lv_aload_n hx hb dX6_close_128 rfl (lv_at hl 0 rfl) ?_
      obtain ⟨S24, er23, hf⟩ := ob_e hf
      refine kVv (As := []) (rest := []) F B w (tX6_point er23) (cwV 0 hts gX6_close_X6_point rfl rfl rfl (by decide +kernel) ⟨Nat.le_of_ble_eq_true rfl, Nat.le_of_ble_eq_true rfl⟩) 8 gX_8 rfl rfl hl.1 rfl (Nat.le_of_ble_eq_true rfl) dX6_close_129 ⟨Nat.le_of_ble_eq_true rfl, Nat.le_of_ble_eq_true rfl⟩ (fun H locs w => ?_)
      refine lv_aload_n hx hb dX6_close_132 rfl (lv_at hl 0 rfl) ?_
      obtain ⟨S26, er25, hf⟩ := ob_e hf
      refine kVv (As := []) (rest := []) F B w (tX6_leaveInRings er25) (cwV 0 hts gX6_close_X6_leaveInRings rfl rfl rfl (by decide +kernel) ⟨Nat.le_of_ble_eq_true rfl, Nat.le_of_ble_eq_true rfl⟩) 8 gX_8 rfl rfl hl.1 rfl (Nat.le_of_ble_eq_true rfl) dX6_close_133 ⟨Nat.le_of_ble_eq_true rfl, Nat.le_of_ble_eq_true rfl⟩ (fun H locs w => ?_)
      refine lv_iinc (v := (x5 + 1)) (lv' := [(5, .int (x5 + 1)), (0, .ref (ad 8))]) hx hb dX6_close_136 hl (k := 1) rfl rfl (by decide) rfl (fun ls hl => ?_)
      refine lv_goto (tgt := 119) hx hb dX6_close_139 (by decide) ?_
      exact ih _ _ _ _ _ w (lv_sub hl [1, 0] rfl) hf
set_option maxHeartbeats 4000000 in
set_option maxRecDepth 100000 in
theorem tX6_close {l : Launch} {D : va_G} {cc : Nat → ClassId} {ak av : Nat → Nat} {ad : Nat → Nat} {g : Nat → Option Nat} {E : va_W} {n : Nat} {S : St} {x1 : Int32} {x2 : Int32} {r : Int32} {S' : St} (hf : fX6_close n S x1 x2 = some (r, S')) : CI l yX6_close wsX6_close ({ frames := 3, cells := 0, slots := 0, locals := 67 } : Room) D cc ak av [.ref (ad 8), .int x1, .int x2, .ref (ad 2), .ref (ad 1)] (WX cc ad g S ++ E) (WX cc ad g S' ++ E) r := by
  refine mkZ (c0 := cX6_close) (nL := 6) (own := RX6) rfl rfl (by decide) rfl rfl (Nat.le_of_ble_eq_true rfl) ?_
  intro p e s m args below meth c A Q ls F B hQ hl w
  have hx := F.1
  have hb := F.2.1
  have hown := F.2.2.2.1
  have hts := F.2.2.2.2
  have hl : lv_has ls 6 [(0, .ref (ad 8)), (1, .int x1), (2, .int x2), (3, .ref (ad 2)), (4, .ref (ad 1))] := hl
  unfold fX6_close at hf
  refine lv_aload_n hx hb dX6_close_0 rfl (lv_at hl 0 rfl) ?_
  refine lv_iconst (v := 0) hx hb dX6_close_1 (by decide) ?_
  refine lv_iload_n hx hb dX6_close_2 rfl (lv_at hl 2 rfl) ?_
  refine lv_bipush (v := 8) hx hb dX6_close_3 (by decide) ?_
  refine va_mmin hx hb (by rw [hl.1]; exact F.2.2.1) hown (hts (.methodLink RX6 27 Lib.Math.min.name) (by decide +kernel)) (hts (.static Lib.Math.min.name) (by decide +kernel)) (hts (.initialized "java/lang/Math") (by decide +kernel)) (hts (.code Lib.Math.min.name Lib.Math.min.code 2 (some .int)) (by decide +kernel)) (Nat.le_of_ble_eq_true rfl) (Nat.le_of_ble_eq_true rfl) (Nat.le_of_ble_eq_true rfl) (Nat.le_of_ble_eq_true rfl) dX6_close_5 ?_
  refine va_mmax hx hb (by rw [hl.1]; exact F.2.2.1) hown (hts (.methodLink RX6 33 Lib.Math.max.name) (by decide +kernel)) (hts (.static Lib.Math.max.name) (by decide +kernel)) (hts (.initialized "java/lang/Math") (by decide +kernel)) (hts (.code Lib.Math.max.name Lib.Math.max.code 2 (some .int)) (by decide +kernel)) (Nat.le_of_ble_eq_true rfl) (Nat.le_of_ble_eq_true rfl) (Nat.le_of_ble_eq_true rfl) (Nat.le_of_ble_eq_true rfl) dX6_close_8 ?_
  refine kput (ty := .int) F B w inX6_close_6 tyX6 tyX6_ok nmX6 8 gX_8 rfl 5 (by decide) (hts (.fieldLink RX6 36 "LandReform$Rings" "size" "I") (by decide +kernel)) rfl rfl (by decide +kernel) rfl rfl (Nat.le_of_ble_eq_true rfl) pX_19 dX6_close_11 (fun H locs w => ?_)
  obtain ⟨S1, eS1⟩ : ∃ z, z = sS S 19 (if (0 : Int32) < (if (8 : Int32) < x2 then 8 else x2) then (if (8 : Int32) < x2 then 8 else x2) else 0) := ⟨_, rfl⟩
  rw [← eS1] at w
  have hf := lt_e hf eS1
  refine lv_aload_n hx hb dX6_close_14 rfl (lv_at hl 0 rfl) ?_
  refine lv_iconst (v := 0) hx hb dX6_close_15 (by decide) ?_
  refine kput (ty := .int) F B w inX6_close_6 tyX6 tyX6_ok nmX6 8 gX_8 rfl 6 (by decide) (hts (.fieldLink RX6 40 "LandReform$Rings" "closed" "I") (by decide +kernel)) rfl rfl (by decide +kernel) rfl rfl (Nat.le_of_ble_eq_true rfl) pX_20 dX6_close_16 (fun H locs w => ?_)
  obtain ⟨S2, eS2⟩ : ∃ z, z = sS S1 20 0 := ⟨_, rfl⟩
  rw [← eS2] at w
  have hf := lt_e hf eS2
  refine lv_iconst (v := 0) hx hb dX6_close_19 (by decide) ?_
  refine lv_istore (lv' := [(5, .int 0), (0, .ref (ad 8)), (1, .int x1), (2, .int x2), (3, .ref (ad 2)), (4, .ref (ad 1))]) hx hb dX6_close_20 hl (by decide) rfl (fun ls hl => ?_)
  refine wX6_close_L22 F B hQ (fun x20 S21 H locs ls w hl hf => ?_) n _ _ _ _ _ w (lv_sub hl [1, 2, 4, 5, 0] rfl) hf
  refine lv_iconst (v := 0) hx hb dX6_close_116 (by decide) ?_
  refine lv_istore (lv' := [(5, .int 0), (0, .ref (ad 8)), (1, .int x1), (3, .ref (ad 2)), (4, .ref (ad 1))]) hx hb dX6_close_117 hl (by decide) rfl (fun ls hl => ?_)
  refine wX6_close_L119 F B hQ (fun x27 S28 H locs ls w hl hf => ?_) n _ _ _ _ _ w (lv_sub hl [1, 0] rfl) hf
  refine lv_iconst (v := 1) hx hb dX6_close_142 (by decide) ?_
  cases hf
  exact hQ _ _ _ _ dX6_close_143 (by decide) w

def fX6_fieldFor (S : St) (x1 : Int32) : Option Int32 := ob (fX10_isBelow x1 (S.1 19)) fun r1 => if r1 = 0 then (some (-1)) else (if x1 < 0 ∨ 8 ≤ Int32.toNatClampNeg x1 then none else some (S.2.1 28 (Int32.toNatClampNeg x1)))
set_option maxRecDepth 20000 in
theorem inX6_fieldFor_6 : ∀ w ∈ u_ws RX6 TX6 7, w ∈ wsX6_fieldFor := by decide +kernel
set_option maxHeartbeats 4000000 in
set_option maxRecDepth 100000 in
theorem tX6_fieldFor {l : Launch} {D : va_G} {cc : Nat → ClassId} {ak av : Nat → Nat} {ad : Nat → Nat} {g : Nat → Option Nat} {E : va_W} {S : St} {x1 : Int32} {r : Int32} (hf : fX6_fieldFor S x1 = some r) : CI l yX6_fieldFor wsX6_fieldFor ({ frames := 1, cells := 0, slots := 0, locals := 21 } : Room) D cc ak av [.ref (ad 8), .int x1] (WX cc ad g S ++ E) (WX cc ad g S ++ E) r := by
  refine mkI (c0 := cX6_fieldFor) (nL := 2) (own := RX6) rfl rfl (by decide) rfl rfl (Nat.le_of_ble_eq_true rfl) ?_
  intro p e s m args below meth c A Q ls F B hQ hl w
  have hx := F.1
  have hb := F.2.1
  have hown := F.2.2.2.1
  have hts := F.2.2.2.2
  have hl : lv_has ls 2 [(0, .ref (ad 8)), (1, .int x1)] := hl
  unfold fX6_fieldFor at hf
  refine lv_iload_n hx hb dX6_fieldFor_0 rfl (lv_at hl 1 rfl) ?_
  refine lv_aload_n hx hb dX6_fieldFor_1 rfl (lv_at hl 0 rfl) ?_
  refine kget (v := .int (S.1 19)) F B w inX6_fieldFor_6 8 gX_8 rfl 5 (by decide) (hts (.fieldLink RX6 36 "LandReform$Rings" "size" "I") (by decide +kernel)) rfl rfl dX6_fieldFor_2 ?_
  obtain ⟨r1, er1, hf⟩ := ob_e hf
  refine kSNi (As := [.int x1, .int (S.1 19)]) (rest := []) F B w (tX10_isBelow er1) ⟨va_cnB 2 hts gX6_fieldFor_X10_isBelow_n72 rfl rfl rfl (B.2.1.m 14 rfl) (hts (.initialized RX10) (by decide +kernel)) (by decide +kernel) ⟨Nat.le_of_ble_eq_true rfl, Nat.le_of_ble_eq_true rfl⟩, hts (.static yX10_isBelow) (by decide +kernel), trivial⟩ rfl hl.1 rfl (Nat.le_of_ble_eq_true rfl) dX6_fieldFor_5 ⟨Nat.le_of_ble_eq_true rfl, Nat.le_of_ble_eq_true rfl⟩ (fun H locs w => ?_)
  refine lv_if_eq (tgt := 20) hx hb dX6_fieldFor_8 (by decide) (fun c2 => ?_) (fun c2 => ?_)
  · have hf := if_t hf c2
    refine lv_iconst (v := (-1)) hx hb dX6_fieldFor_20 (by decide) ?_
    cases hf
    exact hQ _ _ _ _ dX6_fieldFor_21 w
  · have hf := if_f hf c2
    refine lv_aload_n hx hb dX6_fieldFor_11 rfl (lv_at hl 0 rfl) ?_
    refine kget (v := .ref (ad 42)) F B w inX6_fieldFor_6 8 gX_8 rfl 3 (by decide) (hts (.fieldLink RX6 21 "LandReform$Rings" "fieldsGot" "[I") (by decide +kernel)) rfl rfl dX6_fieldFor_12 ?_
    refine lv_iload_n hx hb dX6_fieldFor_15 rfl (lv_at hl 1 rfl) ?_
    obtain ⟨g3, hf⟩ := if_g hf
    refine kiald F B w 42 gX_42 g3 dX6_fieldFor_16 ?_
    refine lv_goto (tgt := 21) hx hb dX6_fieldFor_17 (by decide) ?_
    cases hf
    exact hQ _ _ _ _ dX6_fieldFor_21 w

def fX6_changes_L4 (n : Nat) (S : St) (k : Int32 → Int32 → Option Int32) : Nat → Int32 → Int32 → Option Int32
  | 0, _, _ => none
  | fu + 1, x1, x2 => if (S.1 19) ≤ x2 then (k x1 x2) else (if x2 < 0 ∨ 8 ≤ Int32.toNatClampNeg x2 then none else if x2 < 0 ∨ 8 ≤ Int32.toNatClampNeg x2 then none else if (S.2.1 28 (Int32.toNatClampNeg x2)) = (S.2.1 26 (Int32.toNatClampNeg x2)) then (fX6_changes_L4 n S k fu x1 (x2 + 1)) else (fX6_changes_L4 n S k fu (x1 + 1) (x2 + 1)))
def fX6_changes (n : Nat) (S : St) : Option Int32 := fX6_changes_L4 n S (fun x5 x6 => some x5) n 0 0
set_option maxRecDepth 20000 in
theorem inX6_changes_6 : ∀ w ∈ u_ws RX6 TX6 7, w ∈ wsX6_changes := by decide +kernel
set_option maxHeartbeats 4000000 in
set_option maxRecDepth 100000 in
theorem wX6_changes_L4 {p : Program} {l : Launch} {e : Env} {s : State} {m : MethodId} {args : Array Value} {below : List Frame} {meth : Method} {c : Code} {Q : State → Prop} {D : va_G} {cc : Nat → ClassId} {ak av : Nat → Nat} {A : Nat → Prop} {ad : Nat → Nat} {g : Nat → Option Nat} {E : va_W} {n : Nat} {S : St} {r : Int32} {k : Int32 → Int32 → Option Int32} (F : CallFix p m c cX6_changes 3 s args wsX6_changes RX6) (B : Bd D cc ak av A s) (hQ : RetI p l e ({ frames := 0, cells := 0, slots := 0, locals := 0 } : Room) s m args below meth c D A Q cX6_changes (WX cc ad g S ++ E) r)
    (hk : ∀ (x1 : Int32) (x2 : Int32) (H : Heap) (locs : List Loc) (ls : Array Slot), Wd D A s.heap H locs (WX cc ad g S ++ E) → lv_has ls 3 [(0, .ref (ad 8)), (1, .int x1), (2, .int x2)] → k x1 x2 = some r → W p l e ({ frames := 0, cells := 0, slots := 0, locals := 0 } : Room) s m args below meth c H locs 0 0 Q (F0 m 36 ls [])) :
    ∀ (fu : Nat) (x1 : Int32) (x2 : Int32) (H : Heap) (locs : List Loc) (ls : Array Slot), Wd D A s.heap H locs (WX cc ad g S ++ E) → lv_has ls 3 [(0, .ref (ad 8)), (1, .int x1), (2, .int x2)] → fX6_changes_L4 n S k fu x1 x2 = some r → W p l e ({ frames := 0, cells := 0, slots := 0, locals := 0 } : Room) s m args below meth c H locs 0 0 Q (F0 m 4 ls []) := by
  have hx := F.1
  have hb := F.2.1
  have hown := F.2.2.2.1
  have hts := F.2.2.2.2
  intro fu
  induction fu with
  | zero => intro x1 x2 H locs ls w hl hf; rw [fX6_changes_L4] at hf; cases hf
  | succ fu ih =>
    intro x1 x2 H locs ls w hl hf
    rw [fX6_changes_L4] at hf
    refine lv_iload_n hx hb dX6_changes_4 rfl (lv_at hl 2 rfl) ?_
    refine lv_aload_n hx hb dX6_changes_5 rfl (lv_at hl 0 rfl) ?_
    refine kget (v := .int (S.1 19)) F B w inX6_changes_6 8 gX_8 rfl 5 (by decide) (hts (.fieldLink RX6 36 "LandReform$Rings" "size" "I") (by decide +kernel)) rfl rfl dX6_changes_6 ?_
    refine lv_icmp_ge (tgt := 36) hx hb dX6_changes_9 (by decide) (fun c1 => ?_) (fun c1 => ?_)
    · have hf := if_t hf c1
      exact hk _ _ _ _ _ w (lv_sub hl [0, 1, 2] rfl) hf
    · have hf := if_f hf c1
      refine lv_aload_n hx hb dX6_changes_12 rfl (lv_at hl 0 rfl) ?_
      refine kget (v := .ref (ad 42)) F B w inX6_changes_6 8 gX_8 rfl 3 (by decide) (hts (.fieldLink RX6 21 "LandReform$Rings" "fieldsGot" "[I") (by decide +kernel)) rfl rfl dX6_changes_13 ?_
      refine lv_iload_n hx hb dX6_changes_16 rfl (lv_at hl 2 rfl) ?_
      obtain ⟨g2, hf⟩ := if_g hf
      refine kiald F B w 42 gX_42 g2 dX6_changes_17 ?_
      refine lv_aload_n hx hb dX6_changes_18 rfl (lv_at hl 0 rfl) ?_
      refine kget (v := .ref (ad 40)) F B w inX6_changes_6 8 gX_8 rfl 1 (by decide) (hts (.fieldLink RX6 15 "LandReform$Rings" "fieldsHad" "[I") (by decide +kernel)) rfl rfl dX6_changes_19 ?_
      refine lv_iload_n hx hb dX6_changes_22 rfl (lv_at hl 2 rfl) ?_
      obtain ⟨g3, hf⟩ := if_g hf
      refine kiald F B w 40 gX_40 g3 dX6_changes_23 ?_
      refine lv_icmp_eq (tgt := 30) hx hb dX6_changes_24 (by decide) (fun c4 => ?_) (fun c4 => ?_)
      · have hf := if_t hf c4
        refine lv_iinc (v := (x2 + 1)) (lv' := [(2, .int (x2 + 1)), (0, .ref (ad 8)), (1, .int x1)]) hx hb dX6_changes_30 hl (k := 2) rfl rfl (by decide) rfl (fun ls hl => ?_)
        refine lv_goto (tgt := 4) hx hb dX6_changes_33 (by decide) ?_
        exact ih _ _ _ _ _ w (lv_sub hl [1, 2, 0] rfl) hf
      · have hf := if_f hf c4
        refine lv_iinc (v := (x1 + 1)) (lv' := [(1, .int (x1 + 1)), (0, .ref (ad 8)), (2, .int x2)]) hx hb dX6_changes_27 hl (k := 1) rfl rfl (by decide) rfl (fun ls hl => ?_)
        refine lv_iinc (v := (x2 + 1)) (lv' := [(2, .int (x2 + 1)), (1, .int (x1 + 1)), (0, .ref (ad 8))]) hx hb dX6_changes_30 hl (k := 2) rfl rfl (by decide) rfl (fun ls hl => ?_)
        refine lv_goto (tgt := 4) hx hb dX6_changes_33 (by decide) ?_
        exact ih _ _ _ _ _ w (lv_sub hl [2, 1, 0] rfl) hf
set_option maxHeartbeats 4000000 in
set_option maxRecDepth 100000 in
theorem tX6_changes {l : Launch} {D : va_G} {cc : Nat → ClassId} {ak av : Nat → Nat} {ad : Nat → Nat} {g : Nat → Option Nat} {E : va_W} {n : Nat} {S : St} {r : Int32} (hf : fX6_changes n S = some r) : CI l yX6_changes wsX6_changes ({ frames := 0, cells := 0, slots := 0, locals := 0 } : Room) D cc ak av [.ref (ad 8)] (WX cc ad g S ++ E) (WX cc ad g S ++ E) r := by
  refine mkI (c0 := cX6_changes) (nL := 3) (own := RX6) rfl rfl (by decide) rfl rfl (Nat.le_of_ble_eq_true rfl) ?_
  intro p e s m args below meth c A Q ls F B hQ hl w
  have hx := F.1
  have hb := F.2.1
  have hown := F.2.2.2.1
  have hts := F.2.2.2.2
  have hl : lv_has ls 3 [(0, .ref (ad 8))] := hl
  unfold fX6_changes at hf
  refine lv_iconst (v := 0) hx hb dX6_changes_0 (by decide) ?_
  refine lv_istore_n (lv' := [(1, .int 0), (0, .ref (ad 8))]) hx hb dX6_changes_1 rfl hl (by decide) rfl (fun ls hl => ?_)
  refine lv_iconst (v := 0) hx hb dX6_changes_2 (by decide) ?_
  refine lv_istore_n (lv' := [(2, .int 0), (1, .int 0), (0, .ref (ad 8))]) hx hb dX6_changes_3 rfl hl (by decide) rfl (fun ls hl => ?_)
  refine wX6_changes_L4 F B hQ (fun x5 x6 H locs ls w hl hf => ?_) n _ _ _ _ _ w (lv_sub hl [2, 1, 0] rfl) hf
  refine lv_iload_n hx hb dX6_changes_36 rfl (lv_at hl 1 rfl) ?_
  cases hf
  exact hQ _ _ _ _ dX6_changes_37 w

def fX6_winnerOf_L2 (n : Nat) (x1 : Int32) (S : St) (k : Int32 → Option Int32) : Nat → Int32 → Option Int32
  | 0, _ => none
  | fu + 1, x2 => if (S.1 19) ≤ x2 then (k x2) else (if x2 < 0 ∨ 8 ≤ Int32.toNatClampNeg x2 then none else if (S.2.1 28 (Int32.toNatClampNeg x2)) = x1 then (if x2 < 0 ∨ 8 ≤ Int32.toNatClampNeg x2 then none else if (S.2.1 26 (Int32.toNatClampNeg x2)) = x1 then (fX6_winnerOf_L2 n x1 S k fu (x2 + 1)) else (some x2)) else (fX6_winnerOf_L2 n x1 S k fu (x2 + 1)))
def fX6_winnerOf (n : Nat) (S : St) (x1 : Int32) : Option Int32 := fX6_winnerOf_L2 n x1 S (fun x6 => some (-1)) n 0
set_option maxRecDepth 20000 in
theorem inX6_winnerOf_6 : ∀ w ∈ u_ws RX6 TX6 7, w ∈ wsX6_winnerOf := by decide +kernel
set_option maxHeartbeats 4000000 in
set_option maxRecDepth 100000 in
theorem wX6_winnerOf_L2 {p : Program} {l : Launch} {e : Env} {s : State} {m : MethodId} {args : Array Value} {below : List Frame} {meth : Method} {c : Code} {Q : State → Prop} {D : va_G} {cc : Nat → ClassId} {ak av : Nat → Nat} {A : Nat → Prop} {ad : Nat → Nat} {g : Nat → Option Nat} {E : va_W} {n : Nat} {x1 : Int32} {S : St} {r : Int32} {k : Int32 → Option Int32} (F : CallFix p m c cX6_winnerOf 3 s args wsX6_winnerOf RX6) (B : Bd D cc ak av A s) (hQ : RetI p l e ({ frames := 0, cells := 0, slots := 0, locals := 0 } : Room) s m args below meth c D A Q cX6_winnerOf (WX cc ad g S ++ E) r)
    (hk : ∀ (x2 : Int32) (H : Heap) (locs : List Loc) (ls : Array Slot), Wd D A s.heap H locs (WX cc ad g S ++ E) → lv_has ls 3 [(0, .ref (ad 8)), (1, .int x1), (2, .int x2)] → k x2 = some r → W p l e ({ frames := 0, cells := 0, slots := 0, locals := 0 } : Room) s m args below meth c H locs 0 0 Q (F0 m 38 ls [])) :
    ∀ (fu : Nat) (x2 : Int32) (H : Heap) (locs : List Loc) (ls : Array Slot), Wd D A s.heap H locs (WX cc ad g S ++ E) → lv_has ls 3 [(0, .ref (ad 8)), (1, .int x1), (2, .int x2)] → fX6_winnerOf_L2 n x1 S k fu x2 = some r → W p l e ({ frames := 0, cells := 0, slots := 0, locals := 0 } : Room) s m args below meth c H locs 0 0 Q (F0 m 2 ls []) := by
  have hx := F.1
  have hb := F.2.1
  have hown := F.2.2.2.1
  have hts := F.2.2.2.2
  intro fu
  induction fu with
  | zero => intro x2 H locs ls w hl hf; rw [fX6_winnerOf_L2] at hf; cases hf
  | succ fu ih =>
    intro x2 H locs ls w hl hf
    rw [fX6_winnerOf_L2] at hf
    refine lv_iload_n hx hb dX6_winnerOf_2 rfl (lv_at hl 2 rfl) ?_
    refine lv_aload_n hx hb dX6_winnerOf_3 rfl (lv_at hl 0 rfl) ?_
    refine kget (v := .int (S.1 19)) F B w inX6_winnerOf_6 8 gX_8 rfl 5 (by decide) (hts (.fieldLink RX6 36 "LandReform$Rings" "size" "I") (by decide +kernel)) rfl rfl dX6_winnerOf_4 ?_
    refine lv_icmp_ge (tgt := 38) hx hb dX6_winnerOf_7 (by decide) (fun c1 => ?_) (fun c1 => ?_)
    · have hf := if_t hf c1
      exact hk _ _ _ _ w (lv_sub hl [0, 1, 2] rfl) hf
    · have hf := if_f hf c1
      refine lv_aload_n hx hb dX6_winnerOf_10 rfl (lv_at hl 0 rfl) ?_
      refine kget (v := .ref (ad 42)) F B w inX6_winnerOf_6 8 gX_8 rfl 3 (by decide) (hts (.fieldLink RX6 21 "LandReform$Rings" "fieldsGot" "[I") (by decide +kernel)) rfl rfl dX6_winnerOf_11 ?_
      refine lv_iload_n hx hb dX6_winnerOf_14 rfl (lv_at hl 2 rfl) ?_
      obtain ⟨g2, hf⟩ := if_g hf
      refine kiald F B w 42 gX_42 g2 dX6_winnerOf_15 ?_
      refine lv_iload_n hx hb dX6_winnerOf_16 rfl (lv_at hl 1 rfl) ?_
      refine lv_icmp_ne (tgt := 32) hx hb dX6_winnerOf_17 (by decide) (fun c3 => ?_) (fun c3 => ?_)
      · have hf := if_f hf c3
        refine lv_iinc (v := (x2 + 1)) (lv' := [(2, .int (x2 + 1)), (0, .ref (ad 8)), (1, .int x1)]) hx hb dX6_winnerOf_32 hl (k := 2) rfl rfl (by decide) rfl (fun ls hl => ?_)
        refine lv_goto (tgt := 2) hx hb dX6_winnerOf_35 (by decide) ?_
        exact ih _ _ _ _ w (lv_sub hl [1, 2, 0] rfl) hf
      · have hf := if_t hf c3
        refine lv_aload_n hx hb dX6_winnerOf_20 rfl (lv_at hl 0 rfl) ?_
        refine kget (v := .ref (ad 40)) F B w inX6_winnerOf_6 8 gX_8 rfl 1 (by decide) (hts (.fieldLink RX6 15 "LandReform$Rings" "fieldsHad" "[I") (by decide +kernel)) rfl rfl dX6_winnerOf_21 ?_
        refine lv_iload_n hx hb dX6_winnerOf_24 rfl (lv_at hl 2 rfl) ?_
        obtain ⟨g4, hf⟩ := if_g hf
        refine kiald F B w 40 gX_40 g4 dX6_winnerOf_25 ?_
        refine lv_iload_n hx hb dX6_winnerOf_26 rfl (lv_at hl 1 rfl) ?_
        refine lv_icmp_eq (tgt := 32) hx hb dX6_winnerOf_27 (by decide) (fun c5 => ?_) (fun c5 => ?_)
        · have hf := if_t hf c5
          refine lv_iinc (v := (x2 + 1)) (lv' := [(2, .int (x2 + 1)), (0, .ref (ad 8)), (1, .int x1)]) hx hb dX6_winnerOf_32 hl (k := 2) rfl rfl (by decide) rfl (fun ls hl => ?_)
          refine lv_goto (tgt := 2) hx hb dX6_winnerOf_35 (by decide) ?_
          exact ih _ _ _ _ w (lv_sub hl [1, 2, 0] rfl) hf
        · have hf := if_f hf c5
          refine lv_iload_n hx hb dX6_winnerOf_30 rfl (lv_at hl 2 rfl) ?_
          cases hf
          exact hQ _ _ _ _ dX6_winnerOf_31 w
set_option maxHeartbeats 4000000 in
set_option maxRecDepth 100000 in
theorem tX6_winnerOf {l : Launch} {D : va_G} {cc : Nat → ClassId} {ak av : Nat → Nat} {ad : Nat → Nat} {g : Nat → Option Nat} {E : va_W} {n : Nat} {S : St} {x1 : Int32} {r : Int32} (hf : fX6_winnerOf n S x1 = some r) : CI l yX6_winnerOf wsX6_winnerOf ({ frames := 0, cells := 0, slots := 0, locals := 0 } : Room) D cc ak av [.ref (ad 8), .int x1] (WX cc ad g S ++ E) (WX cc ad g S ++ E) r := by
  refine mkI (c0 := cX6_winnerOf) (nL := 3) (own := RX6) rfl rfl (by decide) rfl rfl (Nat.le_of_ble_eq_true rfl) ?_
  intro p e s m args below meth c A Q ls F B hQ hl w
  have hx := F.1
  have hb := F.2.1
  have hown := F.2.2.2.1
  have hts := F.2.2.2.2
  have hl : lv_has ls 3 [(0, .ref (ad 8)), (1, .int x1)] := hl
  unfold fX6_winnerOf at hf
  refine lv_iconst (v := 0) hx hb dX6_winnerOf_0 (by decide) ?_
  refine lv_istore_n (lv' := [(2, .int 0), (0, .ref (ad 8)), (1, .int x1)]) hx hb dX6_winnerOf_1 rfl hl (by decide) rfl (fun ls hl => ?_)
  refine wX6_winnerOf_L2 F B hQ (fun x6 H locs ls w hl hf => ?_) n _ _ _ _ w (lv_sub hl [1, 2, 0] rfl) hf
  refine lv_iconst (v := (-1)) hx hb dX6_winnerOf_38 (by decide) ?_
  cases hf
  exact hQ _ _ _ _ dX6_winnerOf_39 w
