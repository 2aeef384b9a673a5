def fX0_weigh_L28 (n : Nat) (x1 : Int32) (x2 : Int32) (x6 : Int32) (k : Int32 → St → Option St) : Nat → Int32 → St → Option St
  | 0, _, _ => none
  | fu + 1, x7, S => if (S.1 18) ≤ x7 then (k x7 S) else (if x6 < 0 ∨ 5 ≤ Int32.toNatClampNeg x6 then none else ob (fX4_homeOf S (x2 + x7)) fun r5 => ob (fX2_distance S (x1 + x6) r5) fun r6 => if x7 < 0 ∨ 5 ≤ Int32.toNatClampNeg x7 then none else lt_ (sA S (20 + Int32.toNatClampNeg x6) (Int32.toNatClampNeg x7) r6) fun S8 => fX0_weigh_L28 n x1 x2 x6 k fu (x7 + 1) S8)
def fX0_weigh_L16 (n : Nat) (x1 : Int32) (x2 : Int32) (k : Int32 → St → Option St) : Nat → Int32 → St → Option St
  | 0, _, _ => none
  | fu + 1, x6, S => if (S.1 18) ≤ x6 then (k x6 S) else (fX0_weigh_L28 n x1 x2 x6 (fun x9 S10 => fX0_weigh_L16 n x1 x2 k fu (x6 + 1) S10) n 0 S)
def fX0_weigh_L87 (n : Nat) (k : Int32 → St → Option St) : Nat → Int32 → St → Option St
  | 0, _, _ => none
  | fu + 1, x6, S => if ((1 : Int32) <<< ((S.1 18) &&& 31)) ≤ x6 then (k x6 S) else (ob (fX0_nearest n S x6) fun r15 => ob (fX0_sumWith S x6 r15) fun r16 => if x6 < 0 ∨ 32 ≤ Int32.toNatClampNeg x6 then none else lt_ (sA S 19 (Int32.toNatClampNeg x6) r16) fun S18 => fX0_weigh_L87 n k fu (x6 + 1) S18)
def fX0_weigh (n : Nat) (S : St) (x1 : Int32) (x2 : Int32) (x3 : Int32) : Option St := lt_ (sS S 18 (if (0 : Int32) < (if (5 : Int32) < x3 then 5 else x3) then (if (5 : Int32) < x3 then 5 else x3) else 0)) fun S1 => fX0_weigh_L16 n x1 x2 (fun x11 S12 => lt_ (sA S12 19 (Int32.toNatClampNeg 0) 0) fun S13 => fX0_weigh_L87 n (fun x19 S20 => some S20) n 1 S13) n 0 S1
set_option maxRecDepth 20000 in
theorem inX0_weigh_0 : ∀ w ∈ u_ws RX0 TX0 3, w ∈ wsX0_weigh := by decide +kernel
set_option maxHeartbeats 4000000 in
set_option maxRecDepth 100000 in
theorem wX0_weigh_L28 {p : Program} {l : Launch} {e : Env} {s : State} {m : MethodId} {args : Array Value} {below : List Frame} {meth : Method} {c : Code} {Q : State → Prop} {D : va_G} {cc : Nat → ClassId} {ak av : Nat → Nat} {A : Nat → Prop} {ad : Nat → Nat} {g : Nat → Option Nat} {E : va_W} {n : Nat} {x1 : Int32} {x2 : Int32} {x6 : Int32} {S' : St} {k : Int32 → St → Option St} (F : CallFix p m c cX0_weigh 8 s args wsX0_weigh RX0) (B : Bd D cc ak av A s) (hQ : RetV p l e ({ frames := 4, cells := 0, slots := 0, locals := 85 } : Room) s m args below meth c D A Q cX0_weigh (WX cc ad g S' ++ E))
    (hk : ∀ (x7 : Int32) (S : St) (H : Heap) (locs : List Loc) (ls : Array Slot), Wd D A s.heap H locs (WX cc ad g S ++ E) → lv_has ls 8 [(0, .ref (ad 7)), (1, .int x1), (2, .int x2), (4, .ref (ad 2)), (5, .ref (ad 1)), (6, .int x6), (7, .int x7)] → k x7 S = some S' → W p l e ({ frames := 4, cells := 0, slots := 0, locals := 85 } : Room) s m args below meth c H locs 0 0 Q (F0 m 71 ls [])) :
    ∀ (fu : Nat) (x7 : Int32) (S : St) (H : Heap) (locs : List Loc) (ls : Array Slot), Wd D A s.heap H locs (WX cc ad g S ++ E) → lv_has ls 8 [(0, .ref (ad 7)), (1, .int x1), (2, .int x2), (4, .ref (ad 2)), (5, .ref (ad 1)), (6, .int x6), (7, .int x7)] → fX0_weigh_L28 n x1 x2 x6 k fu x7 S = some S' → W p l e ({ frames := 4, cells := 0, slots := 0, locals := 85 } : Room) s m args below meth c H locs 0 0 Q (F0 m 28 ls []) := by
  have hx := F.1
  have hb := F.2.1
  have hown := F.2.2.2.1
  have hts := F.2.2.2.2
  intro fu
  induction fu with
  | zero => intro x7 S H locs ls w hl hf; rw [fX0_weigh_L28] at hf; cases hf
  | succ fu ih =>
    intro x7 S H locs ls w hl hf
    rw [fX0_weigh_L28] at hf
    refine lv_iload hx hb dX0_weigh_28 (lv_at hl 6 rfl) ?_
    refine lv_aload_n hx hb dX0_weigh_30 rfl (lv_at hl 0 rfl) ?_
    refine kget (v := .int (S.1 18)) F B w inX0_weigh_0 7 gX_7 rfl 2 (by decide) (hts (.fieldLink RX0 29 "LandReform$Giving" "size" "I") (by decide +kernel)) rfl rfl dX0_weigh_31 ?_
    refine lv_icmp_ge (tgt := 71) hx hb dX0_weigh_34 (by decide) (fun c3 => ?_) (fun c3 => ?_)
    · have hf := if_t hf c3
      exact hk _ _ _ _ _ w (lv_sub hl [0, 1, 2, 3, 4, 5, 6] rfl) hf
    · have hf := if_f hf c3
      refine lv_aload_n hx hb dX0_weigh_37 rfl (lv_at hl 0 rfl) ?_
      refine kget (v := .ref (ad 33)) F B w inX0_weigh_0 7 gX_7 rfl 1 (by decide) (hts (.fieldLink RX0 17 "LandReform$Giving" "distances" "[[I") (by decide +kernel)) rfl rfl dX0_weigh_38 ?_
      refine lv_iload hx hb dX0_weigh_41 (lv_at hl 5 rfl) ?_
      obtain ⟨g4, hf⟩ := if_g hf
      refine kgald (v := ad (34 + Int32.toNatClampNeg x6)) F B w 33 gX_33 g4 (grid_v g4) dX0_weigh_43 ?_
      refine lv_iload hx hb dX0_weigh_44 (lv_at hl 6 rfl) ?_
      refine lv_aload hx hb dX0_weigh_46 (lv_at hl 3 rfl) ?_
      refine lv_iload_n hx hb dX0_weigh_48 rfl (lv_at hl 1 rfl) ?_
      refine lv_iload hx hb dX0_weigh_49 (lv_at hl 5 rfl) ?_
      refine lv_iadd hx hb dX0_weigh_51 ?_
      refine lv_aload hx hb dX0_weigh_52 (lv_at hl 4 rfl) ?_
      refine lv_iload_n hx hb dX0_weigh_54 rfl (lv_at hl 2 rfl) ?_
      refine lv_iload hx hb dX0_weigh_55 (lv_at hl 6 rfl) ?_
      refine lv_iadd hx hb dX0_weigh_57 ?_
      obtain ⟨r5, er5, hf⟩ := ob_e hf
      refine kVi (As := [.int (x2 + x7)]) (rest := [.int (x1 + x6), .ref (ad 2), .int x7, .ref (ad (34 + Int32.toNatClampNeg x6))]) F B w (tX4_homeOf er5) (cwV 1 hts gX0_weigh_X4_homeOf rfl rfl rfl (by decide +kernel) ⟨Nat.le_of_ble_eq_true rfl, Nat.le_of_ble_eq_true rfl⟩) 1 gX_1 rfl rfl hl.1 rfl (Nat.le_of_ble_eq_true rfl) dX0_weigh_58 ⟨Nat.le_of_ble_eq_true rfl, Nat.le_of_ble_eq_true rfl⟩ (fun H locs w => ?_)
      obtain ⟨r6, er6, hf⟩ := ob_e hf
      refine kVi (As := [.int (x1 + x6), .int r5]) (rest := [.int x7, .ref (ad (34 + Int32.toNatClampNeg x6))]) F B w (tX2_distance er6) (cwV 2 hts gX0_weigh_X2_distance rfl rfl rfl (by decide +kernel) ⟨Nat.le_of_ble_eq_true rfl, Nat.le_of_ble_eq_true rfl⟩) 2 gX_2 rfl rfl hl.1 rfl (Nat.le_of_ble_eq_true rfl) dX0_weigh_61 ⟨Nat.le_of_ble_eq_true rfl, Nat.le_of_ble_eq_true rfl⟩ (fun H locs w => ?_)
      obtain ⟨g7, hf⟩ := if_g hf
      refine kiast F B w (34 + Int32.toNatClampNeg x6) (gXr g4) g7 (bXr g4) dX0_weigh_64 (fun H locs w => ?_)
      obtain ⟨S8, eS8⟩ : ∃ z, z = sA S (20 + Int32.toNatClampNeg x6) (Int32.toNatClampNeg x7) r6 := ⟨_, rfl⟩
      rw [← eS8] at w
      have hf := lt_e hf eS8
      refine lv_iinc (v := (x7 + 1)) (lv' := [(7, .int (x7 + 1)), (0, .ref (ad 7)), (1, .int x1), (2, .int x2), (4, .ref (ad 2)), (5, .ref (ad 1)), (6, .int x6)]) hx hb dX0_weigh_65 hl (k := 6) rfl rfl (by decide) rfl (fun ls hl => ?_)
      refine lv_goto (tgt := 28) hx hb dX0_weigh_68 (by decide) ?_
      exact ih _ _ _ _ _ w (lv_sub hl [1, 2, 3, 4, 5, 6, 0] rfl) hf
set_option maxHeartbeats 4000000 in
set_option maxRecDepth 100000 in
theorem wX0_weigh_L16 {p : Program} {l : Launch} {e : Env} {s : State} {m : MethodId} {args : Array Value} {below : List Frame} {meth : Method} {c : Code} {Q : State → Prop} {D : va_G} {cc : Nat → ClassId} {ak av : Nat → Nat} {A : Nat → Prop} {ad : Nat → Nat} {g : Nat → Option Nat} {E : va_W} {n : Nat} {x1 : Int32} {x2 : Int32} {S' : St} {k : Int32 → St → Option St} (F : CallFix p m c cX0_weigh 8 s args wsX0_weigh RX0) (B : Bd D cc ak av A s) (hQ : RetV p l e ({ frames := 4, cells := 0, slots := 0, locals := 85 } : Room) s m args below meth c D A Q cX0_weigh (WX cc ad g S' ++ E))
    (hk : ∀ (x6 : Int32) (S : St) (H : Heap) (locs : List Loc) (ls : Array Slot), Wd D A s.heap H locs (WX cc ad g S ++ E) → lv_has ls 8 [(0, .ref (ad 7)), (1, .int x1), (2, .int x2), (4, .ref (ad 2)), (5, .ref (ad 1)), (6, .int x6)] → k x6 S = some S' → W p l e ({ frames := 4, cells := 0, slots := 0, locals := 85 } : Room) s m args below meth c H locs 0 0 Q (F0 m 77 ls [])) :
    ∀ (fu : Nat) (x6 : Int32) (S : St) (H : Heap) (locs : List Loc) (ls : Array Slot), Wd D A s.heap H locs (WX cc ad g S ++ E) → lv_has ls 8 [(0, .ref (ad 7)), (1, .int x1), (2, .int x2), (4, .ref (ad 2)), (5, .ref (ad 1)), (6, .int x6)] → fX0_weigh_L16 n x1 x2 k fu x6 S = some S' → W p l e ({ frames := 4, cells := 0, slots := 0, locals := 85 } : Room) s m args below meth c H locs 0 0 Q (F0 m 16 ls []) := by
  have hx := F.1
  have hb := F.2.1
  have hown := F.2.2.2.1
  have hts := F.2.2.2.2
  intro fu
  induction fu with
  | zero => intro x6 S H locs ls w hl hf; rw [fX0_weigh_L16] at hf; cases hf
  | succ fu ih =>
    intro x6 S H locs ls w hl hf
    rw [fX0_weigh_L16] at hf
    refine lv_iload hx hb dX0_weigh_16 (lv_at hl 5 rfl) ?_
    refine lv_aload_n hx hb dX0_weigh_18 rfl (lv_at hl 0 rfl) ?_
    refine kget (v := .int (S.1 18)) F B w inX0_weigh_0 7 gX_7 rfl 2 (by decide) (hts (.fieldLink RX0 29 "LandReform$Giving" "size" "I") (by decide +kernel)) rfl rfl dX0_weigh_19 ?_
    refine lv_icmp_ge (tgt := 77) hx hb dX0_weigh_22 (by decide) (fun c2 => ?_) (fun c2 => ?_)
    · have hf := if_t hf c2
      exact hk _ _ _ _ _ w (lv_sub hl [0, 1, 2, 3, 4, 5] rfl) hf
    · have hf := if_f hf c2
      refine lv_iconst (v := 0) hx hb dX0_weigh_25 (by decide) ?_
      refine lv_istore (lv' := [(7, .int 0), (0, .ref (ad 7)), (1, .int x1), (2, .int x2), (4, .ref (ad 2)), (5, .ref (ad 1)), (6, .int x6)]) hx hb dX0_weigh_26 hl (by decide) rfl (fun ls hl => ?_)
      refine wX0_weigh_L28 F B hQ (fun x9 S10 H locs ls w hl hf => ?_) n _ _ _ _ _ w (lv_sub hl [1, 2, 3, 4, 5, 6, 0] rfl) hf
      refine lv_iinc (v := (x6 + 1)) (lv' := [(6, .int (x6 + 1)), (0, .ref (ad 7)), (1, .int x1), (2, .int x2), (4, .ref (ad 2)), (5, .ref (ad 1)), (7, .int x9)]) hx hb dX0_weigh_71 hl (k := 5) rfl rfl (by decide) rfl (fun ls hl => ?_)
      refine lv_goto (tgt := 16) hx hb dX0_weigh_74 (by decide) ?_
      exact ih _ _ _ _ _ w (lv_sub hl [1, 2, 3, 4, 5, 0] rfl) hf
set_option maxHeartbeats 4000000 in
set_option maxRecDepth 100000 in
theorem wX0_weigh_L87 {p : Program} {l : Launch} {e : Env} {s : State} {m : MethodId} {args : Array Value} {below : List Frame} {meth : Method} {c : Code} {Q : State → Prop} {D : va_G} {cc : Nat → ClassId} {ak av : Nat → Nat} {A : Nat → Prop} {ad : Nat → Nat} {g : Nat → Option Nat} {E : va_W} {n : Nat} {S' : St} {k : Int32 → St → Option St} (F : CallFix p m c cX0_weigh 8 s args wsX0_weigh RX0) (B : Bd D cc ak av A s) (hQ : RetV p l e ({ frames := 4, cells := 0, slots := 0, locals := 85 } : Room) s m args below meth c D A Q cX0_weigh (WX cc ad g S' ++ E))
    (hk : ∀ (x6 : Int32) (S : St) (H : Heap) (locs : List Loc) (ls : Array Slot), Wd D A s.heap H locs (WX cc ad g S ++ E) → lv_has ls 8 [(0, .ref (ad 7)), (6, .int x6)] → k x6 S = some S' → W p l e ({ frames := 4, cells := 0, slots := 0, locals := 85 } : Room) s m args below meth c H locs 0 0 Q (F0 m 123 ls [])) :
    ∀ (fu : Nat) (x6 : Int32) (S : St) (H : Heap) (locs : List Loc) (ls : Array Slot), Wd D A s.heap H locs (WX cc ad g S ++ E) → lv_has ls 8 [(0, .ref (ad 7)), (6, .int x6)] → fX0_weigh_L87 n k fu x6 S = some S' → W p l e ({ frames := 4, cells := 0, slots := 0, locals := 85 } : Room) s m args below meth c H locs 0 0 Q (F0 m 87 ls []) := by
  have hx := F.1
  have hb := F.2.1
  have hown := F.2.2.2.1
  have hts := F.2.2.2.2
  intro fu
  induction fu with
  | zero => intro x6 S H locs ls w hl hf; rw [fX0_weigh_L87] at hf; cases hf
  | succ fu ih =>
    intro x6 S H locs ls w hl hf
    rw [fX0_weigh_L87] at hf
    refine lv_iload hx hb dX0_weigh_87 (lv_at hl 1 rfl) ?_
    refine lv_iconst (v := 1) hx hb dX0_weigh_89 (by decide) ?_
    refine lv_aload_n hx hb dX0_weigh_90 rfl (lv_at hl 0 rfl) ?_
    refine kget (v := .int (S.1 18)) F B w inX0_weigh_0 7 gX_7 rfl 2 (by decide) (hts (.fieldLink RX0 29 "LandReform$Giving" "size" "I") (by decide +kernel)) rfl rfl dX0_weigh_91 ?_
    refine lv_ishl hx hb dX0_weigh_94 ?_
    refine lv_icmp_ge (tgt := 123) hx hb dX0_weigh_95 (by decide) (fun c14 => ?_) (fun c14 => ?_)
    · have hf := if_t hf c14
      exact hk _ _ _ _ _ w (lv_sub hl [0, 1] rfl) hf
    · have hf := if_f hf c14
      refine lv_aload_n hx hb dX0_weigh_98 rfl (lv_at hl 0 rfl) ?_
      refine kget (v := .ref (ad 32)) F B w inX0_weigh_0 7 gX_7 rfl 0 (by decide) (hts (.fieldLink RX0 9 "LandReform$Giving" "leastSums" "[I") (by decide +kernel)) rfl rfl dX0_weigh_99 ?_
      refine lv_iload hx hb dX0_weigh_102 (lv_at hl 1 rfl) ?_
      refine lv_aload_n hx hb dX0_weigh_104 rfl (lv_at hl 0 rfl) ?_
      refine lv_iload hx hb dX0_weigh_105 (lv_at hl 1 rfl) ?_
      refine lv_aload_n hx hb dX0_weigh_107 rfl (lv_at hl 0 rfl) ?_
      refine lv_iload hx hb dX0_weigh_108 (lv_at hl 1 rfl) ?_
      obtain ⟨r15, er15, hf⟩ := ob_e hf
      refine kVi (As := [.int x6]) (rest := [.int x6, .ref (ad 7), .int x6, .ref (ad 32)]) F B w (tX0_nearest er15) (cwV 1 hts gX0_weigh_X0_nearest rfl rfl rfl (by decide +kernel) ⟨Nat.le_of_ble_eq_true rfl, Nat.le_of_ble_eq_true rfl⟩) 7 gX_7 rfl rfl hl.1 rfl (Nat.le_of_ble_eq_true rfl) dX0_weigh_110 ⟨Nat.le_of_ble_eq_true rfl, Nat.le_of_ble_eq_true rfl⟩ (fun H locs w => ?_)
      obtain ⟨r16, er16, hf⟩ := ob_e hf
      refine kVi (As := [.int x6, .int r15]) (rest := [.int x6, .ref (ad 32)]) F B w (tX0_sumWith er16) (cwV 2 hts gX0_weigh_X0_sumWith rfl rfl rfl (by decide +kernel) ⟨Nat.le_of_ble_eq_true rfl, Nat.le_of_ble_eq_true rfl⟩) 7 gX_7 rfl rfl hl.1 rfl (Nat.le_of_ble_eq_true rfl) dX0_weigh_113 ⟨Nat.le_of_ble_eq_true rfl, Nat.le_of_ble_eq_true rfl⟩ (fun H locs w => ?_)
      obtain ⟨g17, hf⟩ := if_g hf
      refine kiast F B w 32 gX_32 g17 bX_32 dX0_weigh_116 (fun H locs w => ?_)
      obtain ⟨S18, eS18⟩ : ∃ z, z = sA S 19 (Int32.toNatClampNeg x6) r16 := ⟨_, rfl⟩
      rw [← eS18] at w
      have hf := lt_e hf eS18
      refine lv_iinc (v := (x6 + 1)) (lv' := [(6, .int (x6 + 1)), (0, .ref (ad 7))]) hx hb dX0_weigh_117 hl (k := 1) rfl rfl (by decide) rfl (fun ls hl => ?_)
      refine lv_goto (tgt := 87) hx hb dX0_weigh_120 (by decide) ?_
      exact ih _ _ _ _ _ w (lv_sub hl [1, 0] rfl) hf
set_option maxHeartbeats 4000000 in
set_option maxRecDepth 100000 in
theorem tX0_weigh {l : Launch} {D : va_G} {cc : Nat → ClassId} {ak av : Nat → Nat} {ad : Nat → Nat} {g : Nat → Option Nat} {E : va_W} {n : Nat} {S : St} {x1 : Int32} {x2 : Int32} {x3 : Int32} {S' : St} (hf : fX0_weigh n S x1 x2 x3 = some S') : CV l yX0_weigh wsX0_weigh ({ frames := 4, cells := 0, slots := 0, locals := 85 } : Room) D cc ak av [.ref (ad 7), .int x1, .int x2, .int x3, .ref (ad 2), .ref (ad 1)] (WX cc ad g S ++ E) (WX cc ad g S' ++ E) := by
  refine mkV (c0 := cX0_weigh) (nL := 8) (own := RX0) rfl rfl (by decide) rfl rfl (Nat.le_of_ble_eq_true rfl) ?_
  intro p e s m args below meth c A Q ls F B hQ hl w
  have hx := F.1
  have hb := F.2.1
  have hown := F.2.2.2.1
  have hts := F.2.2.2.2
  have hl : lv_has ls 8 [(0, .ref (ad 7)), (1, .int x1), (2, .int x2), (3, .int x3), (4, .ref (ad 2)), (5, .ref (ad 1))] := hl
  unfold fX0_weigh at hf
  refine lv_aload_n hx hb dX0_weigh_0 rfl (lv_at hl 0 rfl) ?_
  refine lv_iconst (v := 0) hx hb dX0_weigh_1 (by decide) ?_
  refine lv_iload_n hx hb dX0_weigh_2 rfl (lv_at hl 3 rfl) ?_
  refine lv_iconst (v := 5) hx hb dX0_weigh_3 (by decide) ?_
  refine va_mmin hx hb (by rw [hl.1]; exact F.2.2.1) hown (hts (.methodLink RX0 20 Lib.Math.min.name) (by decide +kernel)) (hts (.static Lib.Math.min.name) (by decide +kernel)) (hts (.initialized "java/lang/Math") (by decide +kernel)) (hts (.code Lib.Math.min.name Lib.Math.min.code 2 (some .int)) (by decide +kernel)) (Nat.le_of_ble_eq_true rfl) (Nat.le_of_ble_eq_true rfl) (Nat.le_of_ble_eq_true rfl) (Nat.le_of_ble_eq_true rfl) dX0_weigh_4 ?_
  refine va_mmax hx hb (by rw [hl.1]; exact F.2.2.1) hown (hts (.methodLink RX0 26 Lib.Math.max.name) (by decide +kernel)) (hts (.static Lib.Math.max.name) (by decide +kernel)) (hts (.initialized "java/lang/Math") (by decide +kernel)) (hts (.code Lib.Math.max.name Lib.Math.max.code 2 (some .int)) (by decide +kernel)) (Nat.le_of_ble_eq_true rfl) (Nat.le_of_ble_eq_true rfl) (Nat.le_of_ble_eq_true rfl) (Nat.le_of_ble_eq_true rfl) dX0_weigh_7 ?_
  refine kput (ty := .int) F B w inX0_weigh_0 tyX0 tyX0_ok nmX0 7 gX_7 rfl 2 (by decide) (hts (.fieldLink RX0 29 "LandReform$Giving" "size" "I") (by decide +kernel)) rfl rfl (by decide +kernel) rfl rfl (Nat.le_of_ble_eq_true rfl) pX_18 dX0_weigh_10 (fun H locs w => ?_)
  obtain ⟨S1, eS1⟩ : ∃ z, z = sS S 18 (if (0 : Int32) < (if (5 : Int32) < x3 then 5 else x3) then (if (5 : Int32) < x3 then 5 else x3) else 0) := ⟨_, rfl⟩
  rw [← eS1] at w
  have hf := lt_e hf eS1
  refine lv_iconst (v := 0) hx hb dX0_weigh_13 (by decide) ?_
  refine lv_istore (lv' := [(6, .int 0), (0, .ref (ad 7)), (1, .int x1), (2, .int x2), (3, .int x3), (4, .ref (ad 2)), (5, .ref (ad 1))]) hx hb dX0_weigh_14 hl (by decide) rfl (fun ls hl => ?_)
  refine wX0_weigh_L16 F B hQ (fun x11 S12 H locs ls w hl hf => ?_) n _ _ _ _ _ w (lv_sub hl [1, 2, 3, 5, 6, 0] rfl) hf
  refine lv_aload_n hx hb dX0_weigh_77 rfl (lv_at hl 0 rfl) ?_
  refine kget (v := .ref (ad 32)) F B w inX0_weigh_0 7 gX_7 rfl 0 (by decide) (hts (.fieldLink RX0 9 "LandReform$Giving" "leastSums" "[I") (by decide +kernel)) rfl rfl dX0_weigh_78 ?_
  refine lv_iconst (v := 0) hx hb dX0_weigh_81 (by decide) ?_
  refine lv_iconst (v := 0) hx hb dX0_weigh_82 (by decide) ?_
  refine kiast F B w 32 gX_32 (by decide) bX_32 dX0_weigh_83 (fun H locs w => ?_)
  obtain ⟨S13, eS13⟩ : ∃ z, z = sA S12 19 (Int32.toNatClampNeg 0) 0 := ⟨_, rfl⟩
  rw [← eS13] at w
  have hf := lt_e hf eS13
  refine lv_iconst (v := 1) hx hb dX0_weigh_84 (by decide) ?_
  refine lv_istore (lv' := [(6, .int 1), (0, .ref (ad 7)), (1, .int x1), (2, .int x2), (4, .ref (ad 2)), (5, .ref (ad 1))]) hx hb dX0_weigh_85 hl (by decide) rfl (fun ls hl => ?_)
  refine wX0_weigh_L87 F B hQ (fun x19 S20 H locs ls w hl hf => ?_) n _ _ _ _ _ w (lv_sub hl [1, 0] rfl) hf
  cases hf
  exact hQ _ _ _ _ dX0_weigh_123 w

def fX0_leastSum (S : St) : Option Int32 := if (((1 : Int32) <<< ((S.1 18) &&& 31)) - 1) < 0 ∨ 32 ≤ Int32.toNatClampNeg (((1 : Int32) <<< ((S.1 18) &&& 31)) - 1) then none else some (S.2.1 19 (Int32.toNatClampNeg (((1 : Int32) <<< ((S.1 18) &&& 31)) - 1)))
set_option maxRecDepth 20000 in
theorem inX0_leastSum_0 : ∀ w ∈ u_ws RX0 TX0 3, w ∈ wsX0_leastSum := by decide +kernel
set_option maxHeartbeats 4000000 in
set_option maxRecDepth 100000 in
theorem tX0_leastSum {l : Launch} {D : va_G} {cc : Nat → ClassId} {ak av : Nat → Nat} {ad : Nat → Nat} {g : Nat → Option Nat} {E : va_W} {S : St} {r : Int32} (hf : fX0_leastSum S = some r) : CI l yX0_leastSum wsX0_leastSum ({ frames := 0, cells := 0, slots := 0, locals := 0 } : Room) D cc ak av [.ref (ad 7)] (WX cc ad g S ++ E) (WX cc ad g S ++ E) r := by
  refine mkI (c0 := cX0_leastSum) (nL := 1) (own := RX0) rfl rfl (by decide) rfl rfl (Nat.le_of_ble_eq_true rfl) ?_
  intro p e s m args below meth c A Q ls F B hQ hl w
  have hx := F.1
  have hb := F.2.1
  have hown := F.2.2.2.1
  have hts := F.2.2.2.2
  have hl : lv_has ls 1 [(0, .ref (ad 7))] := hl
  unfold fX0_leastSum at hf
  refine lv_aload_n hx hb dX0_leastSum_0 rfl (lv_at hl 0 rfl) ?_
  refine kget (v := .ref (ad 32)) F B w inX0_leastSum_0 7 gX_7 rfl 0 (by decide) (hts (.fieldLink RX0 9 "LandReform$Giving" "leastSums" "[I") (by decide +kernel)) rfl rfl dX0_leastSum_1 ?_
  refine lv_iconst (v := 1) hx hb dX0_leastSum_4 (by decide) ?_
  refine lv_aload_n hx hb dX0_leastSum_5 rfl (lv_at hl 0 rfl) ?_
  refine kget (v := .int (S.1 18)) F B w inX0_leastSum_0 7 gX_7 rfl 2 (by decide) (hts (.fieldLink RX0 29 "LandReform$Giving" "size" "I") (by decide +kernel)) rfl rfl dX0_leastSum_6 ?_
  refine lv_ishl hx hb dX0_leastSum_9 ?_
  refine lv_iconst (v := 1) hx hb dX0_leastSum_10 (by decide) ?_
  refine lv_isub hx hb dX0_leastSum_11 ?_
  obtain ⟨g1, hf⟩ := if_g hf
  refine kiald F B w 32 gX_32 g1 dX0_leastSum_12 ?_
  cases hf
  exact hQ _ _ _ _ dX0_leastSum_13 w

def fX0_choice_L11 (n : Nat) (x1 : Int32) (S : St) (k : Int32 → Int32 → Option Int32) : Nat → Int32 → Int32 → Option Int32
  | 0, _, _ => none
  | fu + 1, x2, x3 => if x1 ≤ x3 then (k x2 x3) else (if (S.1 18) ≤ x3 then (k x2 x3) else (ob (fX0_nearest n S x2) fun r4 => lt_ (x2 &&& (((1 : Int32) <<< (r4 &&& 31)) ^^^ (-1))) fun v5 => fX0_choice_L11 n x1 S k fu v5 (x3 + 1)))
def fX0_choice (n : Nat) (S : St) (x1 : Int32) : Option Int32 := lt_ (((1 : Int32) <<< ((S.1 18) &&& 31)) - 1) fun v1 => fX0_choice_L11 n x1 S (fun x6 x7 => ob (fX0_nearest n S x6) fun r8 => some r8) n v1 0
set_option maxRecDepth 20000 in
theorem inX0_choice_0 : ∀ w ∈ u_ws RX0 TX0 3, w ∈ wsX0_choice := by decide +kernel
set_option maxHeartbeats 4000000 in
set_option maxRecDepth 100000 in
theorem wX0_choice_L11 {p : Program} {l : Launch} {e : Env} {s : State} {m : MethodId} {args : Array Value} {below : List Frame} {meth : Method} {c : Code} {Q : State → Prop} {D : va_G} {cc : Nat → ClassId} {ak av : Nat → Nat} {A : Nat → Prop} {ad : Nat → Nat} {g : Nat → Option Nat} {E : va_W} {n : Nat} {x1 : Int32} {S : St} {r : Int32} {k : Int32 → Int32 → Option Int32} (F : CallFix p m c cX0_choice 4 s args wsX0_choice RX0) (B : Bd D cc ak av A s) (hQ : RetI p l e ({ frames := 3, cells := 0, slots := 0, locals := 68 } : Room) s m args below meth c D A Q cX0_choice (WX cc ad g S ++ E) r)
    (hk : ∀ (x2 : Int32) (x3 : Int32) (H : Heap) (locs : List Loc) (ls : Array Slot), Wd D A s.heap H locs (WX cc ad g S ++ E) → lv_has ls 4 [(0, .ref (ad 7)), (1, .int x1), (2, .int x2), (3, .int x3)] → k x2 x3 = some r → W p l e ({ frames := 3, cells := 0, slots := 0, locals := 68 } : Room) s m args below meth c H locs 0 0 Q (F0 m 42 ls [])) :
    ∀ (fu : Nat) (x2 : Int32) (x3 : Int32) (H : Heap) (locs : List Loc) (ls : Array Slot), Wd D A s.heap H locs (WX cc ad g S ++ E) → lv_has ls 4 [(0, .ref (ad 7)), (1, .int x1), (2, .int x2), (3, .int x3)] → fX0_choice_L11 n x1 S k fu x2 x3 = some r → W p l e ({ frames := 3, cells := 0, slots := 0, locals := 68 } : Room) s m args below meth c H locs 0 0 Q (F0 m 11 ls []) := by
  have hx := F.1
  have hb := F.2.1
  have hown := F.2.2.2.1
  have hts := F.2.2.2.2
  intro fu
  induction fu with
  | zero => intro x2 x3 H locs ls w hl hf; rw [fX0_choice_L11] at hf; cases hf
  | succ fu ih =>
    intro x2 x3 H locs ls w hl hf
    rw [fX0_choice_L11] at hf
    refine lv_iload_n hx hb dX0_choice_11 rfl (lv_at hl 3 rfl) ?_
    refine lv_iload_n hx hb dX0_choice_12 rfl (lv_at hl 1 rfl) ?_
    refine lv_icmp_ge (tgt := 42) hx hb dX0_choice_13 (by decide) (fun c2 => ?_) (fun c2 => ?_)
    · have hf := if_t hf c2
      exact hk _ _ _ _ _ w (lv_sub hl [0, 1, 2, 3] rfl) hf
    · have hf := if_f hf c2
      refine lv_iload_n hx hb dX0_choice_16 rfl (lv_at hl 3 rfl) ?_
      refine lv_aload_n hx hb dX0_choice_17 rfl (lv_at hl 0 rfl) ?_
      refine kget (v := .int (S.1 18)) F B w inX0_choice_0 7 gX_7 rfl 2 (by decide) (hts (.fieldLink RX0 29 "LandReform$Giving" "size" "I") (by decide +kernel)) rfl rfl dX0_choice_18 ?_
      refine lv_icmp_ge (tgt := 42) hx hb dX0_choice_21 (by decide) (fun c3 => ?_) (fun c3 => ?_)
      · have hf := if_t hf c3
        exact hk _ _ _ _ _ w (lv_sub hl [0, 1, 2, 3] rfl) hf
      · have hf := if_f hf c3
        refine lv_iload_n hx hb dX0_choice_24 rfl (lv_at hl 2 rfl) ?_
        refine lv_iconst (v := 1) hx hb dX0_choice_25 (by decide) ?_
        refine lv_aload_n hx hb dX0_choice_26 rfl (lv_at hl 0 rfl) ?_
        refine lv_iload_n hx hb dX0_choice_27 rfl (lv_at hl 2 rfl) ?_
        obtain ⟨r4, er4, hf⟩ := ob_e hf
        refine kVi (As := [.int x2]) (rest := [.int 1, .int x2]) F B w (tX0_nearest er4) (cwV 1 hts gX0_choice_X0_nearest rfl rfl rfl (by decide +kernel) ⟨Nat.le_of_ble_eq_true rfl, Nat.le_of_ble_eq_true rfl⟩) 7 gX_7 rfl rfl hl.1 rfl (Nat.le_of_ble_eq_true rfl) dX0_choice_28 ⟨Nat.le_of_ble_eq_true rfl, Nat.le_of_ble_eq_true rfl⟩ (fun H locs w => ?_)
        refine lv_ishl hx hb dX0_choice_31 ?_
        refine lv_iconst (v := (-1)) hx hb dX0_choice_32 (by decide) ?_
        refine lv_ixor hx hb dX0_choice_33 ?_
        refine lv_iand hx hb dX0_choice_34 ?_
        refine lv_topi (fun v5 ev5 => ?_)
        have hf := lt_e hf ev5
        refine lv_istore_n (lv' := [(2, .int v5), (0, .ref (ad 7)), (1, .int x1), (3, .int x3)]) hx hb dX0_choice_35 rfl hl (by decide) rfl (fun ls hl => ?_)
        refine lv_iinc (v := (x3 + 1)) (lv' := [(3, .int (x3 + 1)), (2, .int v5), (0, .ref (ad 7)), (1, .int x1)]) hx hb dX0_choice_36 hl (k := 3) rfl rfl (by decide) rfl (fun ls hl => ?_)
        refine lv_goto (tgt := 11) hx hb dX0_choice_39 (by decide) ?_
        exact ih _ _ _ _ _ w (lv_sub hl [2, 3, 1, 0] rfl) hf
set_option maxHeartbeats 4000000 in
set_option maxRecDepth 100000 in
theorem tX0_choice {l : Launch} {D : va_G} {cc : Nat → ClassId} {ak av : Nat → Nat} {ad : Nat → Nat} {g : Nat → Option Nat} {E : va_W} {n : Nat} {S : St} {x1 : Int32} {r : Int32} (hf : fX0_choice n S x1 = some r) : CI l yX0_choice wsX0_choice ({ frames := 3, cells := 0, slots := 0, locals := 68 } : Room) D cc ak av [.ref (ad 7), .int x1] (WX cc ad g S ++ E) (WX cc ad g S ++ E) r := by
  refine mkI (c0 := cX0_choice) (nL := 4) (own := RX0) rfl rfl (by decide) rfl rfl (Nat.le_of_ble_eq_true rfl) ?_
  intro p e s m args below meth c A Q ls F B hQ hl w
  have hx := F.1
  have hb := F.2.1
  have hown := F.2.2.2.1
  have hts := F.2.2.2.2
  have hl : lv_has ls 4 [(0, .ref (ad 7)), (1, .int x1)] := hl
  unfold fX0_choice at hf
  refine lv_iconst (v := 1) hx hb dX0_choice_0 (by decide) ?_
  refine lv_aload_n hx hb dX0_choice_1 rfl (lv_at hl 0 rfl) ?_
  refine kget (v := .int (S.1 18)) F B w inX0_choice_0 7 gX_7 rfl 2 (by decide) (hts (.fieldLink RX0 29 "LandReform$Giving" "size" "I") (by decide +kernel)) rfl rfl dX0_choice_2 ?_
  refine lv_ishl hx hb dX0_choice_5 ?_
  refine lv_iconst (v := 1) hx hb dX0_choice_6 (by decide) ?_
  refine lv_isub hx hb dX0_choice_7 ?_
  refine lv_topi (fun v1 ev1 => ?_)
  have hf := lt_e hf ev1
  refine lv_istore_n (lv' := [(2, .int v1), (0, .ref (ad 7)), (1, .int x1)]) hx hb dX0_choice_8 rfl hl (by decide) rfl (fun ls hl => ?_)
  refine lv_iconst (v := 0) hx hb dX0_choice_9 (by decide) ?_
  refine lv_istore_n (lv' := [(3, .int 0), (2, .int v1), (0, .ref (ad 7)), (1, .int x1)]) hx hb dX0_choice_10 rfl hl (by decide) rfl (fun ls hl => ?_)
  refine wX0_choice_L11 F B hQ (fun x6 x7 H locs ls w hl hf => ?_) n _ _ _ _ _ w (lv_sub hl [2, 3, 1, 0] rfl) hf
  refine lv_aload_n hx hb dX0_choice_42 rfl (lv_at hl 0 rfl) ?_
  refine lv_iload_n hx hb dX0_choice_43 rfl (lv_at hl 2 rfl) ?_
  obtain ⟨r8, er8, hf⟩ := ob_e hf
  refine kVi (As := [.int x6]) (rest := []) F B w (tX0_nearest er8) (cwV 1 hts gX0_choice_X0_nearest rfl rfl rfl (by decide +kernel) ⟨Nat.le_of_ble_eq_true rfl, Nat.le_of_ble_eq_true rfl⟩) 7 gX_7 rfl rfl hl.1 rfl (Nat.le_of_ble_eq_true rfl) dX0_choice_44 ⟨Nat.le_of_ble_eq_true rfl, Nat.le_of_ble_eq_true rfl⟩ (fun H locs w => ?_)
  cases hf
  exact hQ _ _ _ _ dX0_choice_47 w

def fX6_holderOfNearest_L4 (n : Nat) (x1 : Int32) (S : St) (k : Int32 → Int32 → Option Int32) : Nat → Int32 → Int32 → Option Int32
  | 0, _, _ => none
  | fu + 1, x2, x3 => if (S.1 19) ≤ x3 then (k x2 x3) else (if x2 < 0 ∨ 8 ≤ Int32.toNatClampNeg x2 then none else if x1 < 0 ∨ 8 ≤ Int32.toNatClampNeg x1 then none else if x3 < 0 ∨ 8 ≤ Int32.toNatClampNeg x3 then none else if x1 < 0 ∨ 8 ≤ Int32.toNatClampNeg x1 then none else lt_ ((if (0 : Int32) ≤ ((S.2.1 27 (Int32.toNatClampNeg x2)) - (S.2.1 25 (Int32.toNatClampNeg x1))) then ((S.2.1 27 (Int32.toNatClampNeg x2)) - (S.2.1 25 (Int32.toNatClampNeg x1))) else 0 - ((S.2.1 27 (Int32.toNatClampNeg x2)) - (S.2.1 25 (Int32.toNatClampNeg x1)))) - (if (0 : Int32) ≤ ((S.2.1 27 (Int32.toNatClampNeg x3)) - (S.2.1 25 (Int32.toNatClampNeg x1))) then ((S.2.1 27 (Int32.toNatClampNeg x3)) - (S.2.1 25 (Int32.toNatClampNeg x1))) else 0 - ((S.2.1 27 (Int32.toNatClampNeg x3)) - (S.2.1 25 (Int32.toNatClampNeg x1))))) fun v6 => if 0 < v6 then (if x3 < 0 ∨ 8 ≤ Int32.toNatClampNeg x3 then none else if (S.2.1 28 (Int32.toNatClampNeg x3)) = (-1) then (fX6_holderOfNearest_L4 n x1 S k fu x3 (x3 + 1)) else (fX6_holderOfNearest_L4 n x1 S k fu x2 (x3 + 1))) else (if v6 = 0 then (if x3 < 0 ∨ 8 ≤ Int32.toNatClampNeg x3 then none else if x2 < 0 ∨ 8 ≤ Int32.toNatClampNeg x2 then none else if (S.2.1 26 (Int32.toNatClampNeg x2)) ≤ (S.2.1 26 (Int32.toNatClampNeg x3)) then (if x3 < 0 ∨ 8 ≤ Int32.toNatClampNeg x3 then none else if (S.2.1 28 (Int32.toNatClampNeg x3)) = (-1) then (fX6_holderOfNearest_L4 n x1 S k fu x2 (x3 + 1)) else (fX6_holderOfNearest_L4 n x1 S k fu x2 (x3 + 1))) else (if x3 < 0 ∨ 8 ≤ Int32.toNatClampNeg x3 then none else if (S.2.1 28 (Int32.toNatClampNeg x3)) = (-1) then (fX6_holderOfNearest_L4 n x1 S k fu x3 (x3 + 1)) else (fX6_holderOfNearest_L4 n x1 S k fu x2 (x3 + 1)))) else (if x3 < 0 ∨ 8 ≤ Int32.toNatClampNeg x3 then none else if (S.2.1 28 (Int32.toNatClampNeg x3)) = (-1) then (fX6_holderOfNearest_L4 n x1 S k fu x2 (x3 + 1)) else (fX6_holderOfNearest_L4 n x1 S k fu x2 (x3 + 1)))))
def fX6_holderOfNearest (n : Nat) (S : St) (x1 : Int32) : Option Int32 := fX6_holderOfNearest_L4 n x1 S (fun x24 x25 => some x24) n x1 0
set_option maxRecDepth 20000 in
theorem inX6_holderOfNearest_6 : ∀ w ∈ u_ws RX6 TX6 7, w ∈ wsX6_holderOfNearest := by decide +kernel
set_option maxHeartbeats 4000000 in
set_option maxRecDepth 100000 in
theorem wX6_holderOfNearest_L4 {p : Program} {l : Launch} {e : Env} {s : State} {m : MethodId} {args : Array Value} {below : List Frame} {meth : Method} {c : Code} {Q : State → Prop} {D : va_G} {cc : Nat → ClassId} {ak av : Nat → Nat} {A : Nat → Prop} {ad : Nat → Nat} {g : Nat → Option Nat} {E : va_W} {n : Nat} {x1 : Int32} {S : St} {r : Int32} {k : Int32 → Int32 → Option Int32} (F : CallFix p m c cX6_holderOfNearest 6 s args wsX6_holderOfNearest RX6) (B : Bd D cc ak av A s) (hQ : RetI p l e ({ frames := 1, cells := 0, slots := 0, locals := 21 } : Room) s m args below meth c D A Q cX6_holderOfNearest (WX cc ad g S ++ E) r)
    (hk : ∀ (x2 : Int32) (x3 : Int32) (H : Heap) (locs : List Loc) (ls : Array Slot), Wd D A s.heap H locs (WX cc ad g S ++ E) → lv_has ls 6 [(0, .ref (ad 8)), (1, .int x1), (2, .int x2), (3, .int x3)] → k x2 x3 = some r → W p l e ({ frames := 1, cells := 0, slots := 0, locals := 21 } : Room) s m args below meth c H locs 0 0 Q (F0 m 102 ls [])) :
    ∀ (fu : Nat) (x2 : Int32) (x3 : Int32) (H : Heap) (locs : List Loc) (ls : Array Slot), Wd D A s.heap H locs (WX cc ad g S ++ E) → lv_has ls 6 [(0, .ref (ad 8)), (1, .int x1), (2, .int x2), (3, .int x3)] → fX6_holderOfNearest_L4 n x1 S k fu x2 x3 = some r → W p l e ({ frames := 1, cells := 0, slots := 0, locals := 21 } : Room) s m args below meth c H locs 0 0 Q (F0 m 4 ls []) := by
  have hx := F.1
  have hb := F.2.1
  have hown := F.2.2.2.1
  have hts := F.2.2.2.2
  intro fu
  induction fu with
  | zero => intro x2 x3 H locs ls w hl hf; rw [fX6_holderOfNearest_L4] at hf; cases hf
  | succ fu ih =>
    intro x2 x3 H locs ls w hl hf
    rw [fX6_holderOfNearest_L4] at hf
    refine lv_iload_n hx hb dX6_holderOfNearest_4 rfl (lv_at hl 3 rfl) ?_
    refine lv_aload_n hx hb dX6_holderOfNearest_5 rfl (lv_at hl 0 rfl) ?_
    refine kget (v := .int (S.1 19)) F B w inX6_holderOfNearest_6 8 gX_8 rfl 5 (by decide) (hts (.fieldLink RX6 36 "LandReform$Rings" "size" "I") (by decide +kernel)) rfl rfl dX6_holderOfNearest_6 ?_
    refine lv_icmp_ge (tgt := 102) hx hb dX6_holderOfNearest_9 (by decide) (fun c1 => ?_) (fun c1 => ?_)
    · have hf := if_t hf c1
      exact hk _ _ _ _ _ w (lv_sub hl [0, 1, 2, 3] rfl) hf
    · have hf := if_f hf c1
      refine lv_aload_n hx hb dX6_holderOfNearest_12 rfl (lv_at hl 0 rfl) ?_
      refine kget (v := .ref (ad 41)) F B w inX6_holderOfNearest_6 8 gX_8 rfl 2 (by decide) (hts (.fieldLink RX6 18 "LandReform$Rings" "placesHad" "[I") (by decide +kernel)) rfl rfl dX6_holderOfNearest_13 ?_
      refine lv_iload_n hx hb dX6_holderOfNearest_16 rfl (lv_at hl 2 rfl) ?_
      obtain ⟨g2, hf⟩ := if_g hf
      refine kiald F B w 41 gX_41 g2 dX6_holderOfNearest_17 ?_
      refine lv_aload_n hx hb dX6_holderOfNearest_18 rfl (lv_at hl 0 rfl) ?_
      refine kget (v := .ref (ad 39)) F B w inX6_holderOfNearest_6 8 gX_8 rfl 0 (by decide) (hts (.fieldLink RX6 9 "LandReform$Rings" "homes" "[I") (by decide +kernel)) rfl rfl dX6_holderOfNearest_19 ?_
      refine lv_iload_n hx hb dX6_holderOfNearest_22 rfl (lv_at hl 1 rfl) ?_
      obtain ⟨g3, hf⟩ := if_g hf
      refine kiald F B w 39 gX_39 g3 dX6_holderOfNearest_23 ?_
      refine lv_isub hx hb dX6_holderOfNearest_24 ?_
      refine va_mabs hx hb (by rw [hl.1]; exact F.2.2.1) hown (hts (.methodLink RX6 66 Lib.Math.abs.name) (by decide +kernel)) (hts (.static Lib.Math.abs.name) (by decide +kernel)) (hts (.initialized "java/lang/Math") (by decide +kernel)) (hts (.code Lib.Math.abs.name Lib.Math.abs.code 1 (some .int)) (by decide +kernel)) (Nat.le_of_ble_eq_true rfl) (Nat.le_of_ble_eq_true rfl) (Nat.le_of_ble_eq_true rfl) (Nat.le_of_ble_eq_true rfl) dX6_holderOfNearest_25 ?_
      refine lv_aload_n hx hb dX6_holderOfNearest_28 rfl (lv_at hl 0 rfl) ?_
      refine kget (v := .ref (ad 41)) F B w inX6_holderOfNearest_6 8 gX_8 rfl 2 (by decide) (hts (.fieldLink RX6 18 "LandReform$Rings" "placesHad" "[I") (by decide +kernel)) rfl rfl dX6_holderOfNearest_29 ?_
      refine lv_iload_n hx hb dX6_holderOfNearest_32 rfl (lv_at hl 3 rfl) ?_
      obtain ⟨g4, hf⟩ := if_g hf
      refine kiald F B w 41 gX_41 g4 dX6_holderOfNearest_33 ?_
      refine lv_aload_n hx hb dX6_holderOfNearest_34 rfl (lv_at hl 0 rfl) ?_
      refine kget (v := .ref (ad 39)) F B w inX6_holderOfNearest_6 8 gX_8 rfl 0 (by decide) (hts (.fieldLink RX6 9 "LandReform$Rings" "homes" "[I") (by decide +kernel)) rfl rfl dX6_holderOfNearest_35 ?_
      refine lv_iload_n hx hb dX6_holderOfNearest_38 rfl (lv_at hl 1 rfl) ?_
      obtain ⟨g5, hf⟩ := if_g hf
      refine kiald F B w 39 gX_39 g5 dX6_holderOfNearest_39 ?_
      refine lv_isub hx hb dX6_holderOfNearest_40 ?_
      refine va_mabs hx hb (by rw [hl.1]; exact F.2.2.1) hown (hts (.methodLink RX6 66 Lib.Math.abs.name) (by decide +kernel)) (hts (.static Lib.Math.abs.name) (by decide +kernel)) (hts (.initialized "java/lang/Math") (by decide +kernel)) (hts (.code Lib.Math.abs.name Lib.Math.abs.code 1 (some .int)) (by decide +kernel)) (Nat.le_of_ble_eq_true rfl) (Nat.le_of_ble_eq_true rfl) (Nat.le_of_ble_eq_true rfl) (Nat.le_of_ble_eq_true rfl) dX6_holderOfNearest_41 ?_
      refine lv_isub hx hb dX6_holderOfNearest_44 ?_
      refine lv_topi (fun v6 ev6 => ?_)
      have hf := lt_e hf ev6
      refine lv_istore (lv' := [(4, .int v6), (0, .ref (ad 8)), (1, .int x1), (2, .int x2), (3, .int x3)]) hx hb dX6_holderOfNearest_45 hl (by decide) rfl (fun ls hl => ?_)
      refine lv_iload hx hb dX6_holderOfNearest_47 (lv_at hl 0 rfl) ?_
      refine lv_if_gt (tgt := 72) hx hb dX6_holderOfNearest_49 (by decide) (fun c7 => ?_) (fun c7 => ?_)
      · have hf := if_t hf c7
        refine lv_iconst (v := 1) hx hb dX6_holderOfNearest_72 (by decide) ?_
        refine lv_goto (tgt := 77) hx hb dX6_holderOfNearest_73 (by decide) ?_
        refine lv_istore (lv' := [(5, .int 1), (4, .int v6), (0, .ref (ad 8)), (1, .int x1), (2, .int x2), (3, .int x3)]) hx hb dX6_holderOfNearest_77 hl (by decide) rfl (fun ls hl => ?_)
        refine lv_aload_n hx hb dX6_holderOfNearest_79 rfl (lv_at hl 2 rfl) ?_
        refine kget (v := .ref (ad 42)) F B w inX6_holderOfNearest_6 8 gX_8 rfl 3 (by decide) (hts (.fieldLink RX6 21 "LandReform$Rings" "fieldsGot" "[I") (by decide +kernel)) rfl rfl dX6_holderOfNearest_80 ?_
        refine lv_iload_n hx hb dX6_holderOfNearest_83 rfl (lv_at hl 5 rfl) ?_
        obtain ⟨g8, hf⟩ := if_g hf
        refine kiald F B w 42 gX_42 g8 dX6_holderOfNearest_84 ?_
        refine lv_iconst (v := (-1)) hx hb dX6_holderOfNearest_85 (by decide) ?_
        refine lv_icmp_ne (tgt := 96) hx hb dX6_holderOfNearest_86 (by decide) (fun c9 => ?_) (fun c9 => ?_)
        · have hf := if_f hf c9
          refine lv_iinc (v := (x3 + 1)) (lv' := [(3, .int (x3 + 1)), (5, .int 1), (4, .int v6), (0, .ref (ad 8)), (1, .int x1), (2, .int x2)]) hx hb dX6_holderOfNearest_96 hl (k := 5) rfl rfl (by decide) rfl (fun ls hl => ?_)
          refine lv_goto (tgt := 4) hx hb dX6_holderOfNearest_99 (by decide) ?_
          exact ih _ _ _ _ _ w (lv_sub hl [3, 4, 5, 0] rfl) hf
        · have hf := if_t hf c9
          refine lv_iload hx hb dX6_holderOfNearest_89 (lv_at hl 0 rfl) ?_
          refine lv_if_eq (tgt := 96) hx hb dX6_holderOfNearest_91 (by decide) (fun c => absurd c (by decide)) (fun _ => ?_)
          refine lv_iload_n hx hb dX6_holderOfNearest_94 rfl (lv_at hl 5 rfl) ?_
          refine lv_istore_n (lv' := [(2, .int x3), (5, .int 1), (4, .int v6), (0, .ref (ad 8)), (1, .int x1), (3, .int x3)]) hx hb dX6_holderOfNearest_95 rfl hl (by decide) rfl (fun ls hl => ?_)
          refine lv_iinc (v := (x3 + 1)) (lv' := [(3, .int (x3 + 1)), (2, .int x3), (5, .int 1), (4, .int v6), (0, .ref (ad 8)), (1, .int x1)]) hx hb dX6_holderOfNearest_96 hl (k := 5) rfl rfl (by decide) rfl (fun ls hl => ?_)
          refine lv_goto (tgt := 4) hx hb dX6_holderOfNearest_99 (by decide) ?_
          exact ih _ _ _ _ _ w (lv_sub hl [4, 5, 1, 0] rfl) hf
      · have hf := if_f hf c7
        refine lv_iload hx hb dX6_holderOfNearest_52 (lv_at hl 0 rfl) ?_
        refine lv_if_ne (tgt := 76) hx hb dX6_holderOfNearest_54 (by decide) (fun c11 => ?_) (fun c11 => ?_)
        · have hf := if_f hf c11
          refine lv_iconst (v := 0) hx hb dX6_holderOfNearest_76 (by decide) ?_
          refine lv_istore (lv' := [(5, .int 0), (4, .int v6), (0, .ref (ad 8)), (1, .int x1), (2, .int x2), (3, .int x3)]) hx hb dX6_holderOfNearest_77 hl (by decide) rfl (fun ls hl => ?_)
          refine lv_aload_n hx hb dX6_holderOfNearest_79 rfl (lv_at hl 2 rfl) ?_
          refine kget (v := .ref (ad 42)) F B w inX6_holderOfNearest_6 8 gX_8 rfl 3 (by decide) (hts (.fieldLink RX6 21 "LandReform$Rings" "fieldsGot" "[I") (by decide +kernel)) rfl rfl dX6_holderOfNearest_80 ?_
          refine lv_iload_n hx hb dX6_holderOfNearest_83 rfl (lv_at hl 5 rfl) ?_
          obtain ⟨g12, hf⟩ := if_g hf
          refine kiald F B w 42 gX_42 g12 dX6_holderOfNearest_84 ?_
          refine lv_iconst (v := (-1)) hx hb dX6_holderOfNearest_85 (by decide) ?_
          refine lv_icmp_ne (tgt := 96) hx hb dX6_holderOfNearest_86 (by decide) (fun c13 => ?_) (fun c13 => ?_)
          · have hf := if_f hf c13
            refine lv_iinc (v := (x3 + 1)) (lv' := [(3, .int (x3 + 1)), (5, .int 0), (4, .int v6), (0, .ref (ad 8)), (1, .int x1), (2, .int x2)]) hx hb dX6_holderOfNearest_96 hl (k := 5) rfl rfl (by decide) rfl (fun ls hl => ?_)
            refine lv_goto (tgt := 4) hx hb dX6_holderOfNearest_99 (by decide) ?_
            exact ih _ _ _ _ _ w (lv_sub hl [3, 4, 5, 0] rfl) hf
          · have hf := if_t hf c13
            refine lv_iload hx hb dX6_holderOfNearest_89 (lv_at hl 0 rfl) ?_
            refine lv_if_eq (tgt := 96) hx hb dX6_holderOfNearest_91 (by decide) (fun _ => ?_) (fun c => absurd (by decide) c)
            refine lv_iinc (v := (x3 + 1)) (lv' := [(3, .int (x3 + 1)), (5, .int 0), (4, .int v6), (0, .ref (ad 8)), (1, .int x1), (2, .int x2)]) hx hb dX6_holderOfNearest_96 hl (k := 5) rfl rfl (by decide) rfl (fun ls hl => ?_)
            refine lv_goto (tgt := 4) hx hb dX6_holderOfNearest_99 (by decide) ?_
            exact ih _ _ _ _ _ w (lv_sub hl [3, 4, 5, 0] rfl) hf
        · have hf := if_t hf c11
          refine lv_aload_n hx hb dX6_holderOfNearest_57 rfl (lv_at hl 1 rfl) ?_
          refine kget (v := .ref (ad 40)) F B w inX6_holderOfNearest_6 8 gX_8 rfl 1 (by decide) (hts (.fieldLink RX6 15 "LandReform$Rings" "fieldsHad" "[I") (by decide +kernel)) rfl rfl dX6_holderOfNearest_58 ?_
          refine lv_iload_n hx hb dX6_holderOfNearest_61 rfl (lv_at hl 4 rfl) ?_
          obtain ⟨g15, hf⟩ := if_g hf
          refine kiald F B w 40 gX_40 g15 dX6_holderOfNearest_62 ?_
          refine lv_aload_n hx hb dX6_holderOfNearest_63 rfl (lv_at hl 1 rfl) ?_
          refine kget (v := .ref (ad 40)) F B w inX6_holderOfNearest_6 8 gX_8 rfl 1 (by decide) (hts (.fieldLink RX6 15 "LandReform$Rings" "fieldsHad" "[I") (by decide +kernel)) rfl rfl dX6_holderOfNearest_64 ?_
          refine lv_iload_n hx hb dX6_holderOfNearest_67 rfl (lv_at hl 3 rfl) ?_
          obtain ⟨g16, hf⟩ := if_g hf
          refine kiald F B w 40 gX_40 g16 dX6_holderOfNearest_68 ?_
          refine lv_icmp_ge (tgt := 76) hx hb dX6_holderOfNearest_69 (by decide) (fun c17 => ?_) (fun c17 => ?_)
          · have hf := if_t hf c17
            refine lv_iconst (v := 0) hx hb dX6_holderOfNearest_76 (by decide) ?_
            refine lv_istore (lv' := [(5, .int 0), (4, .int v6), (0, .ref (ad 8)), (1, .int x1), (2, .int x2), (3, .int x3)]) hx hb dX6_holderOfNearest_77 hl (by decide) rfl (fun ls hl => ?_)
            refine lv_aload_n hx hb dX6_holderOfNearest_79 rfl (lv_at hl 2 rfl) ?_
            refine kget (v := .ref (ad 42)) F B w inX6_holderOfNearest_6 8 gX_8 rfl 3 (by decide) (hts (.fieldLink RX6 21 "LandReform$Rings" "fieldsGot" "[I") (by decide +kernel)) rfl rfl dX6_holderOfNearest_80 ?_
            refine lv_iload_n hx hb dX6_holderOfNearest_83 rfl (lv_at hl 5 rfl) ?_
            obtain ⟨g18, hf⟩ := if_g hf
            refine kiald F B w 42 gX_42 g18 dX6_holderOfNearest_84 ?_
            refine lv_iconst (v := (-1)) hx hb dX6_holderOfNearest_85 (by decide) ?_
            refine lv_icmp_ne (tgt := 96) hx hb dX6_holderOfNearest_86 (by decide) (fun c19 => ?_) (fun c19 => ?_)
            · have hf := if_f hf c19
              refine lv_iinc (v := (x3 + 1)) (lv' := [(3, .int (x3 + 1)), (5, .int 0), (4, .int v6), (0, .ref (ad 8)), (1, .int x1), (2, .int x2)]) hx hb dX6_holderOfNearest_96 hl (k := 5) rfl rfl (by decide) rfl (fun ls hl => ?_)
              refine lv_goto (tgt := 4) hx hb dX6_holderOfNearest_99 (by decide) ?_
              exact ih _ _ _ _ _ w (lv_sub hl [3, 4, 5, 0] rfl) hf
            · have hf := if_t hf c19
              refine lv_iload hx hb dX6_holderOfNearest_89 (lv_at hl 0 rfl) ?_
              refine lv_if_eq (tgt := 96) hx hb dX6_holderOfNearest_91 (by decide) (fun _ => ?_) (fun c => absurd (by decide) c)
              refine lv_iinc (v := (x3 + 1)) (lv' := [(3, .int (x3 + 1)), (5, .int 0), (4, .int v6), (0, .ref (ad 8)), (1, .int x1), (2, .int x2)]) hx hb dX6_holderOfNearest_96 hl (k := 5) rfl rfl (by decide) rfl (fun ls hl => ?_)
              refine lv_goto (tgt := 4) hx hb dX6_holderOfNearest_99 (by decide) ?_
              exact ih _ _ _ _ _ w (lv_sub hl [3, 4, 5, 0] rfl) hf
          · have hf := if_f hf c17
            refine lv_iconst (v := 1) hx hb dX6_holderOfNearest_72 (by decide) ?_
            refine lv_goto (tgt := 77) hx hb dX6_holderOfNearest_73 (by decide) ?_
            refine lv_istore (lv' := [(5, .int 1), (4, .int v6), (0, .ref (ad 8)), (1, .int x1), (2, .int x2), (3, .int x3)]) hx hb dX6_holderOfNearest_77 hl (by decide) rfl (fun ls hl => ?_)
            refine lv_aload_n hx hb dX6_holderOfNearest_79 rfl (lv_at hl 2 rfl) ?_
            refine kget (v := .ref (ad 42)) F B w inX6_holderOfNearest_6 8 gX_8 rfl 3 (by decide) (hts (.fieldLink RX6 21 "LandReform$Rings" "fieldsGot" "[I") (by decide +kernel)) rfl rfl dX6_holderOfNearest_80 ?_
            refine lv_iload_n hx hb dX6_holderOfNearest_83 rfl (lv_at hl 5 rfl) ?_
            obtain ⟨g21, hf⟩ := if_g hf
            refine kiald F B w 42 gX_42 g21 dX6_holderOfNearest_84 ?_
            refine lv_iconst (v := (-1)) hx hb dX6_holderOfNearest_85 (by decide) ?_
            refine lv_icmp_ne (tgt := 96) hx hb dX6_holderOfNearest_86 (by decide) (fun c22 => ?_) (fun c22 => ?_)
            · have hf := if_f hf c22
              refine lv_iinc (v := (x3 + 1)) (lv' := [(3, .int (x3 + 1)), (5, .int 1), (4, .int v6), (0, .ref (ad 8)), (1, .int x1), (2, .int x2)]) hx hb dX6_holderOfNearest_96 hl (k := 5) rfl rfl (by decide) rfl (fun ls hl => ?_)
              refine lv_goto (tgt := 4) hx hb dX6_holderOfNearest_99 (by decide) ?_
              exact ih _ _ _ _ _ w (lv_sub hl [3, 4, 5, 0] rfl) hf
            · have hf := if_t hf c22
              refine lv_iload hx hb dX6_holderOfNearest_89 (lv_at hl 0 rfl) ?_
              refine lv_if_eq (tgt := 96) hx hb dX6_holderOfNearest_91 (by decide) (fun c => absurd c (by decide)) (fun _ => ?_)
              refine lv_iload_n hx hb dX6_holderOfNearest_94 rfl (lv_at hl 5 rfl) ?_
              refine lv_istore_n (lv' := [(2, .int x3), (5, .int 1), (4, .int v6), (0, .ref (ad 8)), (1, .int x1), (3, .int x3)]) hx hb dX6_holderOfNearest_95 rfl hl (by decide) rfl (fun ls hl => ?_)
              refine lv_iinc (v := (x3 + 1)) (lv' := [(3, .int (x3 + 1)), (2, .int x3), (5, .int 1), (4, .int v6), (0, .ref (ad 8)), (1, .int x1)]) hx hb dX6_holderOfNearest_96 hl (k := 5) rfl rfl (by decide) rfl (fun ls hl => ?_)
              refine lv_goto (tgt := 4) hx hb dX6_holderOfNearest_99 (by decide) ?_
              exact ih _ _ _ _ _ w (lv_sub hl [4, 5, 1, 0] rfl) hf
set_option maxHeartbeats 4000000 in
set_option maxRecDepth 100000 in
theorem tX6_holderOfNearest {l : Launch} {D : va_G} {cc : Nat → ClassId} {ak av : Nat → Nat} {ad : Nat → Nat} {g : Nat → Option Nat} {E : va_W} {n : Nat} {S : St} {x1 : Int32} {r : Int32} (hf : fX6_holderOfNearest n S x1 = some r) : CI l yX6_holderOfNearest wsX6_holderOfNearest ({ frames := 1, cells := 0, slots := 0, locals := 21 } : Room) D cc ak av [.ref (ad 8), .int x1] (WX cc ad g S ++ E) (WX cc ad g S ++ E) r := by
  refine mkI (c0 := cX6_holderOfNearest) (nL := 6) (own := RX6) rfl rfl (by decide) rfl rfl (Nat.le_of_ble_eq_true rfl) ?_
  intro p e s m args below meth c A Q ls F B hQ hl w
  have hx := F.1
  have hb := F.2.1
  have hown := F.2.2.2.1
  have hts := F.2.2.2.2
  have hl : lv_has ls 6 [(0, .ref (ad 8)), (1, .int x1)] := hl
  unfold fX6_holderOfNearest at hf
  refine lv_iload_n hx hb dX6_holderOfNearest_0 rfl (lv_at hl 1 rfl) ?_
  refine lv_istore_n (lv' := [(2, .int x1), (0, .ref (ad 8)), (1, .int x1)]) hx hb dX6_holderOfNearest_1 rfl hl (by decide) rfl (fun ls hl => ?_)
  refine lv_iconst (v := 0) hx hb dX6_holderOfNearest_2 (by decide) ?_
  refine lv_istore_n (lv' := [(3, .int 0), (2, .int x1), (0, .ref (ad 8)), (1, .int x1)]) hx hb dX6_holderOfNearest_3 rfl hl (by decide) rfl (fun ls hl => ?_)
  refine wX6_holderOfNearest_L4 F B hQ (fun x24 x25 H locs ls w hl hf => ?_) n _ _ _ _ _ w (lv_sub hl [2, 3, 1, 0] rfl) hf
  refine lv_iload_n hx hb dX6_holderOfNearest_102 rfl (lv_at hl 2 rfl) ?_
  cases hf
  exact hQ _ _ _ _ dX6_holderOfNearest_103 w

def fX6_point_L2 (n : Nat) (k : Int32 → St → Option St) : Nat → Int32 → St → Option St
  | 0, _, _ => none
  | fu + 1, x1, S => if (S.1 19) ≤ x1 then (k x1 S) else (if x1 < 0 ∨ 8 ≤ Int32.toNatClampNeg x1 then none else if (S.2.1 28 (Int32.toNatClampNeg x1)) = (-1) then (ob (fX6_holderOfNearest n S x1) fun r4 => if x1 < 0 ∨ 8 ≤ Int32.toNatClampNeg x1 then none else lt_ (sA S 29 (Int32.toNatClampNeg x1) r4) fun S6 => fX6_point_L2 n k fu (x1 + 1) S6) else (fX6_point_L2 n k fu (x1 + 1) S))
def fX6_point (n : Nat) (S : St) : Option St := fX6_point_L2 n (fun x7 S8 => some S8) n 0 S
set_option maxRecDepth 20000 in
theorem inX6_point_6 : ∀ w ∈ u_ws RX6 TX6 7, w ∈ wsX6_point := by decide +kernel
set_option maxHeartbeats 4000000 in
set_option maxRecDepth 100000 in
theorem wX6_point_L2 {p : Program} {l : Launch} {e : Env} {s : State} {m : MethodId} {args : Array Value} {below : List Frame} {meth : Method} {c : Code} {Q : State → Prop} {D : va_G} {cc : Nat → ClassId} {ak av : Nat → Nat} {A : Nat → Prop} {ad : Nat → Nat} {g : Nat → Option Nat} {E : va_W} {n : Nat} {S' : St} {k : Int32 → St → Option St} (F : CallFix p m c cX6_point 2 s args wsX6_point RX6) (B : Bd D cc ak av A s) (hQ : RetV p l e ({ frames := 2, cells := 0, slots := 0, locals := 46 } : Room) s m args below meth c D A Q cX6_point (WX cc ad g S' ++ E))
    (hk : ∀ (x1 : Int32) (S : St) (H : Heap) (locs : List Loc) (ls : Array Slot), Wd D A s.heap H locs (WX cc ad g S ++ E) → lv_has ls 2 [(0, .ref (ad 8)), (1, .int x1)] → k x1 S = some S' → W p l e ({ frames := 2, cells := 0, slots := 0, locals := 46 } : Room) s m args below meth c H locs 0 0 Q (F0 m 37 ls [])) :
    ∀ (fu : Nat) (x1 : Int32) (S : St) (H : Heap) (locs : List Loc) (ls : Array Slot), Wd D A s.heap H locs (WX cc ad g S ++ E) → lv_has ls 2 [(0, .ref (ad 8)), (1, .int x1)] → fX6_point_L2 n k fu x1 S = some S' → W p l e ({ frames := 2, cells := 0, slots := 0, locals := 46 } : Room) s m args below meth c H locs 0 0 Q (F0 m 2 ls []) := by
  have hx := F.1
  have hb := F.2.1
  have hown := F.2.2.2.1
  have hts := F.2.2.2.2
  intro fu
  induction fu with
  | zero => intro x1 S H locs ls w hl hf; rw [fX6_point_L2] at hf; cases hf
  | succ fu ih =>
    intro x1 S H locs ls w hl hf
    rw [fX6_point_L2] at hf
    refine lv_iload_n hx hb dX6_point_2 rfl (lv_at hl 1 rfl) ?_
    refine lv_aload_n hx hb dX6_point_3 rfl (lv_at hl 0 rfl) ?_
    refine kget (v := .int (S.1 19)) F B w inX6_point_6 8 gX_8 rfl 5 (by decide) (hts (.fieldLink RX6 36 "LandReform$Rings" "size" "I") (by decide +kernel)) rfl rfl dX6_point_4 ?_
    refine lv_icmp_ge (tgt := 37) hx hb dX6_point_7 (by decide) (fun c1 => ?_) (fun c1 => ?_)
    · have hf := if_t hf c1
      exact hk _ _ _ _ _ w (lv_sub hl [0, 1] rfl) hf
    · have hf := if_f hf c1
      refine lv_aload_n hx hb dX6_point_10 rfl (lv_at hl 0 rfl) ?_
      refine kget (v := .ref (ad 42)) F B w inX6_point_6 8 gX_8 rfl 3 (by decide) (hts (.fieldLink RX6 21 "LandReform$Rings" "fieldsGot" "[I") (by decide +kernel)) rfl rfl dX6_point_11 ?_
      refine lv_iload_n hx hb dX6_point_14 rfl (lv_at hl 1 rfl) ?_
      obtain ⟨g2, hf⟩ := if_g hf
      refine kiald F B w 42 gX_42 g2 dX6_point_15 ?_
      refine lv_iconst (v := (-1)) hx hb dX6_point_16 (by decide) ?_
      refine lv_icmp_ne (tgt := 31) hx hb dX6_point_17 (by decide) (fun c3 => ?_) (fun c3 => ?_)
      · have hf := if_f hf c3
        refine lv_iinc (v := (x1 + 1)) (lv' := [(1, .int (x1 + 1)), (0, .ref (ad 8))]) hx hb dX6_point_31 hl (k := 1) rfl rfl (by decide) rfl (fun ls hl => ?_)
        refine lv_goto (tgt := 2) hx hb dX6_point_34 (by decide) ?_
        exact ih _ _ _ _ _ w (lv_sub hl [1, 0] rfl) hf
      · have hf := if_t hf c3
        refine lv_aload_n hx hb dX6_point_20 rfl (lv_at hl 0 rfl) ?_
        refine kget (v := .ref (ad 43)) F B w inX6_point_6 8 gX_8 rfl 4 (by decide) (hts (.fieldLink RX6 24 "LandReform$Rings" "pointedAt" "[I") (by decide +kernel)) rfl rfl dX6_point_21 ?_
        refine lv_iload_n hx hb dX6_point_24 rfl (lv_at hl 1 rfl) ?_
        refine lv_aload_n hx hb dX6_point_25 rfl (lv_at hl 0 rfl) ?_
        refine lv_iload_n hx hb dX6_point_26 rfl (lv_at hl 1 rfl) ?_
        obtain ⟨r4, er4, hf⟩ := ob_e hf
        refine kVi (As := [.int x1]) (rest := [.int x1, .ref (ad 43)]) F B w (tX6_holderOfNearest er4) (cwV 1 hts gX6_point_X6_holderOfNearest rfl rfl rfl (by decide +kernel) ⟨Nat.le_of_ble_eq_true rfl, Nat.le_of_ble_eq_true rfl⟩) 8 gX_8 rfl rfl hl.1 rfl (Nat.le_of_ble_eq_true rfl) dX6_point_27 ⟨Nat.le_of_ble_eq_true rfl, Nat.le_of_ble_eq_true rfl⟩ (fun H locs w => ?_)
        obtain ⟨g5, hf⟩ := if_g hf
        refine kiast F B w 43 gX_43 g5 bX_43 dX6_point_30 (fun H locs w => ?_)
        obtain ⟨S6, eS6⟩ : ∃ z, z = sA S 29 (Int32.toNatClampNeg x1) r4 := ⟨_, rfl⟩
        rw [← eS6] at w
        have hf := lt_e hf eS6
        refine lv_iinc (v := (x1 + 1)) (lv' := [(1, .int (x1 + 1)), (0, .ref (ad 8))]) hx hb dX6_point_31 hl (k := 1) rfl rfl (by decide) rfl (fun ls hl => ?_)
        refine lv_goto (tgt := 2) hx hb dX6_point_34 (by decide) ?_
        exact ih _ _ _ _ _ w (lv_sub hl [1, 0] rfl) hf
set_option maxHeartbeats 4000000 in
set_option maxRecDepth 100000 in
theorem tX6_point {l : Launch} {D : va_G} {cc : Nat → ClassId} {ak av : Nat → Nat} {ad : Nat → Nat} {g : Nat → Option Nat} {E : va_W} {n : Nat} {S : St} {S' : St} (hf : fX6_point n S = some S') : CV l yX6_point wsX6_point ({ frames := 2, cells := 0, slots := 0, locals := 46 } : Room) D cc ak av [.ref (ad 8)] (WX cc ad g S ++ E) (WX cc ad g S' ++ E) := by
  refine mkV (c0 := cX6_point) (nL := 2) (own := RX6) rfl rfl (by decide) rfl rfl (Nat.le_of_ble_eq_true rfl) ?_
  intro p e s m args below meth c A Q ls F B hQ hl w
  have hx := F.1
  have hb := F.2.1
  have hown := F.2.2.2.1
  have hts := F.2.2.2.2
  have hl : lv_has ls 2 [(0, .ref (ad 8))] := hl
  unfold fX6_point at hf
  refine lv_iconst (v := 0) hx hb dX6_point_0 (by decide) ?_
  refine lv_istore_n (lv' := [(1, .int 0), (0, .ref (ad 8))]) hx hb dX6_point_1 rfl hl (by decide) rfl (fun ls hl => ?_)
  refine wX6_point_L2 F B hQ (fun x7 S8 H locs ls w hl hf => ?_) n _ _ _ _ _ w (lv_sub hl [1, 0] rfl) hf
  cases hf
  exact hQ _ _ _ _ dX6_point_37 w
