def fX1_countOwners_L20 (n : Nat) (k : Int32 → St → Option St) : Nat → Int32 → St → Option St
  | 0, _, _ => none
  | fu + 1, x4, S => if (S.1 4) ≤ x4 then (k x4 S) else (if x4 < 0 ∨ 200 ≤ Int32.toNatClampNeg x4 then none else lt_ (S.2.1 8 (Int32.toNatClampNeg x4)) fun v5 => if x4 < 0 ∨ 200 ≤ Int32.toNatClampNeg x4 then none else lt_ (S.2.1 9 (Int32.toNatClampNeg x4)) fun v7 => ob (fX10_isBelow v5 (S.1 3)) fun r8 => if r8 = 0 then (fX1_countOwners_L20 n k fu (x4 + 1) S) else (if x4 < 0 ∨ 200 ≤ Int32.toNatClampNeg x4 then none else if (S.1 23) < (S.2.1 10 (Int32.toNatClampNeg x4)) then (if v5 < 0 ∨ 60 ≤ Int32.toNatClampNeg v5 then none else ob (fX4_areOfOneFamily S v7 (S.2.1 12 (Int32.toNatClampNeg v5))) fun r14 => if r14 = 0 then (if v5 < 0 ∨ 60 ≤ Int32.toNatClampNeg v5 then none else lt_ (sA S 12 (Int32.toNatClampNeg v5) v7) fun S17 => fX1_countOwners_L20 n k fu (x4 + 1) S17) else (fX1_countOwners_L20 n k fu (x4 + 1) S)) else (if v5 < 0 ∨ 60 ≤ Int32.toNatClampNeg v5 then none else lt_ (sA S 12 (Int32.toNatClampNeg v5) v7) fun S20 => fX1_countOwners_L20 n k fu (x4 + 1) S20)))
def fX1_countOwners (n : Nat) (S : St) : Option St := if (S.1 3) < 0 ∨ 60 < Int32.toNatClampNeg (S.1 3) ∨ 60 < Int32.toNatClampNeg (S.1 3) then none else lt_ (sR S 12 (va_cpy (S.2.1 6) (S.2.1 12) 0 0 (Int32.toNatClampNeg (S.1 3)))) fun S2 => fX1_countOwners_L20 n (fun x21 S22 => some S22) n 0 S2
set_option maxRecDepth 20000 in
theorem inX1_countOwners_1 : ∀ w ∈ u_ws RX1 TX1 10, w ∈ wsX1_countOwners := by decide +kernel
set_option maxRecDepth 20000 in
theorem inX1_countOwners_2 : ∀ w ∈ u_ws RX2 TX2 12, w ∈ wsX1_countOwners := by decide +kernel
set_option maxRecDepth 20000 in
theorem inX1_countOwners_3 : ∀ w ∈ u_ws RX3 TX3 9, w ∈ wsX1_countOwners := by decide +kernel
set_option maxHeartbeats 4000000 in
set_option maxRecDepth 100000 in
theorem wX1_countOwners_L20 {p : Program} {l : Launch} {e : Env} {s : State} {m : MethodId} {args : Array Value} {below : List Frame} {meth : Method} {c : Code} {Q : State → Prop} {D : va_G} {cc : Nat → ClassId} {ak av : Nat → Nat} {A : Nat → Prop} {ad : Nat → Nat} {g : Nat → Option Nat} {E : va_W} {n : Nat} {S' : St} {k : Int32 → St → Option St} (F : CallFix p m c cX1_countOwners 8 s args wsX1_countOwners RX1) (B : Bd D cc ak av A s) (hQ : RetV p l e ({ frames := 4, cells := 0, slots := 0, locals := 86 } : Room) s m args below meth c D A Q cX1_countOwners (WX cc ad g S' ++ E))
    (hk : ∀ (x4 : Int32) (S : St) (H : Heap) (locs : List Loc) (ls : Array Slot), Wd D A s.heap H locs (WX cc ad g S ++ E) → lv_has ls 8 [(0, .ref (ad 5)), (1, .ref (ad 2)), (2, .ref (ad 1)), (3, .ref (ad 10)), (4, .int x4)] → k x4 S = some S' → W p l e ({ frames := 4, cells := 0, slots := 0, locals := 86 } : Room) s m args below meth c H locs 0 0 Q (F0 m 119 ls [])) :
    ∀ (fu : Nat) (x4 : Int32) (S : St) (H : Heap) (locs : List Loc) (ls : Array Slot), Wd D A s.heap H locs (WX cc ad g S ++ E) → lv_has ls 8 [(0, .ref (ad 5)), (1, .ref (ad 2)), (2, .ref (ad 1)), (3, .ref (ad 10)), (4, .int x4)] → fX1_countOwners_L20 n k fu x4 S = some S' → W p l e ({ frames := 4, cells := 0, slots := 0, locals := 86 } : Room) s m args below meth c H locs 0 0 Q (F0 m 20 ls []) := by
  have hx := F.1
  have hb := F.2.1
  have hown := F.2.2.2.1
  have hts := F.2.2.2.2
  intro fu
  induction fu with
  | zero => intro x4 S H locs ls w hl hf; rw [fX1_countOwners_L20] at hf; cases hf
  | succ fu ih =>
    intro x4 S H locs ls w hl hf
    rw [fX1_countOwners_L20] at hf
    refine lv_iload hx hb dX1_countOwners_20 (lv_at hl 4 rfl) ?_
    refine lv_aload_n hx hb dX1_countOwners_22 rfl (lv_at hl 1 rfl) ?_
    refine kgetN (v := .int (S.1 4)) F B w inX1_countOwners_2 2 gX_2 rfl 10 (by decide) (B.2.1.f 26 rfl) rfl rfl dX1_countOwners_23 ?_
    refine lv_icmp_ge (tgt := 119) hx hb dX1_countOwners_26 (by decide) (fun c3 => ?_) (fun c3 => ?_)
    · have hf := if_t hf c3
      exact hk _ _ _ _ _ w (lv_sub hl [0, 1, 2, 3, 4] rfl) hf
    · have hf := if_f hf c3
      refine lv_aload_n hx hb dX1_countOwners_29 rfl (lv_at hl 1 rfl) ?_
      refine kgetN (v := .ref (ad 21)) F B w inX1_countOwners_2 2 gX_2 rfl 7 (by decide) (B.2.1.f 27 rfl) rfl rfl dX1_countOwners_30 ?_
      refine lv_iload hx hb dX1_countOwners_33 (lv_at hl 4 rfl) ?_
      obtain ⟨g4, hf⟩ := if_g hf
      refine kiald F B w 21 gX_21 g4 dX1_countOwners_35 ?_
      refine lv_topi (fun v5 ev5 => ?_)
      have hf := lt_e hf ev5
      refine lv_istore (lv' := [(5, .int v5), (0, .ref (ad 5)), (1, .ref (ad 2)), (2, .ref (ad 1)), (3, .ref (ad 10)), (4, .int x4)]) hx hb dX1_countOwners_36 hl (by decide) rfl (fun ls hl => ?_)
      refine lv_aload_n hx hb dX1_countOwners_38 rfl (lv_at hl 2 rfl) ?_
      refine kgetN (v := .ref (ad 22)) F B w inX1_countOwners_2 2 gX_2 rfl 8 (by decide) (B.2.1.f 28 rfl) rfl rfl dX1_countOwners_39 ?_
      refine lv_iload hx hb dX1_countOwners_42 (lv_at hl 5 rfl) ?_
      obtain ⟨g6, hf⟩ := if_g hf
      refine kiald F B w 22 gX_22 g6 dX1_countOwners_44 ?_
      refine lv_topi (fun v7 ev7 => ?_)
      have hf := lt_e hf ev7
      refine lv_istore (lv' := [(6, .int v7), (5, .int v5), (0, .ref (ad 5)), (1, .ref (ad 2)), (2, .ref (ad 1)), (3, .ref (ad 10)), (4, .int x4)]) hx hb dX1_countOwners_45 hl (by decide) rfl (fun ls hl => ?_)
      refine lv_iload hx hb dX1_countOwners_47 (lv_at hl 1 rfl) ?_
      refine lv_aload_n hx hb dX1_countOwners_49 rfl (lv_at hl 3 rfl) ?_
      refine kgetN (v := .int (S.1 3)) F B w inX1_countOwners_2 2 gX_2 rfl 6 (by decide) (B.2.1.f 24 rfl) rfl rfl dX1_countOwners_50 ?_
      obtain ⟨r8, er8, hf⟩ := ob_e hf
      refine kSNi (As := [.int v5, .int (S.1 3)]) (rest := []) F B w (tX10_isBelow er8) ⟨va_cnB 2 hts gX1_countOwners_X10_isBelow_n34 rfl rfl rfl (B.2.1.m 8 rfl) (hts (.initialized RX10) (by decide +kernel)) (by decide +kernel) ⟨Nat.le_of_ble_eq_true rfl, Nat.le_of_ble_eq_true rfl⟩, hts (.static yX10_isBelow) (by decide +kernel), trivial⟩ rfl hl.1 rfl (Nat.le_of_ble_eq_true rfl) dX1_countOwners_53 ⟨Nat.le_of_ble_eq_true rfl, Nat.le_of_ble_eq_true rfl⟩ (fun H locs w => ?_)
      refine lv_if_ne (tgt := 62) hx hb dX1_countOwners_56 (by decide) (fun c9 => ?_) (fun c9 => ?_)
      · have hf := if_f hf c9
        refine lv_aload_n hx hb dX1_countOwners_62 rfl (lv_at hl 3 rfl) ?_
        refine kgetN (v := .ref (ad 23)) F B w inX1_countOwners_2 2 gX_2 rfl 9 (by decide) (B.2.1.f 29 rfl) rfl rfl dX1_countOwners_63 ?_
        refine lv_iload hx hb dX1_countOwners_66 (lv_at hl 6 rfl) ?_
        obtain ⟨g10, hf⟩ := if_g hf
        refine kiald F B w 23 gX_23 g10 dX1_countOwners_68 ?_
        refine lv_aload_n hx hb dX1_countOwners_69 rfl (lv_at hl 5 rfl) ?_
        refine kgetN (v := .int (S.1 23)) F B w inX1_countOwners_3 10 gX_10 rfl 3 (by decide) (B.2.1.f 30 rfl) rfl rfl dX1_countOwners_70 ?_
        refine lv_icmp_gt (tgt := 80) hx hb dX1_countOwners_73 (by decide) (fun c11 => ?_) (fun c11 => ?_)
        · have hf := if_t hf c11
          refine lv_iconst (v := 0) hx hb dX1_countOwners_80 (by decide) ?_
          refine lv_istore (lv' := [(7, .int 0), (6, .int v7), (5, .int v5), (0, .ref (ad 5)), (1, .ref (ad 2)), (2, .ref (ad 1)), (3, .ref (ad 10)), (4, .int x4)]) hx hb dX1_countOwners_81 hl (by decide) rfl (fun ls hl => ?_)
          refine lv_iload hx hb dX1_countOwners_83 (lv_at hl 0 rfl) ?_
          refine lv_if_ne (tgt := 104) hx hb dX1_countOwners_85 (by decide) (fun c => absurd (by decide) c) (fun _ => ?_)
          refine lv_aload_n hx hb dX1_countOwners_88 rfl (lv_at hl 5 rfl) ?_
          refine lv_iload hx hb dX1_countOwners_89 (lv_at hl 1 rfl) ?_
          refine lv_aload_n hx hb dX1_countOwners_91 rfl (lv_at hl 3 rfl) ?_
          refine kget (v := .ref (ad 25)) F B w inX1_countOwners_1 5 gX_5 rfl 0 (by decide) (hts (.fieldLink RX1 9 "LandReform$Holding" "countedOwners" "[I") (by decide +kernel)) rfl rfl dX1_countOwners_92 ?_
          refine lv_iload hx hb dX1_countOwners_95 (lv_at hl 2 rfl) ?_
          obtain ⟨g13, hf⟩ := if_g hf
          refine kiald F B w 25 gX_25 g13 dX1_countOwners_97 ?_
          obtain ⟨r14, er14, hf⟩ := ob_e hf
          refine kVi (As := [.int v7, .int (S.2.1 12 (Int32.toNatClampNeg v5))]) (rest := []) F B w (tX4_areOfOneFamily er14) (cwV 2 hts gX1_countOwners_X4_areOfOneFamily rfl rfl rfl (by decide +kernel) ⟨Nat.le_of_ble_eq_true rfl, Nat.le_of_ble_eq_true rfl⟩) 1 gX_1 rfl rfl hl.1 rfl (Nat.le_of_ble_eq_true rfl) dX1_countOwners_98 ⟨Nat.le_of_ble_eq_true rfl, Nat.le_of_ble_eq_true rfl⟩ (fun H locs w => ?_)
          refine lv_if_ne (tgt := 113) hx hb dX1_countOwners_101 (by decide) (fun c15 => ?_) (fun c15 => ?_)
          · have hf := if_f hf c15
            refine lv_iinc (v := (x4 + 1)) (lv' := [(4, .int (x4 + 1)), (7, .int 0), (6, .int v7), (5, .int v5), (0, .ref (ad 5)), (1, .ref (ad 2)), (2, .ref (ad 1)), (3, .ref (ad 10))]) hx hb dX1_countOwners_113 hl (k := 7) rfl rfl (by decide) rfl (fun ls hl => ?_)
            refine lv_goto (tgt := 20) hx hb dX1_countOwners_116 (by decide) ?_
            exact ih _ _ _ _ _ w (lv_sub hl [4, 5, 6, 7, 0] rfl) hf
          · have hf := if_t hf c15
            refine lv_aload_n hx hb dX1_countOwners_104 rfl (lv_at hl 3 rfl) ?_
            refine kget (v := .ref (ad 25)) F B w inX1_countOwners_1 5 gX_5 rfl 0 (by decide) (hts (.fieldLink RX1 9 "LandReform$Holding" "countedOwners" "[I") (by decide +kernel)) rfl rfl dX1_countOwners_105 ?_
            refine lv_iload hx hb dX1_countOwners_108 (lv_at hl 2 rfl) ?_
            refine lv_iload hx hb dX1_countOwners_110 (lv_at hl 1 rfl) ?_
            obtain ⟨g16, hf⟩ := if_g hf
            refine kiast F B w 25 gX_25 g16 bX_25 dX1_countOwners_112 (fun H locs w => ?_)
            obtain ⟨S17, eS17⟩ : ∃ z, z = sA S 12 (Int32.toNatClampNeg v5) v7 := ⟨_, rfl⟩
            rw [← eS17] at w
            have hf := lt_e hf eS17
            refine lv_iinc (v := (x4 + 1)) (lv' := [(4, .int (x4 + 1)), (7, .int 0), (6, .int v7), (5, .int v5), (0, .ref (ad 5)), (1, .ref (ad 2)), (2, .ref (ad 1)), (3, .ref (ad 10))]) hx hb dX1_countOwners_113 hl (k := 7) rfl rfl (by decide) rfl (fun ls hl => ?_)
            refine lv_goto (tgt := 20) hx hb dX1_countOwners_116 (by decide) ?_
            exact ih _ _ _ _ _ w (lv_sub hl [4, 5, 6, 7, 0] rfl) hf
        · have hf := if_f hf c11
          refine lv_iconst (v := 1) hx hb dX1_countOwners_76 (by decide) ?_
          refine lv_goto (tgt := 81) hx hb dX1_countOwners_77 (by decide) ?_
          refine lv_istore (lv' := [(7, .int 1), (6, .int v7), (5, .int v5), (0, .ref (ad 5)), (1, .ref (ad 2)), (2, .ref (ad 1)), (3, .ref (ad 10)), (4, .int x4)]) hx hb dX1_countOwners_81 hl (by decide) rfl (fun ls hl => ?_)
          refine lv_iload hx hb dX1_countOwners_83 (lv_at hl 0 rfl) ?_
          refine lv_if_ne (tgt := 104) hx hb dX1_countOwners_85 (by decide) (fun _ => ?_) (fun c => absurd c (by decide))
          refine lv_aload_n hx hb dX1_countOwners_104 rfl (lv_at hl 3 rfl) ?_
          refine kget (v := .ref (ad 25)) F B w inX1_countOwners_1 5 gX_5 rfl 0 (by decide) (hts (.fieldLink RX1 9 "LandReform$Holding" "countedOwners" "[I") (by decide +kernel)) rfl rfl dX1_countOwners_105 ?_
          refine lv_iload hx hb dX1_countOwners_108 (lv_at hl 2 rfl) ?_
          refine lv_iload hx hb dX1_countOwners_110 (lv_at hl 1 rfl) ?_
          obtain ⟨g19, hf⟩ := if_g hf
          refine kiast F B w 25 gX_25 g19 bX_25 dX1_countOwners_112 (fun H locs w => ?_)
          obtain ⟨S20, eS20⟩ : ∃ z, z = sA S 12 (Int32.toNatClampNeg v5) v7 := ⟨_, rfl⟩
          rw [← eS20] at w
          have hf := lt_e hf eS20
          refine lv_iinc (v := (x4 + 1)) (lv' := [(4, .int (x4 + 1)), (7, .int 1), (6, .int v7), (5, .int v5), (0, .ref (ad 5)), (1, .ref (ad 2)), (2, .ref (ad 1)), (3, .ref (ad 10))]) hx hb dX1_countOwners_113 hl (k := 7) rfl rfl (by decide) rfl (fun ls hl => ?_)
          refine lv_goto (tgt := 20) hx hb dX1_countOwners_116 (by decide) ?_
          exact ih _ _ _ _ _ w (lv_sub hl [4, 5, 6, 7, 0] rfl) hf
      · have hf := if_t hf c9
        refine lv_goto (tgt := 113) hx hb dX1_countOwners_59 (by decide) ?_
        refine lv_iinc (v := (x4 + 1)) (lv' := [(4, .int (x4 + 1)), (6, .int v7), (5, .int v5), (0, .ref (ad 5)), (1, .ref (ad 2)), (2, .ref (ad 1)), (3, .ref (ad 10))]) hx hb dX1_countOwners_113 hl (k := 6) rfl rfl (by decide) rfl (fun ls hl => ?_)
        refine lv_goto (tgt := 20) hx hb dX1_countOwners_116 (by decide) ?_
        exact ih _ _ _ _ _ w (lv_sub hl [3, 4, 5, 6, 0] rfl) hf
set_option maxHeartbeats 4000000 in
set_option maxRecDepth 100000 in
theorem tX1_countOwners {l : Launch} {D : va_G} {cc : Nat → ClassId} {ak av : Nat → Nat} {ad : Nat → Nat} {g : Nat → Option Nat} {E : va_W} {n : Nat} {S : St} {S' : St} (hf : fX1_countOwners n S = some S') : CV l yX1_countOwners wsX1_countOwners ({ frames := 4, cells := 0, slots := 0, locals := 86 } : Room) D cc ak av [.ref (ad 5), .ref (ad 2), .ref (ad 1), .ref (ad 10)] (WX cc ad g S ++ E) (WX cc ad g S' ++ E) := by
  refine mkV (c0 := cX1_countOwners) (nL := 8) (own := RX1) rfl rfl (by decide) rfl rfl (Nat.le_of_ble_eq_true rfl) ?_
  intro p e s m args below meth c A Q ls F B hQ hl w
  have hx := F.1
  have hb := F.2.1
  have hown := F.2.2.2.1
  have hts := F.2.2.2.2
  have hl : lv_has ls 8 [(0, .ref (ad 5)), (1, .ref (ad 2)), (2, .ref (ad 1)), (3, .ref (ad 10))] := hl
  unfold fX1_countOwners at hf
  refine lv_aload_n hx hb dX1_countOwners_0 rfl (lv_at hl 1 rfl) ?_
  refine kgetN (v := .ref (ad 19)) F B w inX1_countOwners_2 2 gX_2 rfl 4 (by decide) (B.2.1.f 25 rfl) rfl rfl dX1_countOwners_1 ?_
  refine lv_iconst (v := 0) hx hb dX1_countOwners_4 (by decide) ?_
  refine lv_aload_n hx hb dX1_countOwners_5 rfl (lv_at hl 0 rfl) ?_
  refine kget (v := .ref (ad 25)) F B w inX1_countOwners_1 5 gX_5 rfl 0 (by decide) (hts (.fieldLink RX1 9 "LandReform$Holding" "countedOwners" "[I") (by decide +kernel)) rfl rfl dX1_countOwners_6 ?_
  refine lv_iconst (v := 0) hx hb dX1_countOwners_9 (by decide) ?_
  refine lv_aload_n hx hb dX1_countOwners_10 rfl (lv_at hl 1 rfl) ?_
  refine kgetN (v := .int (S.1 3)) F B w inX1_countOwners_2 2 gX_2 rfl 6 (by decide) (B.2.1.f 24 rfl) rfl rfl dX1_countOwners_11 ?_
  obtain ⟨g1, hf⟩ := if_g hf
  refine kcopy F B w hl.1 (hts (.methodLink RX1 41 arraycopyName) (by decide +kernel)) (hts (.native arraycopyName) (by decide +kernel)) (hts (.static arraycopyName) (by decide +kernel)) (hts (.initialized "java/lang/System") (by decide +kernel)) 19 25 gX_19 gX_25 g1 (Nat.le_of_ble_eq_true rfl) (by decide +kernel) aX_25 dX1_countOwners_14 (fun H locs w => ?_)
  obtain ⟨S2, eS2⟩ : ∃ z, z = sR S 12 (va_cpy (S.2.1 6) (S.2.1 12) 0 0 (Int32.toNatClampNeg (S.1 3))) := ⟨_, rfl⟩
  rw [← eS2] at w
  have hf := lt_e hf eS2
  refine lv_iconst (v := 0) hx hb dX1_countOwners_17 (by decide) ?_
  refine lv_istore (lv' := [(4, .int 0), (0, .ref (ad 5)), (1, .ref (ad 2)), (2, .ref (ad 1)), (3, .ref (ad 10))]) hx hb dX1_countOwners_18 hl (by decide) rfl (fun ls hl => ?_)
  refine wX1_countOwners_L20 F B hQ (fun x21 S22 H locs ls w hl hf => ?_) n _ _ _ _ _ w (lv_sub hl [1, 2, 3, 4, 0] rfl) hf
  cases hf
  exact hQ _ _ _ _ dX1_countOwners_119 w

def fX1_countedOwner (n : Nat) (S : St) (x1 : Int32) : Option (Int32 × St) := ob (fX1_countOwners n S) fun S2 => ob (fX10_isBelow x1 (S2.1 3)) fun r3 => if r3 = 0 then (some ((-1), S2)) else (if x1 < 0 ∨ 60 ≤ Int32.toNatClampNeg x1 then none else some ((S2.2.1 12 (Int32.toNatClampNeg x1)), S2))
set_option maxRecDepth 20000 in
theorem inX1_countedOwner_1 : ∀ w ∈ u_ws RX1 TX1 10, w ∈ wsX1_countedOwner := by decide +kernel
set_option maxRecDepth 20000 in
theorem inX1_countedOwner_2 : ∀ w ∈ u_ws RX2 TX2 12, w ∈ wsX1_countedOwner := by decide +kernel
set_option maxHeartbeats 4000000 in
set_option maxRecDepth 100000 in
theorem tX1_countedOwner {l : Launch} {D : va_G} {cc : Nat → ClassId} {ak av : Nat → Nat} {ad : Nat → Nat} {g : Nat → Option Nat} {E : va_W} {n : Nat} {S : St} {x1 : Int32} {r : Int32} {S' : St} (hf : fX1_countedOwner n S x1 = some (r, S')) : CI l yX1_countedOwner wsX1_countedOwner ({ frames := 5, cells := 0, slots := 0, locals := 113 } : Room) D cc ak av [.ref (ad 5), .int x1, .ref (ad 2), .ref (ad 1), .ref (ad 10)] (WX cc ad g S ++ E) (WX cc ad g S' ++ E) r := by
  refine mkI (c0 := cX1_countedOwner) (nL := 5) (own := RX1) rfl rfl (by decide) rfl rfl (Nat.le_of_ble_eq_true rfl) ?_
  intro p e s m args below meth c A Q ls F B hQ hl w
  have hx := F.1
  have hb := F.2.1
  have hown := F.2.2.2.1
  have hts := F.2.2.2.2
  have hl : lv_has ls 5 [(0, .ref (ad 5)), (1, .int x1), (2, .ref (ad 2)), (3, .ref (ad 1)), (4, .ref (ad 10))] := hl
  unfold fX1_countedOwner at hf
  refine lv_aload_n hx hb dX1_countedOwner_0 rfl (lv_at hl 0 rfl) ?_
  refine lv_aload_n hx hb dX1_countedOwner_1 rfl (lv_at hl 2 rfl) ?_
  refine lv_aload_n hx hb dX1_countedOwner_2 rfl (lv_at hl 3 rfl) ?_
  refine lv_aload hx hb dX1_countedOwner_3 (lv_at hl 4 rfl) ?_
  obtain ⟨S2, er1, hf⟩ := ob_e hf
  refine kVv (As := [.ref (ad 2), .ref (ad 1), .ref (ad 10)]) (rest := []) F B w (tX1_countOwners er1) (cwV 3 hts gX1_countedOwner_X1_countOwners rfl rfl rfl (by decide +kernel) ⟨Nat.le_of_ble_eq_true rfl, Nat.le_of_ble_eq_true rfl⟩) 5 gX_5 rfl rfl hl.1 rfl (Nat.le_of_ble_eq_true rfl) dX1_countedOwner_5 ⟨Nat.le_of_ble_eq_true rfl, Nat.le_of_ble_eq_true rfl⟩ (fun H locs w => ?_)
  refine lv_iload_n hx hb dX1_countedOwner_8 rfl (lv_at hl 1 rfl) ?_
  refine lv_aload_n hx hb dX1_countedOwner_9 rfl (lv_at hl 2 rfl) ?_
  refine kgetN (v := .int (S2.1 3)) F B w inX1_countedOwner_2 2 gX_2 rfl 6 (by decide) (B.2.1.f 24 rfl) rfl rfl dX1_countedOwner_10 ?_
  obtain ⟨r3, er3, hf⟩ := ob_e hf
  refine kSNi (As := [.int x1, .int (S2.1 3)]) (rest := []) F B w (tX10_isBelow er3) ⟨va_cnB 2 hts gX1_countedOwner_X10_isBelow_n34 rfl rfl rfl (B.2.1.m 8 rfl) (hts (.initialized RX10) (by decide +kernel)) (by decide +kernel) ⟨Nat.le_of_ble_eq_true rfl, Nat.le_of_ble_eq_true rfl⟩, hts (.static yX10_isBelow) (by decide +kernel), trivial⟩ rfl hl.1 rfl (Nat.le_of_ble_eq_true rfl) dX1_countedOwner_13 ⟨Nat.le_of_ble_eq_true rfl, Nat.le_of_ble_eq_true rfl⟩ (fun H locs w => ?_)
  refine lv_if_eq (tgt := 28) hx hb dX1_countedOwner_16 (by decide) (fun c4 => ?_) (fun c4 => ?_)
  · have hf := if_t hf c4
    refine lv_iconst (v := (-1)) hx hb dX1_countedOwner_28 (by decide) ?_
    cases hf
    exact hQ _ _ _ _ dX1_countedOwner_29 w
  · have hf := if_f hf c4
    refine lv_aload_n hx hb dX1_countedOwner_19 rfl (lv_at hl 0 rfl) ?_
    refine kget (v := .ref (ad 25)) F B w inX1_countedOwner_1 5 gX_5 rfl 0 (by decide) (hts (.fieldLink RX1 9 "LandReform$Holding" "countedOwners" "[I") (by decide +kernel)) rfl rfl dX1_countedOwner_20 ?_
    refine lv_iload_n hx hb dX1_countedOwner_23 rfl (lv_at hl 1 rfl) ?_
    obtain ⟨g5, hf⟩ := if_g hf
    refine kiald F B w 25 gX_25 g5 dX1_countedOwner_24 ?_
    refine lv_goto (tgt := 29) hx hb dX1_countedOwner_25 (by decide) ?_
    cases hf
    exact hQ _ _ _ _ dX1_countedOwner_29 w

def fX1_gather_L21 (n : Nat) (x1 : Int32) (k : Int32 → St → Option St) : Nat → Int32 → St → Option St
  | 0, _, _ => none
  | fu + 1, x5, S => if (S.1 3) ≤ x5 then (k x5 S) else (if x5 < 0 ∨ 60 ≤ Int32.toNatClampNeg x5 then none else ob (fX4_houseOf S (S.2.1 12 (Int32.toNatClampNeg x5))) fun r7 => if r7 = x1 then (if x5 < 0 ∨ 60 ≤ Int32.toNatClampNeg x5 then none else ob (fX3_exempts S (S.2.1 5 (Int32.toNatClampNeg x5))) fun r10 => if r10 = 0 then (if (S.1 11) < 0 ∨ 60 ≤ Int32.toNatClampNeg (S.1 11) then none else lt_ (sA S 13 (Int32.toNatClampNeg (S.1 11)) x5) fun S13 => lt_ (sS S13 11 ((S13.1 11) + 1)) fun S14 => ob (fX2_standardOf S14 x5) fun r15 => lt_ (sS S14 13 ((S14.1 13) + r15)) fun S16 => fX1_gather_L21 n x1 k fu (x5 + 1) S16) else (fX1_gather_L21 n x1 k fu (x5 + 1) S)) else (fX1_gather_L21 n x1 k fu (x5 + 1) S))
def fX1_gather (n : Nat) (S : St) (x1 : Int32) : Option St := ob (fX1_countOwners n S) fun S2 => lt_ (sS S2 11 0) fun S3 => lt_ (sS S3 13 0) fun S4 => fX1_gather_L21 n x1 (fun x17 S18 => ob (fX4_membersOf n S18 x1) fun r19 => lt_ (sS S18 12 r19) fun S20 => ob (fX3_allows S20 (S20.1 12)) fun r21 => lt_ (sS S20 14 r21) fun S22 => some S22) n 0 S4
set_option maxRecDepth 20000 in
theorem inX1_gather_1 : ∀ w ∈ u_ws RX1 TX1 10, w ∈ wsX1_gather := by decide +kernel
set_option maxRecDepth 20000 in
theorem inX1_gather_2 : ∀ w ∈ u_ws RX2 TX2 12, w ∈ wsX1_gather := by decide +kernel
set_option maxHeartbeats 4000000 in
set_option maxRecDepth 100000 in
theorem wX1_gather_L21 {p : Program} {l : Launch} {e : Env} {s : State} {m : MethodId} {args : Array Value} {below : List Frame} {meth : Method} {c : Code} {Q : State → Prop} {D : va_G} {cc : Nat → ClassId} {ak av : Nat → Nat} {A : Nat → Prop} {ad : Nat → Nat} {g : Nat → Option Nat} {E : va_W} {n : Nat} {x1 : Int32} {S' : St} {k : Int32 → St → Option St} (F : CallFix p m c cX1_gather 6 s args wsX1_gather RX1) (B : Bd D cc ak av A s) (hQ : RetV p l e ({ frames := 5, cells := 0, slots := 0, locals := 113 } : Room) s m args below meth c D A Q cX1_gather (WX cc ad g S' ++ E))
    (hk : ∀ (x5 : Int32) (S : St) (H : Heap) (locs : List Loc) (ls : Array Slot), Wd D A s.heap H locs (WX cc ad g S ++ E) → lv_has ls 6 [(0, .ref (ad 5)), (1, .int x1), (2, .ref (ad 2)), (3, .ref (ad 1)), (4, .ref (ad 10)), (5, .int x5)] → k x5 S = some S' → W p l e ({ frames := 5, cells := 0, slots := 0, locals := 113 } : Room) s m args below meth c H locs 0 0 Q (F0 m 104 ls [])) :
    ∀ (fu : Nat) (x5 : Int32) (S : St) (H : Heap) (locs : List Loc) (ls : Array Slot), Wd D A s.heap H locs (WX cc ad g S ++ E) → lv_has ls 6 [(0, .ref (ad 5)), (1, .int x1), (2, .ref (ad 2)), (3, .ref (ad 1)), (4, .ref (ad 10)), (5, .int x5)] → fX1_gather_L21 n x1 k fu x5 S = some S' → W p l e ({ frames := 5, cells := 0, slots := 0, locals := 113 } : Room) s m args below meth c H locs 0 0 Q (F0 m 21 ls []) := by
  have hx := F.1
  have hb := F.2.1
  have hown := F.2.2.2.1
  have hts := F.2.2.2.2
  intro fu
  induction fu with
  | zero => intro x5 S H locs ls w hl hf; rw [fX1_gather_L21] at hf; cases hf
  | succ fu ih =>
    intro x5 S H locs ls w hl hf
    rw [fX1_gather_L21] at hf
    refine lv_iload hx hb dX1_gather_21 (lv_at hl 5 rfl) ?_
    refine lv_aload_n hx hb dX1_gather_23 rfl (lv_at hl 2 rfl) ?_
    refine kgetN (v := .int (S.1 3)) F B w inX1_gather_2 2 gX_2 rfl 6 (by decide) (B.2.1.f 24 rfl) rfl rfl dX1_gather_24 ?_
    refine lv_icmp_ge (tgt := 104) hx hb dX1_gather_27 (by decide) (fun c5 => ?_) (fun c5 => ?_)
    · have hf := if_t hf c5
      exact hk _ _ _ _ _ w (lv_sub hl [0, 1, 2, 3, 4, 5] rfl) hf
    · have hf := if_f hf c5
      refine lv_aload_n hx hb dX1_gather_30 rfl (lv_at hl 3 rfl) ?_
      refine lv_aload_n hx hb dX1_gather_31 rfl (lv_at hl 0 rfl) ?_
      refine kget (v := .ref (ad 25)) F B w inX1_gather_1 5 gX_5 rfl 0 (by decide) (hts (.fieldLink RX1 9 "LandReform$Holding" "countedOwners" "[I") (by decide +kernel)) rfl rfl dX1_gather_32 ?_
      refine lv_iload hx hb dX1_gather_35 (lv_at hl 5 rfl) ?_
      obtain ⟨g6, hf⟩ := if_g hf
      refine kiald F B w 25 gX_25 g6 dX1_gather_37 ?_
      obtain ⟨r7, er7, hf⟩ := ob_e hf
      refine kVi (As := [.int (S.2.1 12 (Int32.toNatClampNeg x5))]) (rest := []) F B w (tX4_houseOf er7) (cwV 1 hts gX1_gather_X4_houseOf rfl rfl rfl (by decide +kernel) ⟨Nat.le_of_ble_eq_true rfl, Nat.le_of_ble_eq_true rfl⟩) 1 gX_1 rfl rfl hl.1 rfl (Nat.le_of_ble_eq_true rfl) dX1_gather_38 ⟨Nat.le_of_ble_eq_true rfl, Nat.le_of_ble_eq_true rfl⟩ (fun H locs w => ?_)
      refine lv_iload_n hx hb dX1_gather_41 rfl (lv_at hl 1 rfl) ?_
      refine lv_icmp_ne (tgt := 98) hx hb dX1_gather_42 (by decide) (fun c8 => ?_) (fun c8 => ?_)
      · have hf := if_f hf c8
        refine lv_iinc (v := (x5 + 1)) (lv' := [(5, .int (x5 + 1)), (0, .ref (ad 5)), (1, .int x1), (2, .ref (ad 2)), (3, .ref (ad 1)), (4, .ref (ad 10))]) hx hb dX1_gather_98 hl (k := 5) rfl rfl (by decide) rfl (fun ls hl => ?_)
        refine lv_goto (tgt := 21) hx hb dX1_gather_101 (by decide) ?_
        exact ih _ _ _ _ _ w (lv_sub hl [1, 2, 3, 4, 5, 0] rfl) hf
      · have hf := if_t hf c8
        refine lv_aload hx hb dX1_gather_45 (lv_at hl 4 rfl) ?_
        refine lv_aload_n hx hb dX1_gather_47 rfl (lv_at hl 2 rfl) ?_
        refine kgetN (v := .ref (ad 18)) F B w inX1_gather_2 2 gX_2 rfl 3 (by decide) (B.2.1.f 31 rfl) rfl rfl dX1_gather_48 ?_
        refine lv_iload hx hb dX1_gather_51 (lv_at hl 5 rfl) ?_
        obtain ⟨g9, hf⟩ := if_g hf
        refine kiald F B w 18 gX_18 g9 dX1_gather_53 ?_
        obtain ⟨r10, er10, hf⟩ := ob_e hf
        refine kVi (As := [.int (S.2.1 5 (Int32.toNatClampNeg x5))]) (rest := []) F B w (tX3_exempts er10) (cwV 1 hts gX1_gather_X3_exempts rfl rfl rfl (by decide +kernel) ⟨Nat.le_of_ble_eq_true rfl, Nat.le_of_ble_eq_true rfl⟩) 10 gX_10 rfl rfl hl.1 rfl (Nat.le_of_ble_eq_true rfl) dX1_gather_54 ⟨Nat.le_of_ble_eq_true rfl, Nat.le_of_ble_eq_true rfl⟩ (fun H locs w => ?_)
        refine lv_if_ne (tgt := 98) hx hb dX1_gather_57 (by decide) (fun c11 => ?_) (fun c11 => ?_)
        · have hf := if_f hf c11
          refine lv_iinc (v := (x5 + 1)) (lv' := [(5, .int (x5 + 1)), (0, .ref (ad 5)), (1, .int x1), (2, .ref (ad 2)), (3, .ref (ad 1)), (4, .ref (ad 10))]) hx hb dX1_gather_98 hl (k := 5) rfl rfl (by decide) rfl (fun ls hl => ?_)
          refine lv_goto (tgt := 21) hx hb dX1_gather_101 (by decide) ?_
          exact ih _ _ _ _ _ w (lv_sub hl [1, 2, 3, 4, 5, 0] rfl) hf
        · have hf := if_t hf c11
          refine lv_aload_n hx hb dX1_gather_60 rfl (lv_at hl 0 rfl) ?_
          refine kget (v := .ref (ad 26)) F B w inX1_gather_1 5 gX_5 rfl 1 (by decide) (hts (.fieldLink RX1 15 "LandReform$Holding" "counting" "[I") (by decide +kernel)) rfl rfl dX1_gather_61 ?_
          refine lv_aload_n hx hb dX1_gather_64 rfl (lv_at hl 0 rfl) ?_
          refine kget (v := .int (S.1 11)) F B w inX1_gather_1 5 gX_5 rfl 4 (by decide) (hts (.fieldLink RX1 69 "LandReform$Holding" "size" "I") (by decide +kernel)) rfl rfl dX1_gather_65 ?_
          refine lv_iload hx hb dX1_gather_68 (lv_at hl 5 rfl) ?_
          obtain ⟨g12, hf⟩ := if_g hf
          refine kiast F B w 26 gX_26 g12 bX_26 dX1_gather_70 (fun H locs w => ?_)
          obtain ⟨S13, eS13⟩ : ∃ z, z = sA S 13 (Int32.toNatClampNeg (S.1 11)) x5 := ⟨_, rfl⟩
          rw [← eS13] at w
          have hf := lt_e hf eS13
          refine lv_aload_n hx hb dX1_gather_71 rfl (lv_at hl 0 rfl) ?_
          refine lv_dup hx hb dX1_gather_72 rfl ?_
          refine kget (v := .int (S13.1 11)) F B w inX1_gather_1 5 gX_5 rfl 4 (by decide) (hts (.fieldLink RX1 69 "LandReform$Holding" "size" "I") (by decide +kernel)) rfl rfl dX1_gather_73 ?_
          refine lv_iconst (v := 1) hx hb dX1_gather_76 (by decide) ?_
          refine lv_iadd hx hb dX1_gather_77 ?_
          refine kput (ty := .int) F B w inX1_gather_1 tyX1 tyX1_ok nmX1 5 gX_5 rfl 4 (by decide) (hts (.fieldLink RX1 69 "LandReform$Holding" "size" "I") (by decide +kernel)) rfl rfl (by decide +kernel) rfl rfl (Nat.le_of_ble_eq_true rfl) pX_11 dX1_gather_78 (fun H locs w => ?_)
          obtain ⟨S14, eS14⟩ : ∃ z, z = sS S13 11 ((S13.1 11) + 1) := ⟨_, rfl⟩
          rw [← eS14] at w
          have hf := lt_e hf eS14
          refine lv_aload_n hx hb dX1_gather_81 rfl (lv_at hl 0 rfl) ?_
          refine lv_dup hx hb dX1_gather_82 rfl ?_
          refine kget (v := .int (S14.1 13)) F B w inX1_gather_1 5 gX_5 rfl 6 (by decide) (hts (.fieldLink RX1 70 "LandReform$Holding" "standards" "I") (by decide +kernel)) rfl rfl dX1_gather_83 ?_
          refine lv_aload_n hx hb dX1_gather_86 rfl (lv_at hl 2 rfl) ?_
          refine lv_iload hx hb dX1_gather_87 (lv_at hl 5 rfl) ?_
          refine lv_aload hx hb dX1_gather_89 (lv_at hl 4 rfl) ?_
          obtain ⟨r15, er15, hf⟩ := ob_e hf
          refine kVi (As := [.int x5, .ref (ad 10)]) (rest := [.int (S14.1 13), .ref (ad 5)]) F B w (tX2_standardOf er15) (cwV 2 hts gX1_gather_X2_standardOf rfl rfl rfl (by decide +kernel) ⟨Nat.le_of_ble_eq_true rfl, Nat.le_of_ble_eq_true rfl⟩) 2 gX_2 rfl rfl hl.1 rfl (Nat.le_of_ble_eq_true rfl) dX1_gather_91 ⟨Nat.le_of_ble_eq_true rfl, Nat.le_of_ble_eq_true rfl⟩ (fun H locs w => ?_)
          refine lv_iadd hx hb dX1_gather_94 ?_
          refine kput (ty := .int) F B w inX1_gather_1 tyX1 tyX1_ok nmX1 5 gX_5 rfl 6 (by decide) (hts (.fieldLink RX1 70 "LandReform$Holding" "standards" "I") (by decide +kernel)) rfl rfl (by decide +kernel) rfl rfl (Nat.le_of_ble_eq_true rfl) pX_13 dX1_gather_95 (fun H locs w => ?_)
          obtain ⟨S16, eS16⟩ : ∃ z, z = sS S14 13 ((S14.1 13) + r15) := ⟨_, rfl⟩
          rw [← eS16] at w
          have hf := lt_e hf eS16
          refine lv_iinc (v := (x5 + 1)) (lv' := [(5, .int (x5 + 1)), (0, .ref (ad 5)), (1, .int x1), (2, .ref (ad 2)), (3, .ref (ad 1)), (4, .ref (ad 10))]) hx hb dX1_gather_98 hl (k := 5) rfl rfl (by decide) rfl (fun ls hl => ?_)
          refine lv_goto (tgt := 21) hx hb dX1_gather_101 (by decide) ?_
          exact ih _ _ _ _ _ w (lv_sub hl [1, 2, 3, 4, 5, 0] rfl) hf
set_option maxHeartbeats 4000000 in
set_option maxRecDepth 100000 in
theorem tX1_gather {l : Launch} {D : va_G} {cc : Nat → ClassId} {ak av : Nat → Nat} {ad : Nat → Nat} {g : Nat → Option Nat} {E : va_W} {n : Nat} {S : St} {x1 : Int32} {S' : St} (hf : fX1_gather n S x1 = some S') : CV l yX1_gather wsX1_gather ({ frames := 5, cells := 0, slots := 0, locals := 113 } : Room) D cc ak av [.ref (ad 5), .int x1, .ref (ad 2), .ref (ad 1), .ref (ad 10)] (WX cc ad g S ++ E) (WX cc ad g S' ++ E) := by
  refine mkV (c0 := cX1_gather) (nL := 6) (own := RX1) rfl rfl (by decide) rfl rfl (Nat.le_of_ble_eq_true rfl) ?_
  intro p e s m args below meth c A Q ls F B hQ hl w
  have hx := F.1
  have hb := F.2.1
  have hown := F.2.2.2.1
  have hts := F.2.2.2.2
  have hl : lv_has ls 6 [(0, .ref (ad 5)), (1, .int x1), (2, .ref (ad 2)), (3, .ref (ad 1)), (4, .ref (ad 10))] := hl
  unfold fX1_gather at hf
  refine lv_aload_n hx hb dX1_gather_0 rfl (lv_at hl 0 rfl) ?_
  refine lv_aload_n hx hb dX1_gather_1 rfl (lv_at hl 2 rfl) ?_
  refine lv_aload_n hx hb dX1_gather_2 rfl (lv_at hl 3 rfl) ?_
  refine lv_aload hx hb dX1_gather_3 (lv_at hl 4 rfl) ?_
  obtain ⟨S2, er1, hf⟩ := ob_e hf
  refine kVv (As := [.ref (ad 2), .ref (ad 1), .ref (ad 10)]) (rest := []) F B w (tX1_countOwners er1) (cwV 3 hts gX1_gather_X1_countOwners rfl rfl rfl (by decide +kernel) ⟨Nat.le_of_ble_eq_true rfl, Nat.le_of_ble_eq_true rfl⟩) 5 gX_5 rfl rfl hl.1 rfl (Nat.le_of_ble_eq_true rfl) dX1_gather_5 ⟨Nat.le_of_ble_eq_true rfl, Nat.le_of_ble_eq_true rfl⟩ (fun H locs w => ?_)
  refine lv_aload_n hx hb dX1_gather_8 rfl (lv_at hl 0 rfl) ?_
  refine lv_iconst (v := 0) hx hb dX1_gather_9 (by decide) ?_
  refine kput (ty := .int) F B w inX1_gather_1 tyX1 tyX1_ok nmX1 5 gX_5 rfl 4 (by decide) (hts (.fieldLink RX1 69 "LandReform$Holding" "size" "I") (by decide +kernel)) rfl rfl (by decide +kernel) rfl rfl (Nat.le_of_ble_eq_true rfl) pX_11 dX1_gather_10 (fun H locs w => ?_)
  obtain ⟨S3, eS3⟩ : ∃ z, z = sS S2 11 0 := ⟨_, rfl⟩
  rw [← eS3] at w
  have hf := lt_e hf eS3
  refine lv_aload_n hx hb dX1_gather_13 rfl (lv_at hl 0 rfl) ?_
  refine lv_iconst (v := 0) hx hb dX1_gather_14 (by decide) ?_
  refine kput (ty := .int) F B w inX1_gather_1 tyX1 tyX1_ok nmX1 5 gX_5 rfl 6 (by decide) (hts (.fieldLink RX1 70 "LandReform$Holding" "standards" "I") (by decide +kernel)) rfl rfl (by decide +kernel) rfl rfl (Nat.le_of_ble_eq_true rfl) pX_13 dX1_gather_15 (fun H locs w => ?_)
  obtain ⟨S4, eS4⟩ : ∃ z, z = sS S3 13 0 := ⟨_, rfl⟩
  rw [← eS4] at w
  have hf := lt_e hf eS4
  refine lv_iconst (v := 0) hx hb dX1_gather_18 (by decide) ?_
  refine lv_istore (lv' := [(5, .int 0), (0, .ref (ad 5)), (1, .int x1), (2, .ref (ad 2)), (3, .ref (ad 1)), (4, .ref (ad 10))]) hx hb dX1_gather_19 hl (by decide) rfl (fun ls hl => ?_)
  refine wX1_gather_L21 F B hQ (fun x17 S18 H locs ls w hl hf => ?_) n _ _ _ _ _ w (lv_sub hl [1, 2, 3, 4, 5, 0] rfl) hf
  refine lv_aload_n hx hb dX1_gather_104 rfl (lv_at hl 0 rfl) ?_
  refine lv_aload_n hx hb dX1_gather_105 rfl (lv_at hl 3 rfl) ?_
  refine lv_iload_n hx hb dX1_gather_106 rfl (lv_at hl 1 rfl) ?_
  obtain ⟨r19, er19, hf⟩ := ob_e hf
  refine kVi (As := [.int x1]) (rest := [.ref (ad 5)]) F B w (tX4_membersOf er19) (cwV 1 hts gX1_gather_X4_membersOf rfl rfl rfl (by decide +kernel) ⟨Nat.le_of_ble_eq_true rfl, Nat.le_of_ble_eq_true rfl⟩) 1 gX_1 rfl rfl hl.1 rfl (Nat.le_of_ble_eq_true rfl) dX1_gather_107 ⟨Nat.le_of_ble_eq_true rfl, Nat.le_of_ble_eq_true rfl⟩ (fun H locs w => ?_)
  refine kput (ty := .int) F B w inX1_gather_1 tyX1 tyX1_ok nmX1 5 gX_5 rfl 5 (by decide) (hts (.fieldLink RX1 91 "LandReform$Holding" "members" "I") (by decide +kernel)) rfl rfl (by decide +kernel) rfl rfl (Nat.le_of_ble_eq_true rfl) pX_12 dX1_gather_110 (fun H locs w => ?_)
  obtain ⟨S20, eS20⟩ : ∃ z, z = sS S18 12 r19 := ⟨_, rfl⟩
  rw [← eS20] at w
  have hf := lt_e hf eS20
  refine lv_aload_n hx hb dX1_gather_113 rfl (lv_at hl 0 rfl) ?_
  refine lv_aload hx hb dX1_gather_114 (lv_at hl 4 rfl) ?_
  refine lv_aload_n hx hb dX1_gather_116 rfl (lv_at hl 0 rfl) ?_
  refine kget (v := .int (S20.1 12)) F B w inX1_gather_1 5 gX_5 rfl 5 (by decide) (hts (.fieldLink RX1 91 "LandReform$Holding" "members" "I") (by decide +kernel)) rfl rfl dX1_gather_117 ?_
  obtain ⟨r21, er21, hf⟩ := ob_e hf
  refine kVi (As := [.int (S20.1 12)]) (rest := [.ref (ad 5)]) F B w (tX3_allows er21) (cwV 1 hts gX1_gather_X3_allows rfl rfl rfl (by decide +kernel) ⟨Nat.le_of_ble_eq_true rfl, Nat.le_of_ble_eq_true rfl⟩) 10 gX_10 rfl rfl hl.1 rfl (Nat.le_of_ble_eq_true rfl) dX1_gather_120 ⟨Nat.le_of_ble_eq_true rfl, Nat.le_of_ble_eq_true rfl⟩ (fun H locs w => ?_)
  refine kput (ty := .int) F B w inX1_gather_1 tyX1 tyX1_ok nmX1 5 gX_5 rfl 7 (by decide) (hts (.fieldLink RX1 97 "LandReform$Holding" "allowed" "I") (by decide +kernel)) rfl rfl (by decide +kernel) rfl rfl (Nat.le_of_ble_eq_true rfl) pX_14 dX1_gather_123 (fun H locs w => ?_)
  obtain ⟨S22, eS22⟩ : ∃ z, z = sS S20 14 r21 := ⟨_, rfl⟩
  rw [← eS22] at w
  have hf := lt_e hf eS22
  cases hf
  exact hQ _ _ _ _ dX1_gather_126 w

def fX1_above (S : St) : Option Int32 := some (if (0 : Int32) < ((S.1 13) - (S.1 14)) then ((S.1 13) - (S.1 14)) else 0)
set_option maxRecDepth 20000 in
theorem inX1_above_1 : ∀ w ∈ u_ws RX1 TX1 10, w ∈ wsX1_above := by decide +kernel
set_option maxHeartbeats 4000000 in
set_option maxRecDepth 100000 in
theorem tX1_above {l : Launch} {D : va_G} {cc : Nat → ClassId} {ak av : Nat → Nat} {ad : Nat → Nat} {g : Nat → Option Nat} {E : va_W} {S : St} {r : Int32} (hf : fX1_above S = some r) : CI l yX1_above wsX1_above ({ frames := 1, cells := 0, slots := 0, locals := 21 } : Room) D cc ak av [.ref (ad 5)] (WX cc ad g S ++ E) (WX cc ad g S ++ E) r := by
  refine mkI (c0 := cX1_above) (nL := 1) (own := RX1) rfl rfl (by decide) rfl rfl (Nat.le_of_ble_eq_true rfl) ?_
  intro p e s m args below meth c A Q ls F B hQ hl w
  have hx := F.1
  have hb := F.2.1
  have hown := F.2.2.2.1
  have hts := F.2.2.2.2
  have hl : lv_has ls 1 [(0, .ref (ad 5))] := hl
  unfold fX1_above at hf
  refine lv_iconst (v := 0) hx hb dX1_above_0 (by decide) ?_
  refine lv_aload_n hx hb dX1_above_1 rfl (lv_at hl 0 rfl) ?_
  refine kget (v := .int (S.1 13)) F B w inX1_above_1 5 gX_5 rfl 6 (by decide) (hts (.fieldLink RX1 70 "LandReform$Holding" "standards" "I") (by decide +kernel)) rfl rfl dX1_above_2 ?_
  refine lv_aload_n hx hb dX1_above_5 rfl (lv_at hl 0 rfl) ?_
  refine kget (v := .int (S.1 14)) F B w inX1_above_1 5 gX_5 rfl 7 (by decide) (hts (.fieldLink RX1 97 "LandReform$Holding" "allowed" "I") (by decide +kernel)) rfl rfl dX1_above_6 ?_
  refine lv_isub hx hb dX1_above_9 ?_
  refine va_mmax hx hb (by rw [hl.1]; exact F.2.2.1) hown (hts (.methodLink RX1 100 Lib.Math.max.name) (by decide +kernel)) (hts (.static Lib.Math.max.name) (by decide +kernel)) (hts (.initialized "java/lang/Math") (by decide +kernel)) (hts (.code Lib.Math.max.name Lib.Math.max.code 2 (some .int)) (by decide +kernel)) (Nat.le_of_ble_eq_true rfl) (Nat.le_of_ble_eq_true rfl) (Nat.le_of_ble_eq_true rfl) (Nat.le_of_ble_eq_true rfl) dX1_above_10 ?_
  cases hf
  exact hQ _ _ _ _ dX1_above_13 w

def fX1_prepareSteps_L8 (n : Nat) (k : Int32 → Int32 → Int32 → St → Option St) : Nat → Int32 → Int32 → Int32 → St → Option St
  | 0, _, _, _, _ => none
  | fu + 1, x3, x4, x5, S => if (S.1 11) ≤ x5 then (k x3 x4 x5 S) else (if 12 ≤ x5 then (k x3 x4 x5 S) else (if x5 < 0 ∨ 60 ≤ Int32.toNatClampNeg x5 then none else ob (fX2_standardOf S (S.2.1 13 (Int32.toNatClampNeg x5))) fun r4 => if x5 < 0 ∨ 60 ≤ Int32.toNatClampNeg x5 then none else ob (fX2_areaOf S (S.2.1 13 (Int32.toNatClampNeg x5))) fun r6 => if x5 < 0 ∨ 12 ≤ Int32.toNatClampNeg x5 then none else lt_ (sA S 14 (Int32.toNatClampNeg x5) (r4 - x3)) fun S8 => if x5 < 0 ∨ 12 ≤ Int32.toNatClampNeg x5 then none else lt_ (sA S8 15 (Int32.toNatClampNeg x5) (r6 - x4)) fun S10 => lt_ (x3 + r4) fun v11 => lt_ (x4 + r6) fun v12 => fX1_prepareSteps_L8 n k fu v11 v12 (x5 + 1) S10))
def fX1_prepareSteps (n : Nat) (S : St) : Option St := fX1_prepareSteps_L8 n (fun x13 x14 x15 S16 => some S16) n 0 0 0 S
set_option maxRecDepth 20000 in
theorem inX1_prepareSteps_1 : ∀ w ∈ u_ws RX1 TX1 10, w ∈ wsX1_prepareSteps := by decide +kernel
set_option maxHeartbeats 4000000 in
set_option maxRecDepth 100000 in
theorem wX1_prepareSteps_L8 {p : Program} {l : Launch} {e : Env} {s : State} {m : MethodId} {args : Array Value} {below : List Frame} {meth : Method} {c : Code} {Q : State → Prop} {D : va_G} {cc : Nat → ClassId} {ak av : Nat → Nat} {A : Nat → Prop} {ad : Nat → Nat} {g : Nat → Option Nat} {E : va_W} {n : Nat} {S' : St} {k : Int32 → Int32 → Int32 → St → Option St} (F : CallFix p m c cX1_prepareSteps 8 s args wsX1_prepareSteps RX1) (B : Bd D cc ak av A s) (hQ : RetV p l e ({ frames := 4, cells := 0, slots := 0, locals := 85 } : Room) s m args below meth c D A Q cX1_prepareSteps (WX cc ad g S' ++ E))
    (hk : ∀ (x3 : Int32) (x4 : Int32) (x5 : Int32) (S : St) (H : Heap) (locs : List Loc) (ls : Array Slot), Wd D A s.heap H locs (WX cc ad g S ++ E) → lv_has ls 8 [(0, .ref (ad 5)), (1, .ref (ad 2)), (2, .ref (ad 10)), (3, .int x3), (4, .int x4), (5, .int x5)] → k x3 x4 x5 S = some S' → W p l e ({ frames := 4, cells := 0, slots := 0, locals := 85 } : Room) s m args below meth c H locs 0 0 Q (F0 m 92 ls [])) :
    ∀ (fu : Nat) (x3 : Int32) (x4 : Int32) (x5 : Int32) (S : St) (H : Heap) (locs : List Loc) (ls : Array Slot), Wd D A s.heap H locs (WX cc ad g S ++ E) → lv_has ls 8 [(0, .ref (ad 5)), (1, .ref (ad 2)), (2, .ref (ad 10)), (3, .int x3), (4, .int x4), (5, .int x5)] → fX1_prepareSteps_L8 n k fu x3 x4 x5 S = some S' → W p l e ({ frames := 4, cells := 0, slots := 0, locals := 85 } : Room) s m args below meth c H locs 0 0 Q (F0 m 8 ls []) := by
  have hx := F.1
  have hb := F.2.1
  have hown := F.2.2.2.1
  have hts := F.2.2.2.2
  intro fu
  induction fu with
  | zero => intro x3 x4 x5 S H locs ls w hl hf; rw [fX1_prepareSteps_L8] at hf; cases hf
  | succ fu ih =>
    intro x3 x4 x5 S H locs ls w hl hf
    rw [fX1_prepareSteps_L8] at hf
    refine lv_iload hx hb dX1_prepareSteps_8 (lv_at hl 5 rfl) ?_
    refine lv_aload_n hx hb dX1_prepareSteps_10 rfl (lv_at hl 0 rfl) ?_
    refine kget (v := .int (S.1 11)) F B w inX1_prepareSteps_1 5 gX_5 rfl 4 (by decide) (hts (.fieldLink RX1 69 "LandReform$Holding" "size" "I") (by decide +kernel)) rfl rfl dX1_prepareSteps_11 ?_
    refine lv_icmp_ge (tgt := 92) hx hb dX1_prepareSteps_14 (by decide) (fun c1 => ?_) (fun c1 => ?_)
    · have hf := if_t hf c1
      exact hk _ _ _ _ _ _ _ w (lv_sub hl [0, 1, 2, 3, 4, 5] rfl) hf
    · have hf := if_f hf c1
      refine lv_iload hx hb dX1_prepareSteps_17 (lv_at hl 5 rfl) ?_
      refine lv_bipush (v := 12) hx hb dX1_prepareSteps_19 (by decide) ?_
      refine lv_icmp_ge (tgt := 92) hx hb dX1_prepareSteps_21 (by decide) (fun c2 => ?_) (fun c2 => ?_)
      · have hf := if_t hf c2
        exact hk _ _ _ _ _ _ _ w (lv_sub hl [0, 1, 2, 3, 4, 5] rfl) hf
      · have hf := if_f hf c2
        refine lv_aload_n hx hb dX1_prepareSteps_24 rfl (lv_at hl 1 rfl) ?_
        refine lv_aload_n hx hb dX1_prepareSteps_25 rfl (lv_at hl 0 rfl) ?_
        refine kget (v := .ref (ad 26)) F B w inX1_prepareSteps_1 5 gX_5 rfl 1 (by decide) (hts (.fieldLink RX1 15 "LandReform$Holding" "counting" "[I") (by decide +kernel)) rfl rfl dX1_prepareSteps_26 ?_
        refine lv_iload hx hb dX1_prepareSteps_29 (lv_at hl 5 rfl) ?_
        obtain ⟨g3, hf⟩ := if_g hf
        refine kiald F B w 26 gX_26 g3 dX1_prepareSteps_31 ?_
        refine lv_aload_n hx hb dX1_prepareSteps_32 rfl (lv_at hl 2 rfl) ?_
        obtain ⟨r4, er4, hf⟩ := ob_e hf
        refine kVi (As := [.int (S.2.1 13 (Int32.toNatClampNeg x5)), .ref (ad 10)]) (rest := []) F B w (tX2_standardOf er4) (cwV 2 hts gX1_prepareSteps_X2_standardOf rfl rfl rfl (by decide +kernel) ⟨Nat.le_of_ble_eq_true rfl, Nat.le_of_ble_eq_true rfl⟩) 2 gX_2 rfl rfl hl.1 rfl (Nat.le_of_ble_eq_true rfl) dX1_prepareSteps_33 ⟨Nat.le_of_ble_eq_true rfl, Nat.le_of_ble_eq_true rfl⟩ (fun H locs w => ?_)
        refine lv_istore (lv' := [(6, .int r4), (0, .ref (ad 5)), (1, .ref (ad 2)), (2, .ref (ad 10)), (3, .int x3), (4, .int x4), (5, .int x5)]) hx hb dX1_prepareSteps_36 hl (by decide) rfl (fun ls hl => ?_)
        refine lv_aload_n hx hb dX1_prepareSteps_38 rfl (lv_at hl 2 rfl) ?_
        refine lv_aload_n hx hb dX1_prepareSteps_39 rfl (lv_at hl 1 rfl) ?_
        refine kget (v := .ref (ad 26)) F B w inX1_prepareSteps_1 5 gX_5 rfl 1 (by decide) (hts (.fieldLink RX1 15 "LandReform$Holding" "counting" "[I") (by decide +kernel)) rfl rfl dX1_prepareSteps_40 ?_
        refine lv_iload hx hb dX1_prepareSteps_43 (lv_at hl 6 rfl) ?_
        obtain ⟨g5, hf⟩ := if_g hf
        refine kiald F B w 26 gX_26 g5 dX1_prepareSteps_45 ?_
        obtain ⟨r6, er6, hf⟩ := ob_e hf
        refine kVi (As := [.int (S.2.1 13 (Int32.toNatClampNeg x5))]) (rest := []) F B w (tX2_areaOf er6) (cwV 1 hts gX1_prepareSteps_X2_areaOf rfl rfl rfl (by decide +kernel) ⟨Nat.le_of_ble_eq_true rfl, Nat.le_of_ble_eq_true rfl⟩) 2 gX_2 rfl rfl hl.1 rfl (Nat.le_of_ble_eq_true rfl) dX1_prepareSteps_46 ⟨Nat.le_of_ble_eq_true rfl, Nat.le_of_ble_eq_true rfl⟩ (fun H locs w => ?_)
        refine lv_istore (lv' := [(7, .int r6), (6, .int r4), (0, .ref (ad 5)), (1, .ref (ad 2)), (2, .ref (ad 10)), (3, .int x3), (4, .int x4), (5, .int x5)]) hx hb dX1_prepareSteps_49 hl (by decide) rfl (fun ls hl => ?_)
        refine lv_aload_n hx hb dX1_prepareSteps_51 rfl (lv_at hl 2 rfl) ?_
        refine kget (v := .ref (ad 27)) F B w inX1_prepareSteps_1 5 gX_5 rfl 2 (by decide) (hts (.fieldLink RX1 18 "LandReform$Holding" "standardSteps" "[I") (by decide +kernel)) rfl rfl dX1_prepareSteps_52 ?_
        refine lv_iload hx hb dX1_prepareSteps_55 (lv_at hl 7 rfl) ?_
        refine lv_iload hx hb dX1_prepareSteps_57 (lv_at hl 1 rfl) ?_
        refine lv_iload_n hx hb dX1_prepareSteps_59 rfl (lv_at hl 5 rfl) ?_
        refine lv_isub hx hb dX1_prepareSteps_60 ?_
        obtain ⟨g7, hf⟩ := if_g hf
        refine kiast F B w 27 gX_27 g7 bX_27 dX1_prepareSteps_61 (fun H locs w => ?_)
        obtain ⟨S8, eS8⟩ : ∃ z, z = sA S 14 (Int32.toNatClampNeg x5) (r4 - x3) := ⟨_, rfl⟩
        rw [← eS8] at w
        have hf := lt_e hf eS8
        refine lv_aload_n hx hb dX1_prepareSteps_62 rfl (lv_at hl 2 rfl) ?_
        refine kget (v := .ref (ad 28)) F B w inX1_prepareSteps_1 5 gX_5 rfl 3 (by decide) (hts (.fieldLink RX1 21 "LandReform$Holding" "areaSteps" "[I") (by decide +kernel)) rfl rfl dX1_prepareSteps_63 ?_
        refine lv_iload hx hb dX1_prepareSteps_66 (lv_at hl 7 rfl) ?_
        refine lv_iload hx hb dX1_prepareSteps_68 (lv_at hl 0 rfl) ?_
        refine lv_iload hx hb dX1_prepareSteps_70 (lv_at hl 6 rfl) ?_
        refine lv_isub hx hb dX1_prepareSteps_72 ?_
        obtain ⟨g9, hf⟩ := if_g hf
        refine kiast F B w 28 gX_28 g9 bX_28 dX1_prepareSteps_73 (fun H locs w => ?_)
        obtain ⟨S10, eS10⟩ : ∃ z, z = sA S8 15 (Int32.toNatClampNeg x5) (r6 - x4) := ⟨_, rfl⟩
        rw [← eS10] at w
        have hf := lt_e hf eS10
        refine lv_iload_n hx hb dX1_prepareSteps_74 rfl (lv_at hl 5 rfl) ?_
        refine lv_iload hx hb dX1_prepareSteps_75 (lv_at hl 1 rfl) ?_
        refine lv_iadd hx hb dX1_prepareSteps_77 ?_
        refine lv_topi (fun v11 ev11 => ?_)
        have hf := lt_e hf ev11
        refine lv_istore_n (lv' := [(3, .int v11), (7, .int r6), (6, .int r4), (0, .ref (ad 5)), (1, .ref (ad 2)), (2, .ref (ad 10)), (4, .int x4), (5, .int x5)]) hx hb dX1_prepareSteps_78 rfl hl (by decide) rfl (fun ls hl => ?_)
        refine lv_iload hx hb dX1_prepareSteps_79 (lv_at hl 6 rfl) ?_
        refine lv_iload hx hb dX1_prepareSteps_81 (lv_at hl 1 rfl) ?_
        refine lv_iadd hx hb dX1_prepareSteps_83 ?_
        refine lv_topi (fun v12 ev12 => ?_)
        have hf := lt_e hf ev12
        refine lv_istore (lv' := [(4, .int v12), (3, .int v11), (7, .int r6), (6, .int r4), (0, .ref (ad 5)), (1, .ref (ad 2)), (2, .ref (ad 10)), (5, .int x5)]) hx hb dX1_prepareSteps_84 hl (by decide) rfl (fun ls hl => ?_)
        refine lv_iinc (v := (x5 + 1)) (lv' := [(5, .int (x5 + 1)), (4, .int v12), (3, .int v11), (7, .int r6), (6, .int r4), (0, .ref (ad 5)), (1, .ref (ad 2)), (2, .ref (ad 10))]) hx hb dX1_prepareSteps_86 hl (k := 7) rfl rfl (by decide) rfl (fun ls hl => ?_)
        refine lv_goto (tgt := 8) hx hb dX1_prepareSteps_89 (by decide) ?_
        exact ih _ _ _ _ _ _ _ w (lv_sub hl [5, 6, 7, 2, 1, 0] rfl) hf
set_option maxHeartbeats 4000000 in
set_option maxRecDepth 100000 in
theorem tX1_prepareSteps {l : Launch} {D : va_G} {cc : Nat → ClassId} {ak av : Nat → Nat} {ad : Nat → Nat} {g : Nat → Option Nat} {E : va_W} {n : Nat} {S : St} {S' : St} (hf : fX1_prepareSteps n S = some S') : CV l yX1_prepareSteps wsX1_prepareSteps ({ frames := 4, cells := 0, slots := 0, locals := 85 } : Room) D cc ak av [.ref (ad 5), .ref (ad 2), .ref (ad 10)] (WX cc ad g S ++ E) (WX cc ad g S' ++ E) := by
  refine mkV (c0 := cX1_prepareSteps) (nL := 8) (own := RX1) rfl rfl (by decide) rfl rfl (Nat.le_of_ble_eq_true rfl) ?_
  intro p e s m args below meth c A Q ls F B hQ hl w
  have hx := F.1
  have hb := F.2.1
  have hown := F.2.2.2.1
  have hts := F.2.2.2.2
  have hl : lv_has ls 8 [(0, .ref (ad 5)), (1, .ref (ad 2)), (2, .ref (ad 10))] := hl
  unfold fX1_prepareSteps at hf
  refine lv_iconst (v := 0) hx hb dX1_prepareSteps_0 (by decide) ?_
  refine lv_istore_n (lv' := [(3, .int 0), (0, .ref (ad 5)), (1, .ref (ad 2)), (2, .ref (ad 10))]) hx hb dX1_prepareSteps_1 rfl hl (by decide) rfl (fun ls hl => ?_)
  refine lv_iconst (v := 0) hx hb dX1_prepareSteps_2 (by decide) ?_
  refine lv_istore (lv' := [(4, .int 0), (3, .int 0), (0, .ref (ad 5)), (1, .ref (ad 2)), (2, .ref (ad 10))]) hx hb dX1_prepareSteps_3 hl (by decide) rfl (fun ls hl => ?_)
  refine lv_iconst (v := 0) hx hb dX1_prepareSteps_5 (by decide) ?_
  refine lv_istore (lv' := [(5, .int 0), (4, .int 0), (3, .int 0), (0, .ref (ad 5)), (1, .ref (ad 2)), (2, .ref (ad 10))]) hx hb dX1_prepareSteps_6 hl (by decide) rfl (fun ls hl => ?_)
  refine wX1_prepareSteps_L8 F B hQ (fun x13 x14 x15 S16 H locs ls w hl hf => ?_) n _ _ _ _ _ _ _ w (lv_sub hl [3, 4, 5, 2, 1, 0] rfl) hf
  cases hf
  exact hQ _ _ _ _ dX1_prepareSteps_92 w

def fX1_choose_L43 (n : Nat) (x5 : Int32) (k : Int32 → Int32 → Int32 → St → Option (Int32 × St)) : Nat → Int32 → Int32 → Int32 → St → Option (Int32 × St)
  | 0, _, _, _, _ => none
  | fu + 1, x3, x4, x6, S => if x5 ≤ x6 then (k x3 x4 x6 S) else (ob (fJ6_numberOfTrailingZeros_0f7a4 x6) fun r8 => if r8 < 12 then (if r8 < 0 ∨ 12 ≤ Int32.toNatClampNeg r8 then none else lt_ (x3 + (S.2.1 14 (Int32.toNatClampNeg r8))) fun v11 => if r8 < 0 ∨ 12 ≤ Int32.toNatClampNeg r8 then none else lt_ (x4 + (S.2.1 15 (Int32.toNatClampNeg r8))) fun v13 => if (S.1 14) < v11 then (fX1_choose_L43 n x5 k fu v11 v13 (x6 + 1) S) else (if v13 ≤ (S.1 16) then (fX1_choose_L43 n x5 k fu v11 v13 (x6 + 1) S) else (lt_ (sS S 15 x6) fun S16 => lt_ (sS S16 16 v13) fun S17 => fX1_choose_L43 n x5 k fu v11 v13 (x6 + 1) S17))) else (some (0, S)))
def fX1_choose (n : Nat) (S : St) : Option (Int32 × St) := if (S.1 11) ≤ 12 then (ob (fX1_prepareSteps n S) fun S3 => lt_ (sS S3 15 0) fun S4 => lt_ (sS S4 16 0) fun S5 => lt_ ((1 : Int32) <<< ((S5.1 11) &&& 31)) fun v6 => fX1_choose_L43 n v6 (fun x18 x19 x20 S21 => some (1, S21)) n 0 0 1 S5) else (some (0, S))
set_option maxRecDepth 20000 in
theorem inX1_choose_1 : ∀ w ∈ u_ws RX1 TX1 10, w ∈ wsX1_choose := by decide +kernel
set_option maxHeartbeats 4000000 in
set_option maxRecDepth 100000 in
theorem wX1_choose_L43 {p : Program} {l : Launch} {e : Env} {s : State} {m : MethodId} {args : Array Value} {below : List Frame} {meth : Method} {c : Code} {Q : State → Prop} {D : va_G} {cc : Nat → ClassId} {ak av : Nat → Nat} {A : Nat → Prop} {ad : Nat → Nat} {g : Nat → Option Nat} {E : va_W} {n : Nat} {x5 : Int32} {r : Int32} {S' : St} {k : Int32 → Int32 → Int32 → St → Option (Int32 × St)} (F : CallFix p m c cX1_choose 8 s args wsX1_choose RX1) (B : Bd D cc ak av A s) (hQ : RetZ p l e ({ frames := 5, cells := 0, slots := 0, locals := 112 } : Room) s m args below meth c D A Q cX1_choose (WX cc ad g S' ++ E) r)
    (hk : ∀ (x3 : Int32) (x4 : Int32) (x6 : Int32) (S : St) (H : Heap) (locs : List Loc) (ls : Array Slot), Wd D A s.heap H locs (WX cc ad g S ++ E) → lv_has ls 8 [(0, .ref (ad 5)), (3, .int x3), (4, .int x4), (5, .int x5), (6, .int x6)] → k x3 x4 x6 S = some (r, S') → W p l e ({ frames := 5, cells := 0, slots := 0, locals := 112 } : Room) s m args below meth c H locs 0 0 Q (F0 m 123 ls [])) :
    ∀ (fu : Nat) (x3 : Int32) (x4 : Int32) (x6 : Int32) (S : St) (H : Heap) (locs : List Loc) (ls : Array Slot), Wd D A s.heap H locs (WX cc ad g S ++ E) → lv_has ls 8 [(0, .ref (ad 5)), (3, .int x3), (4, .int x4), (5, .int x5), (6, .int x6)] → fX1_choose_L43 n x5 k fu x3 x4 x6 S = some (r, S') → W p l e ({ frames := 5, cells := 0, slots := 0, locals := 112 } : Room) s m args below meth c H locs 0 0 Q (F0 m 43 ls []) := by
  have hx := F.1
  have hb := F.2.1
  have hown := F.2.2.2.1
  have hts := F.2.2.2.2
  intro fu
  induction fu with
  | zero => intro x3 x4 x6 S H locs ls w hl hf; rw [fX1_choose_L43] at hf; cases hf
  | succ fu ih =>
    intro x3 x4 x6 S H locs ls w hl hf
    rw [fX1_choose_L43] at hf
    refine lv_iload hx hb dX1_choose_43 (lv_at hl 4 rfl) ?_
    refine lv_iload hx hb dX1_choose_45 (lv_at hl 3 rfl) ?_
    refine lv_icmp_ge (tgt := 123) hx hb dX1_choose_47 (by decide) (fun c7 => ?_) (fun c7 => ?_)
    · have hf := if_t hf c7
      exact hk _ _ _ _ _ _ _ w (lv_sub hl [0, 1, 2, 3, 4] rfl) hf
    · have hf := if_f hf c7
      refine lv_iload hx hb dX1_choose_50 (lv_at hl 4 rfl) ?_
      obtain ⟨r8, er8, hf⟩ := ob_e hf
      refine kSi (As := [.int x6]) (rest := []) F B w (tJ6_numberOfTrailingZeros_0f7a4 er8) (va_cwS 1 hts gX1_choose_J6_numberOfTrailingZeros_0f7a4 rfl rfl rfl (by decide +kernel) ⟨Nat.le_of_ble_eq_true rfl, Nat.le_of_ble_eq_true rfl⟩) rfl hl.1 rfl (Nat.le_of_ble_eq_true rfl) dX1_choose_52 ⟨Nat.le_of_ble_eq_true rfl, Nat.le_of_ble_eq_true rfl⟩ (fun H locs w => ?_)
      refine lv_istore (lv' := [(7, .int r8), (0, .ref (ad 5)), (3, .int x3), (4, .int x4), (5, .int x5), (6, .int x6)]) hx hb dX1_choose_55 hl (by decide) rfl (fun ls hl => ?_)
      refine lv_iload hx hb dX1_choose_57 (lv_at hl 0 rfl) ?_
      refine lv_bipush (v := 12) hx hb dX1_choose_59 (by decide) ?_
      refine lv_icmp_lt (tgt := 66) hx hb dX1_choose_61 (by decide) (fun c9 => ?_) (fun c9 => ?_)
      · have hf := if_t hf c9
        refine lv_iload_n hx hb dX1_choose_66 rfl (lv_at hl 2 rfl) ?_
        refine lv_aload_n hx hb dX1_choose_67 rfl (lv_at hl 1 rfl) ?_
        refine kget (v := .ref (ad 27)) F B w inX1_choose_1 5 gX_5 rfl 2 (by decide) (hts (.fieldLink RX1 18 "LandReform$Holding" "standardSteps" "[I") (by decide +kernel)) rfl rfl dX1_choose_68 ?_
        refine lv_iload hx hb dX1_choose_71 (lv_at hl 0 rfl) ?_
        obtain ⟨g10, hf⟩ := if_g hf
        refine kiald F B w 27 gX_27 g10 dX1_choose_73 ?_
        refine lv_iadd hx hb dX1_choose_74 ?_
        refine lv_topi (fun v11 ev11 => ?_)
        have hf := lt_e hf ev11
        refine lv_istore_n (lv' := [(3, .int v11), (7, .int r8), (0, .ref (ad 5)), (4, .int x4), (5, .int x5), (6, .int x6)]) hx hb dX1_choose_75 rfl hl (by decide) rfl (fun ls hl => ?_)
        refine lv_iload hx hb dX1_choose_76 (lv_at hl 3 rfl) ?_
        refine lv_aload_n hx hb dX1_choose_78 rfl (lv_at hl 2 rfl) ?_
        refine kget (v := .ref (ad 28)) F B w inX1_choose_1 5 gX_5 rfl 3 (by decide) (hts (.fieldLink RX1 21 "LandReform$Holding" "areaSteps" "[I") (by decide +kernel)) rfl rfl dX1_choose_79 ?_
        refine lv_iload hx hb dX1_choose_82 (lv_at hl 1 rfl) ?_
        obtain ⟨g12, hf⟩ := if_g hf
        refine kiald F B w 28 gX_28 g12 dX1_choose_84 ?_
        refine lv_iadd hx hb dX1_choose_85 ?_
        refine lv_topi (fun v13 ev13 => ?_)
        have hf := lt_e hf ev13
        refine lv_istore (lv' := [(4, .int v13), (3, .int v11), (7, .int r8), (0, .ref (ad 5)), (5, .int x5), (6, .int x6)]) hx hb dX1_choose_86 hl (by decide) rfl (fun ls hl => ?_)
        refine lv_iload_n hx hb dX1_choose_88 rfl (lv_at hl 1 rfl) ?_
        refine lv_aload_n hx hb dX1_choose_89 rfl (lv_at hl 3 rfl) ?_
        refine kget (v := .int (S.1 14)) F B w inX1_choose_1 5 gX_5 rfl 7 (by decide) (hts (.fieldLink RX1 97 "LandReform$Holding" "allowed" "I") (by decide +kernel)) rfl rfl dX1_choose_90 ?_
        refine lv_icmp_gt (tgt := 117) hx hb dX1_choose_93 (by decide) (fun c14 => ?_) (fun c14 => ?_)
        · have hf := if_t hf c14
          refine lv_iinc (v := (x6 + 1)) (lv' := [(6, .int (x6 + 1)), (4, .int v13), (3, .int v11), (7, .int r8), (0, .ref (ad 5)), (5, .int x5)]) hx hb dX1_choose_117 hl (k := 5) rfl rfl (by decide) rfl (fun ls hl => ?_)
          refine lv_goto (tgt := 43) hx hb dX1_choose_120 (by decide) ?_
          exact ih _ _ _ _ _ _ _ w (lv_sub hl [4, 2, 1, 5, 0] rfl) hf
        · have hf := if_f hf c14
          refine lv_iload hx hb dX1_choose_96 (lv_at hl 0 rfl) ?_
          refine lv_aload_n hx hb dX1_choose_98 rfl (lv_at hl 3 rfl) ?_
          refine kget (v := .int (S.1 16)) F B w inX1_choose_1 5 gX_5 rfl 9 (by decide) (hts (.fieldLink RX1 113 "LandReform$Holding" "keptArea" "I") (by decide +kernel)) rfl rfl dX1_choose_99 ?_
          refine lv_icmp_le (tgt := 117) hx hb dX1_choose_102 (by decide) (fun c15 => ?_) (fun c15 => ?_)
          · have hf := if_t hf c15
            refine lv_iinc (v := (x6 + 1)) (lv' := [(6, .int (x6 + 1)), (4, .int v13), (3, .int v11), (7, .int r8), (0, .ref (ad 5)), (5, .int x5)]) hx hb dX1_choose_117 hl (k := 5) rfl rfl (by decide) rfl (fun ls hl => ?_)
            refine lv_goto (tgt := 43) hx hb dX1_choose_120 (by decide) ?_
            exact ih _ _ _ _ _ _ _ w (lv_sub hl [4, 2, 1, 5, 0] rfl) hf
          · have hf := if_f hf c15
            refine lv_aload_n hx hb dX1_choose_105 rfl (lv_at hl 3 rfl) ?_
            refine lv_iload hx hb dX1_choose_106 (lv_at hl 5 rfl) ?_
            refine kput (ty := .int) F B w inX1_choose_1 tyX1 tyX1_ok nmX1 5 gX_5 rfl 8 (by decide) (hts (.fieldLink RX1 110 "LandReform$Holding" "keptSet" "I") (by decide +kernel)) rfl rfl (by decide +kernel) rfl rfl (Nat.le_of_ble_eq_true rfl) pX_15 dX1_choose_108 (fun H locs w => ?_)
            obtain ⟨S16, eS16⟩ : ∃ z, z = sS S 15 x6 := ⟨_, rfl⟩
            rw [← eS16] at w
            have hf := lt_e hf eS16
            refine lv_aload_n hx hb dX1_choose_111 rfl (lv_at hl 3 rfl) ?_
            refine lv_iload hx hb dX1_choose_112 (lv_at hl 0 rfl) ?_
            refine kput (ty := .int) F B w inX1_choose_1 tyX1 tyX1_ok nmX1 5 gX_5 rfl 9 (by decide) (hts (.fieldLink RX1 113 "LandReform$Holding" "keptArea" "I") (by decide +kernel)) rfl rfl (by decide +kernel) rfl rfl (Nat.le_of_ble_eq_true rfl) pX_16 dX1_choose_114 (fun H locs w => ?_)
            obtain ⟨S17, eS17⟩ : ∃ z, z = sS S16 16 v13 := ⟨_, rfl⟩
            rw [← eS17] at w
            have hf := lt_e hf eS17
            refine lv_iinc (v := (x6 + 1)) (lv' := [(6, .int (x6 + 1)), (4, .int v13), (3, .int v11), (7, .int r8), (0, .ref (ad 5)), (5, .int x5)]) hx hb dX1_choose_117 hl (k := 5) rfl rfl (by decide) rfl (fun ls hl => ?_)
            refine lv_goto (tgt := 43) hx hb dX1_choose_120 (by decide) ?_
            exact ih _ _ _ _ _ _ _ w (lv_sub hl [4, 2, 1, 5, 0] rfl) hf
      · have hf := if_f hf c9
        refine lv_iconst (v := 0) hx hb dX1_choose_64 (by decide) ?_
        cases hf
        exact hQ _ _ _ _ dX1_choose_65 (by decide) w
set_option maxHeartbeats 4000000 in
set_option maxRecDepth 100000 in
theorem tX1_choose {l : Launch} {D : va_G} {cc : Nat → ClassId} {ak av : Nat → Nat} {ad : Nat → Nat} {g : Nat → Option Nat} {E : va_W} {n : Nat} {S : St} {r : Int32} {S' : St} (hf : fX1_choose n S = some (r, S')) : CI l yX1_choose wsX1_choose ({ frames := 5, cells := 0, slots := 0, locals := 112 } : Room) D cc ak av [.ref (ad 5), .ref (ad 2), .ref (ad 10)] (WX cc ad g S ++ E) (WX cc ad g S' ++ E) r := by
  refine mkZ (c0 := cX1_choose) (nL := 8) (own := RX1) rfl rfl (by decide) rfl rfl (Nat.le_of_ble_eq_true rfl) ?_
  intro p e s m args below meth c A Q ls F B hQ hl w
  have hx := F.1
  have hb := F.2.1
  have hown := F.2.2.2.1
  have hts := F.2.2.2.2
  have hl : lv_has ls 8 [(0, .ref (ad 5)), (1, .ref (ad 2)), (2, .ref (ad 10))] := hl
  unfold fX1_choose at hf
  refine lv_aload_n hx hb dX1_choose_0 rfl (lv_at hl 0 rfl) ?_
  refine kget (v := .int (S.1 11)) F B w inX1_choose_1 5 gX_5 rfl 4 (by decide) (hts (.fieldLink RX1 69 "LandReform$Holding" "size" "I") (by decide +kernel)) rfl rfl dX1_choose_1 ?_
  refine lv_bipush (v := 12) hx hb dX1_choose_4 (by decide) ?_
  refine lv_icmp_le (tgt := 11) hx hb dX1_choose_6 (by decide) (fun c1 => ?_) (fun c1 => ?_)
  · have hf := if_t hf c1
    refine lv_aload_n hx hb dX1_choose_11 rfl (lv_at hl 0 rfl) ?_
    refine lv_aload_n hx hb dX1_choose_12 rfl (lv_at hl 1 rfl) ?_
    refine lv_aload_n hx hb dX1_choose_13 rfl (lv_at hl 2 rfl) ?_
    obtain ⟨S3, er2, hf⟩ := ob_e hf
    refine kVv (As := [.ref (ad 2), .ref (ad 10)]) (rest := []) F B w (tX1_prepareSteps er2) (cwV 2 hts gX1_choose_X1_prepareSteps rfl rfl rfl (by decide +kernel) ⟨Nat.le_of_ble_eq_true rfl, Nat.le_of_ble_eq_true rfl⟩) 5 gX_5 rfl rfl hl.1 rfl (Nat.le_of_ble_eq_true rfl) dX1_choose_14 ⟨Nat.le_of_ble_eq_true rfl, Nat.le_of_ble_eq_true rfl⟩ (fun H locs w => ?_)
    refine lv_aload_n hx hb dX1_choose_17 rfl (lv_at hl 0 rfl) ?_
    refine lv_iconst (v := 0) hx hb dX1_choose_18 (by decide) ?_
    refine kput (ty := .int) F B w inX1_choose_1 tyX1 tyX1_ok nmX1 5 gX_5 rfl 8 (by decide) (hts (.fieldLink RX1 110 "LandReform$Holding" "keptSet" "I") (by decide +kernel)) rfl rfl (by decide +kernel) rfl rfl (Nat.le_of_ble_eq_true rfl) pX_15 dX1_choose_19 (fun H locs w => ?_)
    obtain ⟨S4, eS4⟩ : ∃ z, z = sS S3 15 0 := ⟨_, rfl⟩
    rw [← eS4] at w
    have hf := lt_e hf eS4
    refine lv_aload_n hx hb dX1_choose_22 rfl (lv_at hl 0 rfl) ?_
    refine lv_iconst (v := 0) hx hb dX1_choose_23 (by decide) ?_
    refine kput (ty := .int) F B w inX1_choose_1 tyX1 tyX1_ok nmX1 5 gX_5 rfl 9 (by decide) (hts (.fieldLink RX1 113 "LandReform$Holding" "keptArea" "I") (by decide +kernel)) rfl rfl (by decide +kernel) rfl rfl (Nat.le_of_ble_eq_true rfl) pX_16 dX1_choose_24 (fun H locs w => ?_)
    obtain ⟨S5, eS5⟩ : ∃ z, z = sS S4 16 0 := ⟨_, rfl⟩
    rw [← eS5] at w
    have hf := lt_e hf eS5
    refine lv_iconst (v := 0) hx hb dX1_choose_27 (by decide) ?_
    refine lv_istore_n (lv' := [(3, .int 0), (0, .ref (ad 5)), (1, .ref (ad 2)), (2, .ref (ad 10))]) hx hb dX1_choose_28 rfl hl (by decide) rfl (fun ls hl => ?_)
    refine lv_iconst (v := 0) hx hb dX1_choose_29 (by decide) ?_
    refine lv_istore (lv' := [(4, .int 0), (3, .int 0), (0, .ref (ad 5)), (1, .ref (ad 2)), (2, .ref (ad 10))]) hx hb dX1_choose_30 hl (by decide) rfl (fun ls hl => ?_)
    refine lv_iconst (v := 1) hx hb dX1_choose_32 (by decide) ?_
    refine lv_aload_n hx hb dX1_choose_33 rfl (lv_at hl 2 rfl) ?_
    refine kget (v := .int (S5.1 11)) F B w inX1_choose_1 5 gX_5 rfl 4 (by decide) (hts (.fieldLink RX1 69 "LandReform$Holding" "size" "I") (by decide +kernel)) rfl rfl dX1_choose_34 ?_
    refine lv_ishl hx hb dX1_choose_37 ?_
    refine lv_topi (fun v6 ev6 => ?_)
    have hf := lt_e hf ev6
    refine lv_istore (lv' := [(5, .int v6), (4, .int 0), (3, .int 0), (0, .ref (ad 5)), (1, .ref (ad 2)), (2, .ref (ad 10))]) hx hb dX1_choose_38 hl (by decide) rfl (fun ls hl => ?_)
    refine lv_iconst (v := 1) hx hb dX1_choose_40 (by decide) ?_
    refine lv_istore (lv' := [(6, .int 1), (5, .int v6), (4, .int 0), (3, .int 0), (0, .ref (ad 5)), (1, .ref (ad 2)), (2, .ref (ad 10))]) hx hb dX1_choose_41 hl (by decide) rfl (fun ls hl => ?_)
    refine wX1_choose_L43 F B hQ (fun x18 x19 x20 S21 H locs ls w hl hf => ?_) n _ _ _ _ _ _ _ w (lv_sub hl [4, 3, 2, 1, 0] rfl) hf
    refine lv_iconst (v := 1) hx hb dX1_choose_123 (by decide) ?_
    cases hf
    exact hQ _ _ _ _ dX1_choose_124 (by decide) w
  · have hf := if_f hf c1
    refine lv_iconst (v := 0) hx hb dX1_choose_9 (by decide) ?_
    cases hf
    exact hQ _ _ _ _ dX1_choose_10 (by decide) w
