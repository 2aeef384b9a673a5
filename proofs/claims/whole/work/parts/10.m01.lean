def fX11_day (S : St) (x1 : Int32) : Option (Int32 × St) := if x1 ≤ (S.1 0) then (some (0, S)) else (if x1 ≤ 1000 then (lt_ (sS S 0 x1) fun S3 => some (1, S3)) else (some (0, S)))
set_option maxRecDepth 20000 in
theorem inX11_day_11 : ∀ w ∈ u_ws RX11 TX11 47, w ∈ wsX11_day := by decide +kernel
set_option maxHeartbeats 4000000 in
set_option maxRecDepth 100000 in
theorem tX11_day {l : Launch} {D : va_G} {cc : Nat → ClassId} {ak av : Nat → Nat} {ad : Nat → Nat} {E : va_W} {S : St} {x1 : Int32} {r : Int32} {S' : St} (hf : fX11_day S x1 = some (r, S')) : CI l yX11_day wsX11_day ({ frames := 0, cells := 0, slots := 0, locals := 0 } : Room) D cc ak av [.ref (ad 0), .int x1] (WM cc ad S ++ E) (WM cc ad S' ++ E) r := by
  refine mkZ (c0 := cX11_day) (nL := 2) (own := RX11) rfl rfl (by decide) rfl rfl (Nat.le_of_ble_eq_true rfl) ?_
  intro p e s m args below meth c A Q ls F B hQ hl w
  have hx := F.1
  have hb := F.2.1
  have hown := F.2.2.2.1
  have hts := F.2.2.2.2
  have hl : lv_has ls 2 [(0, .ref (ad 0)), (1, .int x1)] := hl
  unfold fX11_day at hf
  refine lv_iload_n hx hb dX11_day_0 rfl (lv_at hl 1 rfl) ?_
  refine lv_aload_n hx hb dX11_day_1 rfl (lv_at hl 0 rfl) ?_
  refine kget (v := .int (S.1 0)) F B w inX11_day_11 0 gM_0 rfl 0 (by decide) (hts (.fieldLink RX11 130 "LandReformModel" "today" "I") (by decide +kernel)) rfl rfl dX11_day_2 ?_
  refine lv_icmp_le (tgt := 15) hx hb dX11_day_5 (by decide) (fun c1 => ?_) (fun c1 => ?_)
  · have hf := if_t hf c1
    refine lv_iconst (v := 0) hx hb dX11_day_15 (by decide) ?_
    cases hf
    exact hQ _ _ _ _ dX11_day_16 (by decide) w
  · have hf := if_f hf c1
    refine lv_iload_n hx hb dX11_day_8 rfl (lv_at hl 1 rfl) ?_
    refine lv_sipush (v := 1000) hx hb dX11_day_9 (by decide) ?_
    refine lv_icmp_le (tgt := 17) hx hb dX11_day_12 (by decide) (fun c2 => ?_) (fun c2 => ?_)
    · have hf := if_t hf c2
      refine lv_aload_n hx hb dX11_day_17 rfl (lv_at hl 0 rfl) ?_
      refine lv_iload_n hx hb dX11_day_18 rfl (lv_at hl 1 rfl) ?_
      refine kput (ty := .int) F B w inX11_day_11 tyX11 tyX11_ok nmX11 0 gM_0 rfl 0 (by decide) (hts (.fieldLink RX11 130 "LandReformModel" "today" "I") (by decide +kernel)) rfl rfl (by decide +kernel) rfl rfl (Nat.le_of_ble_eq_true rfl) pM_0 dX11_day_19 (fun H locs w => ?_)
      obtain ⟨S3, eS3⟩ : ∃ z, z = sS S 0 x1 := ⟨_, rfl⟩
      rw [← eS3] at w
      have hf := lt_e hf eS3
      refine lv_iconst (v := 1) hx hb dX11_day_22 (by decide) ?_
      cases hf
      exact hQ _ _ _ _ dX11_day_23 (by decide) w
    · have hf := if_f hf c2
      refine lv_iconst (v := 0) hx hb dX11_day_15 (by decide) ?_
      cases hf
      exact hQ _ _ _ _ dX11_day_16 (by decide) w

def fX11_ownerOn_L10 (n : Nat) (x1 : Int32) (x2 : Int32) (S : St) (k : Int32 → Int32 → Option Int32) : Nat → Int32 → Int32 → Option Int32
  | 0, _, _ => none
  | fu + 1, x3, x4 => if (S.1 3) ≤ x4 then (k x3 x4) else (if x4 < 0 ∨ 200 ≤ Int32.toNatClampNeg x4 then none else if (S.2.1 13 (Int32.toNatClampNeg x4)) = x1 then (if x4 < 0 ∨ 200 ≤ Int32.toNatClampNeg x4 then none else if x2 < (S.2.1 15 (Int32.toNatClampNeg x4)) then (fX11_ownerOn_L10 n x1 x2 S k fu x3 (x4 + 1)) else (if x4 < 0 ∨ 200 ≤ Int32.toNatClampNeg x4 then none else lt_ (S.2.1 14 (Int32.toNatClampNeg x4)) fun v9 => fX11_ownerOn_L10 n x1 x2 S k fu v9 (x4 + 1))) else (fX11_ownerOn_L10 n x1 x2 S k fu x3 (x4 + 1)))
def fX11_ownerOn (n : Nat) (S : St) (x1 : Int32) (x2 : Int32) : Option Int32 := if x1 < 0 ∨ 60 ≤ Int32.toNatClampNeg x1 then none else lt_ (S.2.1 12 (Int32.toNatClampNeg x1)) fun v2 => fX11_ownerOn_L10 n x1 x2 S (fun x10 x11 => some x10) n v2 0
set_option maxRecDepth 20000 in
theorem inX11_ownerOn_11 : ∀ w ∈ u_ws RX11 TX11 47, w ∈ wsX11_ownerOn := by decide +kernel
set_option maxHeartbeats 4000000 in
set_option maxRecDepth 100000 in
theorem wX11_ownerOn_L10 {p : Program} {l : Launch} {e : Env} {s : State} {m : MethodId} {args : Array Value} {below : List Frame} {meth : Method} {c : Code} {Q : State → Prop} {D : va_G} {cc : Nat → ClassId} {ak av : Nat → Nat} {A : Nat → Prop} {ad : Nat → Nat} {E : va_W} {n : Nat} {x1 : Int32} {x2 : Int32} {S : St} {r : Int32} {k : Int32 → Int32 → Option Int32} (F : CallFix p m c cX11_ownerOn 5 s args wsX11_ownerOn RX11) (B : Bd D cc ak av A s) (hQ : RetI p l e ({ frames := 0, cells := 0, slots := 0, locals := 0 } : Room) s m args below meth c D A Q cX11_ownerOn (WM cc ad S ++ E) r)
    (hk : ∀ (x3 : Int32) (x4 : Int32) (H : Heap) (locs : List Loc) (ls : Array Slot), Wd D A s.heap H locs (WM cc ad S ++ E) → lv_has ls 5 [(0, .ref (ad 0)), (1, .int x1), (2, .int x2), (3, .int x3), (4, .int x4)] → k x3 x4 = some r → W p l e ({ frames := 0, cells := 0, slots := 0, locals := 0 } : Room) s m args below meth c H locs 0 0 Q (F0 m 55 ls [])) :
    ∀ (fu : Nat) (x3 : Int32) (x4 : Int32) (H : Heap) (locs : List Loc) (ls : Array Slot), Wd D A s.heap H locs (WM cc ad S ++ E) → lv_has ls 5 [(0, .ref (ad 0)), (1, .int x1), (2, .int x2), (3, .int x3), (4, .int x4)] → fX11_ownerOn_L10 n x1 x2 S k fu x3 x4 = some r → W p l e ({ frames := 0, cells := 0, slots := 0, locals := 0 } : Room) s m args below meth c H locs 0 0 Q (F0 m 10 ls []) := by
  have hx := F.1
  have hb := F.2.1
  have hown := F.2.2.2.1
  have hts := F.2.2.2.2
  intro fu
  induction fu with
  | zero => intro x3 x4 H locs ls w hl hf; rw [fX11_ownerOn_L10] at hf; cases hf
  | succ fu ih =>
    intro x3 x4 H locs ls w hl hf
    rw [fX11_ownerOn_L10] at hf
    refine lv_iload hx hb dX11_ownerOn_10 (lv_at hl 4 rfl) ?_
    refine lv_aload_n hx hb dX11_ownerOn_12 rfl (lv_at hl 0 rfl) ?_
    refine kget (v := .int (S.1 3)) F B w inX11_ownerOn_11 0 gM_0 rfl 3 (by decide) (hts (.fieldLink RX11 133 "LandReformModel" "transfers" "I") (by decide +kernel)) rfl rfl dX11_ownerOn_13 ?_
    refine lv_icmp_ge (tgt := 55) hx hb dX11_ownerOn_16 (by decide) (fun c3 => ?_) (fun c3 => ?_)
    · have hf := if_t hf c3
      exact hk _ _ _ _ _ w (lv_sub hl [0, 1, 2, 3, 4] rfl) hf
    · have hf := if_f hf c3
      refine lv_aload_n hx hb dX11_ownerOn_19 rfl (lv_at hl 0 rfl) ?_
      refine kget (v := .ref (ad 9)) F B w inX11_ownerOn_11 0 gM_0 rfl 13 (by decide) (hts (.fieldLink RX11 35 "LandReformModel" "transferred" "[I") (by decide +kernel)) rfl rfl dX11_ownerOn_20 ?_
      refine lv_iload hx hb dX11_ownerOn_23 (lv_at hl 4 rfl) ?_
      obtain ⟨g4, hf⟩ := if_g hf
      refine kiald F B w 9 gM_9 g4 dX11_ownerOn_25 ?_
      refine lv_iload_n hx hb dX11_ownerOn_26 rfl (lv_at hl 1 rfl) ?_
      refine lv_icmp_ne (tgt := 49) hx hb dX11_ownerOn_27 (by decide) (fun c5 => ?_) (fun c5 => ?_)
      · have hf := if_f hf c5
        refine lv_iinc (v := (x4 + 1)) (lv' := [(4, .int (x4 + 1)), (0, .ref (ad 0)), (1, .int x1), (2, .int x2), (3, .int x3)]) hx hb dX11_ownerOn_49 hl (k := 4) rfl rfl (by decide) rfl (fun ls hl => ?_)
        refine lv_goto (tgt := 10) hx hb dX11_ownerOn_52 (by decide) ?_
        exact ih _ _ _ _ _ w (lv_sub hl [1, 2, 3, 4, 0] rfl) hf
      · have hf := if_t hf c5
        refine lv_aload_n hx hb dX11_ownerOn_30 rfl (lv_at hl 0 rfl) ?_
        refine kget (v := .ref (ad 11)) F B w inX11_ownerOn_11 0 gM_0 rfl 15 (by decide) (hts (.fieldLink RX11 41 "LandReformModel" "goesOn" "[I") (by decide +kernel)) rfl rfl dX11_ownerOn_31 ?_
        refine lv_iload hx hb dX11_ownerOn_34 (lv_at hl 4 rfl) ?_
        obtain ⟨g6, hf⟩ := if_g hf
        refine kiald F B w 11 gM_11 g6 dX11_ownerOn_36 ?_
        refine lv_iload_n hx hb dX11_ownerOn_37 rfl (lv_at hl 2 rfl) ?_
        refine lv_icmp_gt (tgt := 49) hx hb dX11_ownerOn_38 (by decide) (fun c7 => ?_) (fun c7 => ?_)
        · have hf := if_t hf c7
          refine lv_iinc (v := (x4 + 1)) (lv' := [(4, .int (x4 + 1)), (0, .ref (ad 0)), (1, .int x1), (2, .int x2), (3, .int x3)]) hx hb dX11_ownerOn_49 hl (k := 4) rfl rfl (by decide) rfl (fun ls hl => ?_)
          refine lv_goto (tgt := 10) hx hb dX11_ownerOn_52 (by decide) ?_
          exact ih _ _ _ _ _ w (lv_sub hl [1, 2, 3, 4, 0] rfl) hf
        · have hf := if_f hf c7
          refine lv_aload_n hx hb dX11_ownerOn_41 rfl (lv_at hl 0 rfl) ?_
          refine kget (v := .ref (ad 10)) F B w inX11_ownerOn_11 0 gM_0 rfl 14 (by decide) (hts (.fieldLink RX11 38 "LandReformModel" "goesTo" "[I") (by decide +kernel)) rfl rfl dX11_ownerOn_42 ?_
          refine lv_iload hx hb dX11_ownerOn_45 (lv_at hl 4 rfl) ?_
          obtain ⟨g8, hf⟩ := if_g hf
          refine kiald F B w 10 gM_10 g8 dX11_ownerOn_47 ?_
          refine lv_topi (fun v9 ev9 => ?_)
          have hf := lt_e hf ev9
          refine lv_istore_n (lv' := [(3, .int v9), (0, .ref (ad 0)), (1, .int x1), (2, .int x2), (4, .int x4)]) hx hb dX11_ownerOn_48 rfl hl (by decide) rfl (fun ls hl => ?_)
          refine lv_iinc (v := (x4 + 1)) (lv' := [(4, .int (x4 + 1)), (3, .int v9), (0, .ref (ad 0)), (1, .int x1), (2, .int x2)]) hx hb dX11_ownerOn_49 hl (k := 4) rfl rfl (by decide) rfl (fun ls hl => ?_)
          refine lv_goto (tgt := 10) hx hb dX11_ownerOn_52 (by decide) ?_
          exact ih _ _ _ _ _ w (lv_sub hl [2, 3, 4, 1, 0] rfl) hf
set_option maxHeartbeats 4000000 in
set_option maxRecDepth 100000 in
theorem tX11_ownerOn {l : Launch} {D : va_G} {cc : Nat → ClassId} {ak av : Nat → Nat} {ad : Nat → Nat} {E : va_W} {n : Nat} {S : St} {x1 : Int32} {x2 : Int32} {r : Int32} (hf : fX11_ownerOn n S x1 x2 = some r) : CI l yX11_ownerOn wsX11_ownerOn ({ frames := 0, cells := 0, slots := 0, locals := 0 } : Room) D cc ak av [.ref (ad 0), .int x1, .int x2] (WM cc ad S ++ E) (WM cc ad S ++ E) r := by
  refine mkI (c0 := cX11_ownerOn) (nL := 5) (own := RX11) rfl rfl (by decide) rfl rfl (Nat.le_of_ble_eq_true rfl) ?_
  intro p e s m args below meth c A Q ls F B hQ hl w
  have hx := F.1
  have hb := F.2.1
  have hown := F.2.2.2.1
  have hts := F.2.2.2.2
  have hl : lv_has ls 5 [(0, .ref (ad 0)), (1, .int x1), (2, .int x2)] := hl
  unfold fX11_ownerOn at hf
  refine lv_aload_n hx hb dX11_ownerOn_0 rfl (lv_at hl 0 rfl) ?_
  refine kget (v := .ref (ad 8)) F B w inX11_ownerOn_11 0 gM_0 rfl 12 (by decide) (hts (.fieldLink RX11 32 "LandReformModel" "firstOwner" "[I") (by decide +kernel)) rfl rfl dX11_ownerOn_1 ?_
  refine lv_iload_n hx hb dX11_ownerOn_4 rfl (lv_at hl 1 rfl) ?_
  obtain ⟨g1, hf⟩ := if_g hf
  refine kiald F B w 8 gM_8 g1 dX11_ownerOn_5 ?_
  refine lv_topi (fun v2 ev2 => ?_)
  have hf := lt_e hf ev2
  refine lv_istore_n (lv' := [(3, .int v2), (0, .ref (ad 0)), (1, .int x1), (2, .int x2)]) hx hb dX11_ownerOn_6 rfl hl (by decide) rfl (fun ls hl => ?_)
  refine lv_iconst (v := 0) hx hb dX11_ownerOn_7 (by decide) ?_
  refine lv_istore (lv' := [(4, .int 0), (3, .int v2), (0, .ref (ad 0)), (1, .int x1), (2, .int x2)]) hx hb dX11_ownerOn_8 hl (by decide) rfl (fun ls hl => ?_)
  refine wX11_ownerOn_L10 F B hQ (fun x10 x11 H locs ls w hl hf => ?_) n _ _ _ _ _ w (lv_sub hl [2, 3, 4, 1, 0] rfl) hf
  refine lv_iload_n hx hb dX11_ownerOn_55 rfl (lv_at hl 3 rfl) ?_
  cases hf
  exact hQ _ _ _ _ dX11_ownerOn_56 w

def fX11_owner (n : Nat) (S : St) (x1 : Int32) : Option Int32 := ob (fX11_ownerOn n S x1 (S.1 0)) fun r1 => some r1
set_option maxRecDepth 20000 in
theorem inX11_owner_11 : ∀ w ∈ u_ws RX11 TX11 47, w ∈ wsX11_owner := by decide +kernel
set_option maxHeartbeats 4000000 in
set_option maxRecDepth 100000 in
theorem tX11_owner {l : Launch} {D : va_G} {cc : Nat → ClassId} {ak av : Nat → Nat} {ad : Nat → Nat} {E : va_W} {n : Nat} {S : St} {x1 : Int32} {r : Int32} (hf : fX11_owner n S x1 = some r) : CI l yX11_owner wsX11_owner ({ frames := 1, cells := 0, slots := 0, locals := 24 } : Room) D cc ak av [.ref (ad 0), .int x1] (WM cc ad S ++ E) (WM cc ad S ++ E) r := by
  refine mkI (c0 := cX11_owner) (nL := 2) (own := RX11) rfl rfl (by decide) rfl rfl (Nat.le_of_ble_eq_true rfl) ?_
  intro p e s m args below meth c A Q ls F B hQ hl w
  have hx := F.1
  have hb := F.2.1
  have hown := F.2.2.2.1
  have hts := F.2.2.2.2
  have hl : lv_has ls 2 [(0, .ref (ad 0)), (1, .int x1)] := hl
  unfold fX11_owner at hf
  refine lv_aload_n hx hb dX11_owner_0 rfl (lv_at hl 0 rfl) ?_
  refine lv_iload_n hx hb dX11_owner_1 rfl (lv_at hl 1 rfl) ?_
  refine lv_aload_n hx hb dX11_owner_2 rfl (lv_at hl 0 rfl) ?_
  refine kget (v := .int (S.1 0)) F B w inX11_owner_11 0 gM_0 rfl 0 (by decide) (hts (.fieldLink RX11 130 "LandReformModel" "today" "I") (by decide +kernel)) rfl rfl dX11_owner_3 ?_
  obtain ⟨r1, er1, hf⟩ := ob_e hf
  refine kVi (As := [.int x1, .int (S.1 0)]) (rest := []) F B w (tX11_ownerOn er1) (cwV 2 hts gX11_owner_X11_ownerOn rfl rfl rfl (by decide +kernel) ⟨Nat.le_of_ble_eq_true rfl, Nat.le_of_ble_eq_true rfl⟩) 0 gM_0 rfl rfl hl.1 rfl (Nat.le_of_ble_eq_true rfl) dX11_owner_6 ⟨Nat.le_of_ble_eq_true rfl, Nat.le_of_ble_eq_true rfl⟩ (fun H locs w => ?_)
  cases hf
  exact hQ _ _ _ _ dX11_owner_9 w

def fX11_goes (S : St) (x1 : Int32) (x2 : Int32) : Option St := if (S.1 3) < 0 ∨ 200 ≤ Int32.toNatClampNeg (S.1 3) then none else lt_ (sA S 13 (Int32.toNatClampNeg (S.1 3)) x1) fun S2 => if (S2.1 3) < 0 ∨ 200 ≤ Int32.toNatClampNeg (S2.1 3) then none else lt_ (sA S2 14 (Int32.toNatClampNeg (S2.1 3)) x2) fun S4 => if (S4.1 3) < 0 ∨ 200 ≤ Int32.toNatClampNeg (S4.1 3) then none else lt_ (sA S4 15 (Int32.toNatClampNeg (S4.1 3)) (S4.1 0)) fun S6 => lt_ (sS S6 3 ((S6.1 3) + 1)) fun S7 => some S7
set_option maxRecDepth 20000 in
theorem inX11_goes_11 : ∀ w ∈ u_ws RX11 TX11 47, w ∈ wsX11_goes := by decide +kernel
set_option maxHeartbeats 4000000 in
set_option maxRecDepth 100000 in
theorem tX11_goes {l : Launch} {D : va_G} {cc : Nat → ClassId} {ak av : Nat → Nat} {ad : Nat → Nat} {E : va_W} {S : St} {x1 : Int32} {x2 : Int32} {S' : St} (hf : fX11_goes S x1 x2 = some S') : CV l yX11_goes wsX11_goes ({ frames := 0, cells := 0, slots := 0, locals := 0 } : Room) D cc ak av [.ref (ad 0), .int x1, .int x2] (WM cc ad S ++ E) (WM cc ad S' ++ E) := by
  refine mkV (c0 := cX11_goes) (nL := 3) (own := RX11) rfl rfl (by decide) rfl rfl (Nat.le_of_ble_eq_true rfl) ?_
  intro p e s m args below meth c A Q ls F B hQ hl w
  have hx := F.1
  have hb := F.2.1
  have hown := F.2.2.2.1
  have hts := F.2.2.2.2
  have hl : lv_has ls 3 [(0, .ref (ad 0)), (1, .int x1), (2, .int x2)] := hl
  unfold fX11_goes at hf
  refine lv_aload_n hx hb dX11_goes_0 rfl (lv_at hl 0 rfl) ?_
  refine kget (v := .ref (ad 9)) F B w inX11_goes_11 0 gM_0 rfl 13 (by decide) (hts (.fieldLink RX11 35 "LandReformModel" "transferred" "[I") (by decide +kernel)) rfl rfl dX11_goes_1 ?_
  refine lv_aload_n hx hb dX11_goes_4 rfl (lv_at hl 0 rfl) ?_
  refine kget (v := .int (S.1 3)) F B w inX11_goes_11 0 gM_0 rfl 3 (by decide) (hts (.fieldLink RX11 133 "LandReformModel" "transfers" "I") (by decide +kernel)) rfl rfl dX11_goes_5 ?_
  refine lv_iload_n hx hb dX11_goes_8 rfl (lv_at hl 1 rfl) ?_
  obtain ⟨g1, hf⟩ := if_g hf
  refine kiast F B w 9 gM_9 g1 bM_9 dX11_goes_9 (fun H locs w => ?_)
  obtain ⟨S2, eS2⟩ : ∃ z, z = sA S 13 (Int32.toNatClampNeg (S.1 3)) x1 := ⟨_, rfl⟩
  rw [← eS2] at w
  have hf := lt_e hf eS2
  refine lv_aload_n hx hb dX11_goes_10 rfl (lv_at hl 0 rfl) ?_
  refine kget (v := .ref (ad 10)) F B w inX11_goes_11 0 gM_0 rfl 14 (by decide) (hts (.fieldLink RX11 38 "LandReformModel" "goesTo" "[I") (by decide +kernel)) rfl rfl dX11_goes_11 ?_
  refine lv_aload_n hx hb dX11_goes_14 rfl (lv_at hl 0 rfl) ?_
  refine kget (v := .int (S2.1 3)) F B w inX11_goes_11 0 gM_0 rfl 3 (by decide) (hts (.fieldLink RX11 133 "LandReformModel" "transfers" "I") (by decide +kernel)) rfl rfl dX11_goes_15 ?_
  refine lv_iload_n hx hb dX11_goes_18 rfl (lv_at hl 2 rfl) ?_
  obtain ⟨g3, hf⟩ := if_g hf
  refine kiast F B w 10 gM_10 g3 bM_10 dX11_goes_19 (fun H locs w => ?_)
  obtain ⟨S4, eS4⟩ : ∃ z, z = sA S2 14 (Int32.toNatClampNeg (S2.1 3)) x2 := ⟨_, rfl⟩
  rw [← eS4] at w
  have hf := lt_e hf eS4
  refine lv_aload_n hx hb dX11_goes_20 rfl (lv_at hl 0 rfl) ?_
  refine kget (v := .ref (ad 11)) F B w inX11_goes_11 0 gM_0 rfl 15 (by decide) (hts (.fieldLink RX11 41 "LandReformModel" "goesOn" "[I") (by decide +kernel)) rfl rfl dX11_goes_21 ?_
  refine lv_aload_n hx hb dX11_goes_24 rfl (lv_at hl 0 rfl) ?_
  refine kget (v := .int (S4.1 3)) F B w inX11_goes_11 0 gM_0 rfl 3 (by decide) (hts (.fieldLink RX11 133 "LandReformModel" "transfers" "I") (by decide +kernel)) rfl rfl dX11_goes_25 ?_
  refine lv_aload_n hx hb dX11_goes_28 rfl (lv_at hl 0 rfl) ?_
  refine kget (v := .int (S4.1 0)) F B w inX11_goes_11 0 gM_0 rfl 0 (by decide) (hts (.fieldLink RX11 130 "LandReformModel" "today" "I") (by decide +kernel)) rfl rfl dX11_goes_29 ?_
  obtain ⟨g5, hf⟩ := if_g hf
  refine kiast F B w 11 gM_11 g5 bM_11 dX11_goes_32 (fun H locs w => ?_)
  obtain ⟨S6, eS6⟩ : ∃ z, z = sA S4 15 (Int32.toNatClampNeg (S4.1 3)) (S4.1 0) := ⟨_, rfl⟩
  rw [← eS6] at w
  have hf := lt_e hf eS6
  refine lv_aload_n hx hb dX11_goes_33 rfl (lv_at hl 0 rfl) ?_
  refine lv_dup hx hb dX11_goes_34 rfl ?_
  refine kget (v := .int (S6.1 3)) F B w inX11_goes_11 0 gM_0 rfl 3 (by decide) (hts (.fieldLink RX11 133 "LandReformModel" "transfers" "I") (by decide +kernel)) rfl rfl dX11_goes_35 ?_
  refine lv_iconst (v := 1) hx hb dX11_goes_38 (by decide) ?_
  refine lv_iadd hx hb dX11_goes_39 ?_
  refine kput (ty := .int) F B w inX11_goes_11 tyX11 tyX11_ok nmX11 0 gM_0 rfl 3 (by decide) (hts (.fieldLink RX11 133 "LandReformModel" "transfers" "I") (by decide +kernel)) rfl rfl (by decide +kernel) rfl rfl (Nat.le_of_ble_eq_true rfl) pM_3 dX11_goes_40 (fun H locs w => ?_)
  obtain ⟨S7, eS7⟩ : ∃ z, z = sS S6 3 ((S6.1 3) + 1) := ⟨_, rfl⟩
  rw [← eS7] at w
  have hf := lt_e hf eS7
  cases hf
  exact hQ _ _ _ _ dX11_goes_43 w

def fX11_transfer (n : Nat) (S : St) (x1 : Int32) (x2 : Int32) : Option (Int32 × St) := ob (fX11_isField S x1) fun r1 => if r1 = 0 then (some (0, S)) else (ob (fX11_isPerson S x2) fun r3 => if r3 = 0 then (some (0, S)) else (ob (fX11_owner n S x1) fun r5 => if r5 = x2 then (some (0, S)) else (if (S.1 3) = 200 then (some (0, S)) else (ob (fX11_goes S x1 x2) fun S9 => some (1, S9)))))
set_option maxRecDepth 20000 in
theorem inX11_transfer_11 : ∀ w ∈ u_ws RX11 TX11 47, w ∈ wsX11_transfer := by decide +kernel
set_option maxHeartbeats 4000000 in
set_option maxRecDepth 100000 in
theorem tX11_transfer {l : Launch} {D : va_G} {cc : Nat → ClassId} {ak av : Nat → Nat} {ad : Nat → Nat} {E : va_W} {n : Nat} {S : St} {x1 : Int32} {x2 : Int32} {r : Int32} {S' : St} (hf : fX11_transfer n S x1 x2 = some (r, S')) : CI l yX11_transfer wsX11_transfer ({ frames := 2, cells := 0, slots := 0, locals := 45 } : Room) D cc ak av [.ref (ad 0), .int x1, .int x2] (WM cc ad S ++ E) (WM cc ad S' ++ E) r := by
  refine mkZ (c0 := cX11_transfer) (nL := 3) (own := RX11) rfl rfl (by decide) rfl rfl (Nat.le_of_ble_eq_true rfl) ?_
  intro p e s m args below meth c A Q ls F B hQ hl w
  have hx := F.1
  have hb := F.2.1
  have hown := F.2.2.2.1
  have hts := F.2.2.2.2
  have hl : lv_has ls 3 [(0, .ref (ad 0)), (1, .int x1), (2, .int x2)] := hl
  unfold fX11_transfer at hf
  refine lv_aload_n hx hb dX11_transfer_0 rfl (lv_at hl 0 rfl) ?_
  refine lv_iload_n hx hb dX11_transfer_1 rfl (lv_at hl 1 rfl) ?_
  obtain ⟨r1, er1, hf⟩ := ob_e hf
  refine kVi (As := [.int x1]) (rest := []) F B w (tX11_isField er1) (cwV 1 hts gX11_transfer_X11_isField rfl rfl rfl (by decide +kernel) ⟨Nat.le_of_ble_eq_true rfl, Nat.le_of_ble_eq_true rfl⟩) 0 gM_0 rfl rfl hl.1 rfl (Nat.le_of_ble_eq_true rfl) dX11_transfer_2 ⟨Nat.le_of_ble_eq_true rfl, Nat.le_of_ble_eq_true rfl⟩ (fun H locs w => ?_)
  refine lv_if_eq (tgt := 35) hx hb dX11_transfer_5 (by decide) (fun c2 => ?_) (fun c2 => ?_)
  · have hf := if_t hf c2
    refine lv_iconst (v := 0) hx hb dX11_transfer_35 (by decide) ?_
    cases hf
    exact hQ _ _ _ _ dX11_transfer_36 (by decide) w
  · have hf := if_f hf c2
    refine lv_aload_n hx hb dX11_transfer_8 rfl (lv_at hl 0 rfl) ?_
    refine lv_iload_n hx hb dX11_transfer_9 rfl (lv_at hl 2 rfl) ?_
    obtain ⟨r3, er3, hf⟩ := ob_e hf
    refine kVi (As := [.int x2]) (rest := []) F B w (tX11_isPerson er3) (cwV 1 hts gX11_transfer_X11_isPerson rfl rfl rfl (by decide +kernel) ⟨Nat.le_of_ble_eq_true rfl, Nat.le_of_ble_eq_true rfl⟩) 0 gM_0 rfl rfl hl.1 rfl (Nat.le_of_ble_eq_true rfl) dX11_transfer_10 ⟨Nat.le_of_ble_eq_true rfl, Nat.le_of_ble_eq_true rfl⟩ (fun H locs w => ?_)
    refine lv_if_eq (tgt := 35) hx hb dX11_transfer_13 (by decide) (fun c4 => ?_) (fun c4 => ?_)
    · have hf := if_t hf c4
      refine lv_iconst (v := 0) hx hb dX11_transfer_35 (by decide) ?_
      cases hf
      exact hQ _ _ _ _ dX11_transfer_36 (by decide) w
    · have hf := if_f hf c4
      refine lv_aload_n hx hb dX11_transfer_16 rfl (lv_at hl 0 rfl) ?_
      refine lv_iload_n hx hb dX11_transfer_17 rfl (lv_at hl 1 rfl) ?_
      obtain ⟨r5, er5, hf⟩ := ob_e hf
      refine kVi (As := [.int x1]) (rest := []) F B w (tX11_owner er5) (cwV 1 hts gX11_transfer_X11_owner rfl rfl rfl (by decide +kernel) ⟨Nat.le_of_ble_eq_true rfl, Nat.le_of_ble_eq_true rfl⟩) 0 gM_0 rfl rfl hl.1 rfl (Nat.le_of_ble_eq_true rfl) dX11_transfer_18 ⟨Nat.le_of_ble_eq_true rfl, Nat.le_of_ble_eq_true rfl⟩ (fun H locs w => ?_)
      refine lv_iload_n hx hb dX11_transfer_21 rfl (lv_at hl 2 rfl) ?_
      refine lv_icmp_eq (tgt := 35) hx hb dX11_transfer_22 (by decide) (fun c6 => ?_) (fun c6 => ?_)
      · have hf := if_t hf c6
        refine lv_iconst (v := 0) hx hb dX11_transfer_35 (by decide) ?_
        cases hf
        exact hQ _ _ _ _ dX11_transfer_36 (by decide) w
      · have hf := if_f hf c6
        refine lv_aload_n hx hb dX11_transfer_25 rfl (lv_at hl 0 rfl) ?_
        refine kget (v := .int (S.1 3)) F B w inX11_transfer_11 0 gM_0 rfl 3 (by decide) (hts (.fieldLink RX11 133 "LandReformModel" "transfers" "I") (by decide +kernel)) rfl rfl dX11_transfer_26 ?_
        refine lv_sipush (v := 200) hx hb dX11_transfer_29 (by decide) ?_
        refine lv_icmp_ne (tgt := 37) hx hb dX11_transfer_32 (by decide) (fun c7 => ?_) (fun c7 => ?_)
        · have hf := if_f hf c7
          refine lv_aload_n hx hb dX11_transfer_37 rfl (lv_at hl 0 rfl) ?_
          refine lv_iload_n hx hb dX11_transfer_38 rfl (lv_at hl 1 rfl) ?_
          refine lv_iload_n hx hb dX11_transfer_39 rfl (lv_at hl 2 rfl) ?_
          obtain ⟨S9, er8, hf⟩ := ob_e hf
          refine kVv (As := [.int x1, .int x2]) (rest := []) F B w (tX11_goes er8) (cwV 2 hts gX11_transfer_X11_goes rfl rfl rfl (by decide +kernel) ⟨Nat.le_of_ble_eq_true rfl, Nat.le_of_ble_eq_true rfl⟩) 0 gM_0 rfl rfl hl.1 rfl (Nat.le_of_ble_eq_true rfl) dX11_transfer_40 ⟨Nat.le_of_ble_eq_true rfl, Nat.le_of_ble_eq_true rfl⟩ (fun H locs w => ?_)
          refine lv_iconst (v := 1) hx hb dX11_transfer_43 (by decide) ?_
          cases hf
          exact hQ _ _ _ _ dX11_transfer_44 (by decide) w
        · have hf := if_t hf c7
          refine lv_iconst (v := 0) hx hb dX11_transfer_35 (by decide) ?_
          cases hf
          exact hQ _ _ _ _ dX11_transfer_36 (by decide) w

def fX11_owned (n : Nat) (S : St) (x1 : Int32) (x2 : Int32) : Option Int32 := ob (fX11_isField S x1) fun r1 => if r1 = 0 then (some (-1)) else (ob (fX11_isIn x2 0 1000) fun r3 => if r3 = 0 then (some (-1)) else (ob (fX11_ownerOn n S x1 x2) fun r5 => some r5))
set_option maxHeartbeats 4000000 in
set_option maxRecDepth 100000 in
theorem tX11_owned {l : Launch} {D : va_G} {cc : Nat → ClassId} {ak av : Nat → Nat} {ad : Nat → Nat} {E : va_W} {n : Nat} {S : St} {x1 : Int32} {x2 : Int32} {r : Int32} (hf : fX11_owned n S x1 x2 = some r) : CI l yX11_owned wsX11_owned ({ frames := 2, cells := 0, slots := 0, locals := 43 } : Room) D cc ak av [.ref (ad 0), .int x1, .int x2] (WM cc ad S ++ E) (WM cc ad S ++ E) r := by
  refine mkI (c0 := cX11_owned) (nL := 3) (own := RX11) rfl rfl (by decide) rfl rfl (Nat.le_of_ble_eq_true rfl) ?_
  intro p e s m args below meth c A Q ls F B hQ hl w
  have hx := F.1
  have hb := F.2.1
  have hown := F.2.2.2.1
  have hts := F.2.2.2.2
  have hl : lv_has ls 3 [(0, .ref (ad 0)), (1, .int x1), (2, .int x2)] := hl
  unfold fX11_owned at hf
  refine lv_aload_n hx hb dX11_owned_0 rfl (lv_at hl 0 rfl) ?_
  refine lv_iload_n hx hb dX11_owned_1 rfl (lv_at hl 1 rfl) ?_
  obtain ⟨r1, er1, hf⟩ := ob_e hf
  refine kVi (As := [.int x1]) (rest := []) F B w (tX11_isField er1) (cwV 1 hts gX11_owned_X11_isField rfl rfl rfl (by decide +kernel) ⟨Nat.le_of_ble_eq_true rfl, Nat.le_of_ble_eq_true rfl⟩) 0 gM_0 rfl rfl hl.1 rfl (Nat.le_of_ble_eq_true rfl) dX11_owned_2 ⟨Nat.le_of_ble_eq_true rfl, Nat.le_of_ble_eq_true rfl⟩ (fun H locs w => ?_)
  refine lv_if_eq (tgt := 28) hx hb dX11_owned_5 (by decide) (fun c2 => ?_) (fun c2 => ?_)
  · have hf := if_t hf c2
    refine lv_iconst (v := (-1)) hx hb dX11_owned_28 (by decide) ?_
    cases hf
    exact hQ _ _ _ _ dX11_owned_29 w
  · have hf := if_f hf c2
    refine lv_iload_n hx hb dX11_owned_8 rfl (lv_at hl 2 rfl) ?_
    refine lv_iconst (v := 0) hx hb dX11_owned_9 (by decide) ?_
    refine lv_sipush (v := 1000) hx hb dX11_owned_10 (by decide) ?_
    obtain ⟨r3, er3, hf⟩ := ob_e hf
    refine kSi (As := [.int x2, .int 0, .int 1000]) (rest := []) F B w (tX11_isIn er3) (va_cwS 3 hts gX11_owned_X11_isIn rfl rfl rfl (by decide +kernel) ⟨Nat.le_of_ble_eq_true rfl, Nat.le_of_ble_eq_true rfl⟩) rfl hl.1 rfl (Nat.le_of_ble_eq_true rfl) dX11_owned_13 ⟨Nat.le_of_ble_eq_true rfl, Nat.le_of_ble_eq_true rfl⟩ (fun H locs w => ?_)
    refine lv_if_eq (tgt := 28) hx hb dX11_owned_16 (by decide) (fun c4 => ?_) (fun c4 => ?_)
    · have hf := if_t hf c4
      refine lv_iconst (v := (-1)) hx hb dX11_owned_28 (by decide) ?_
      cases hf
      exact hQ _ _ _ _ dX11_owned_29 w
    · have hf := if_f hf c4
      refine lv_aload_n hx hb dX11_owned_19 rfl (lv_at hl 0 rfl) ?_
      refine lv_iload_n hx hb dX11_owned_20 rfl (lv_at hl 1 rfl) ?_
      refine lv_iload_n hx hb dX11_owned_21 rfl (lv_at hl 2 rfl) ?_
      obtain ⟨r5, er5, hf⟩ := ob_e hf
      refine kVi (As := [.int x1, .int x2]) (rest := []) F B w (tX11_ownerOn er5) (cwV 2 hts gX11_owned_X11_ownerOn rfl rfl rfl (by decide +kernel) ⟨Nat.le_of_ble_eq_true rfl, Nat.le_of_ble_eq_true rfl⟩) 0 gM_0 rfl rfl hl.1 rfl (Nat.le_of_ble_eq_true rfl) dX11_owned_22 ⟨Nat.le_of_ble_eq_true rfl, Nat.le_of_ble_eq_true rfl⟩ (fun H locs w => ?_)
      refine lv_goto (tgt := 29) hx hb dX11_owned_25 (by decide) ?_
      cases hf
      exact hQ _ _ _ _ dX11_owned_29 w

def fX11_begins_L2 (n : Nat) (x1 : Int32) (k : Int32 → St → Option St) : Nat → Int32 → St → Option St
  | 0, _, _ => none
  | fu + 1, x2, S => if 20 ≤ x2 then (k x2 S) else (if x2 = 0 then (if (x1 + x2) < 0 ∨ 40 ≤ Int32.toNatClampNeg (x1 + x2) then none else lt_ (sA S 16 (Int32.toNatClampNeg (x1 + x2)) 100) fun S22 => fX11_begins_L2 n x1 k fu (x2 + 1) S22) else (if x2 = 2 then (if (x1 + x2) < 0 ∨ 40 ≤ Int32.toNatClampNeg (x1 + x2) then none else lt_ (sA S 16 (Int32.toNatClampNeg (x1 + x2)) 1000) fun S20 => fX11_begins_L2 n x1 k fu (x2 + 1) S20) else (if x2 = 3 then (if (x1 + x2) < 0 ∨ 40 ≤ Int32.toNatClampNeg (x1 + x2) then none else lt_ (sA S 16 (Int32.toNatClampNeg (x1 + x2)) 1) fun S18 => fX11_begins_L2 n x1 k fu (x2 + 1) S18) else (if x2 = 5 then (if (x1 + x2) < 0 ∨ 40 ≤ Int32.toNatClampNeg (x1 + x2) then none else lt_ (sA S 16 (Int32.toNatClampNeg (x1 + x2)) 2) fun S16 => fX11_begins_L2 n x1 k fu (x2 + 1) S16) else (if x2 = 4 then (if (x1 + x2) < 0 ∨ 40 ≤ Int32.toNatClampNeg (x1 + x2) then none else lt_ (sA S 16 (Int32.toNatClampNeg (x1 + x2)) 10) fun S8 => fX11_begins_L2 n x1 k fu (x2 + 1) S8) else (ob (fX11_isIn x2 6 9) fun r9 => if r9 = 0 then (if (x1 + x2) < 0 ∨ 40 ≤ Int32.toNatClampNeg (x1 + x2) then none else lt_ (sA S 16 (Int32.toNatClampNeg (x1 + x2)) 0) fun S12 => fX11_begins_L2 n x1 k fu (x2 + 1) S12) else (if (x1 + x2) < 0 ∨ 40 ≤ Int32.toNatClampNeg (x1 + x2) then none else lt_ (sA S 16 (Int32.toNatClampNeg (x1 + x2)) 10) fun S14 => fX11_begins_L2 n x1 k fu (x2 + 1) S14)))))))
def fX11_begins (n : Nat) (S : St) (x1 : Int32) : Option St := fX11_begins_L2 n x1 (fun x23 S24 => some S24) n 0 S
set_option maxRecDepth 20000 in
theorem inX11_begins_11 : ∀ w ∈ u_ws RX11 TX11 47, w ∈ wsX11_begins := by decide +kernel
set_option maxHeartbeats 4000000 in
set_option maxRecDepth 100000 in
theorem wX11_begins_L2 {p : Program} {l : Launch} {e : Env} {s : State} {m : MethodId} {args : Array Value} {below : List Frame} {meth : Method} {c : Code} {Q : State → Prop} {D : va_G} {cc : Nat → ClassId} {ak av : Nat → Nat} {A : Nat → Prop} {ad : Nat → Nat} {E : va_W} {n : Nat} {x1 : Int32} {S' : St} {k : Int32 → St → Option St} (F : CallFix p m c cX11_begins 3 s args wsX11_begins RX11) (B : Bd D cc ak av A s) (hQ : RetV p l e ({ frames := 1, cells := 0, slots := 0, locals := 22 } : Room) s m args below meth c D A Q cX11_begins (WM cc ad S' ++ E))
    (hk : ∀ (x2 : Int32) (S : St) (H : Heap) (locs : List Loc) (ls : Array Slot), Wd D A s.heap H locs (WM cc ad S ++ E) → lv_has ls 3 [(0, .ref (ad 0)), (1, .int x1), (2, .int x2)] → k x2 S = some S' → W p l e ({ frames := 1, cells := 0, slots := 0, locals := 22 } : Room) s m args below meth c H locs 0 0 Q (F0 m 82 ls [])) :
    ∀ (fu : Nat) (x2 : Int32) (S : St) (H : Heap) (locs : List Loc) (ls : Array Slot), Wd D A s.heap H locs (WM cc ad S ++ E) → lv_has ls 3 [(0, .ref (ad 0)), (1, .int x1), (2, .int x2)] → fX11_begins_L2 n x1 k fu x2 S = some S' → W p l e ({ frames := 1, cells := 0, slots := 0, locals := 22 } : Room) s m args below meth c H locs 0 0 Q (F0 m 2 ls []) := by
  have hx := F.1
  have hb := F.2.1
  have hown := F.2.2.2.1
  have hts := F.2.2.2.2
  intro fu
  induction fu with
  | zero => intro x2 S H locs ls w hl hf; rw [fX11_begins_L2] at hf; cases hf
  | succ fu ih =>
    intro x2 S H locs ls w hl hf
    rw [fX11_begins_L2] at hf
    refine lv_iload_n hx hb dX11_begins_2 rfl (lv_at hl 2 rfl) ?_
    refine lv_bipush (v := 20) hx hb dX11_begins_3 (by decide) ?_
    refine lv_icmp_ge (tgt := 82) hx hb dX11_begins_5 (by decide) (fun c1 => ?_) (fun c1 => ?_)
    · have hf := if_t hf c1
      exact hk _ _ _ _ _ w (lv_sub hl [0, 1, 2] rfl) hf
    · have hf := if_f hf c1
      refine lv_aload_n hx hb dX11_begins_8 rfl (lv_at hl 0 rfl) ?_
      refine kget (v := .ref (ad 12)) F B w inX11_begins_11 0 gM_0 rfl 16 (by decide) (hts (.fieldLink RX11 44 "LandReformModel" "told" "[I") (by decide +kernel)) rfl rfl dX11_begins_9 ?_
      refine lv_iload_n hx hb dX11_begins_12 rfl (lv_at hl 1 rfl) ?_
      refine lv_iload_n hx hb dX11_begins_13 rfl (lv_at hl 2 rfl) ?_
      refine lv_iadd hx hb dX11_begins_14 ?_
      refine lv_iload_n hx hb dX11_begins_15 rfl (lv_at hl 2 rfl) ?_
      refine lv_if_ne (tgt := 24) hx hb dX11_begins_16 (by decide) (fun c2 => ?_) (fun c2 => ?_)
      · have hf := if_f hf c2
        refine lv_iload_n hx hb dX11_begins_24 rfl (lv_at hl 2 rfl) ?_
        refine lv_iconst (v := 2) hx hb dX11_begins_25 (by decide) ?_
        refine lv_icmp_ne (tgt := 35) hx hb dX11_begins_26 (by decide) (fun c3 => ?_) (fun c3 => ?_)
        · have hf := if_f hf c3
          refine lv_iload_n hx hb dX11_begins_35 rfl (lv_at hl 2 rfl) ?_
          refine lv_iconst (v := 3) hx hb dX11_begins_36 (by decide) ?_
          refine lv_icmp_ne (tgt := 44) hx hb dX11_begins_37 (by decide) (fun c4 => ?_) (fun c4 => ?_)
          · have hf := if_f hf c4
            refine lv_iload_n hx hb dX11_begins_44 rfl (lv_at hl 2 rfl) ?_
            refine lv_iconst (v := 5) hx hb dX11_begins_45 (by decide) ?_
            refine lv_icmp_ne (tgt := 53) hx hb dX11_begins_46 (by decide) (fun c5 => ?_) (fun c5 => ?_)
            · have hf := if_f hf c5
              refine lv_iload_n hx hb dX11_begins_53 rfl (lv_at hl 2 rfl) ?_
              refine lv_iconst (v := 4) hx hb dX11_begins_54 (by decide) ?_
              refine lv_icmp_eq (tgt := 69) hx hb dX11_begins_55 (by decide) (fun c6 => ?_) (fun c6 => ?_)
              · have hf := if_t hf c6
                refine lv_bipush (v := 10) hx hb dX11_begins_69 (by decide) ?_
                refine lv_goto (tgt := 75) hx hb dX11_begins_71 (by decide) ?_
                obtain ⟨g7, hf⟩ := if_g hf
                refine kiast F B w 12 gM_12 g7 bM_12 dX11_begins_75 (fun H locs w => ?_)
                obtain ⟨S8, eS8⟩ : ∃ z, z = sA S 16 (Int32.toNatClampNeg (x1 + x2)) 10 := ⟨_, rfl⟩
                rw [← eS8] at w
                have hf := lt_e hf eS8
                refine lv_iinc (v := (x2 + 1)) (lv' := [(2, .int (x2 + 1)), (0, .ref (ad 0)), (1, .int x1)]) hx hb dX11_begins_76 hl (k := 2) rfl rfl (by decide) rfl (fun ls hl => ?_)
                refine lv_goto (tgt := 2) hx hb dX11_begins_79 (by decide) ?_
                exact ih _ _ _ _ _ w (lv_sub hl [1, 2, 0] rfl) hf
              · have hf := if_f hf c6
                refine lv_iload_n hx hb dX11_begins_58 rfl (lv_at hl 2 rfl) ?_
                refine lv_bipush (v := 6) hx hb dX11_begins_59 (by decide) ?_
                refine lv_bipush (v := 9) hx hb dX11_begins_61 (by decide) ?_
                obtain ⟨r9, er9, hf⟩ := ob_e hf
                refine kSi (As := [.int x2, .int 6, .int 9]) (rest := [.int (x1 + x2), .ref (ad 12)]) F B w (tX11_isIn er9) (va_cwS 3 hts gX11_begins_X11_isIn rfl rfl rfl (by decide +kernel) ⟨Nat.le_of_ble_eq_true rfl, Nat.le_of_ble_eq_true rfl⟩) rfl hl.1 rfl (Nat.le_of_ble_eq_true rfl) dX11_begins_63 ⟨Nat.le_of_ble_eq_true rfl, Nat.le_of_ble_eq_true rfl⟩ (fun H locs w => ?_)
                refine lv_if_eq (tgt := 74) hx hb dX11_begins_66 (by decide) (fun c10 => ?_) (fun c10 => ?_)
                · have hf := if_t hf c10
                  refine lv_iconst (v := 0) hx hb dX11_begins_74 (by decide) ?_
                  obtain ⟨g11, hf⟩ := if_g hf
                  refine kiast F B w 12 gM_12 g11 bM_12 dX11_begins_75 (fun H locs w => ?_)
                  obtain ⟨S12, eS12⟩ : ∃ z, z = sA S 16 (Int32.toNatClampNeg (x1 + x2)) 0 := ⟨_, rfl⟩
                  rw [← eS12] at w
                  have hf := lt_e hf eS12
                  refine lv_iinc (v := (x2 + 1)) (lv' := [(2, .int (x2 + 1)), (0, .ref (ad 0)), (1, .int x1)]) hx hb dX11_begins_76 hl (k := 2) rfl rfl (by decide) rfl (fun ls hl => ?_)
                  refine lv_goto (tgt := 2) hx hb dX11_begins_79 (by decide) ?_
                  exact ih _ _ _ _ _ w (lv_sub hl [1, 2, 0] rfl) hf
                · have hf := if_f hf c10
                  refine lv_bipush (v := 10) hx hb dX11_begins_69 (by decide) ?_
                  refine lv_goto (tgt := 75) hx hb dX11_begins_71 (by decide) ?_
                  obtain ⟨g13, hf⟩ := if_g hf
                  refine kiast F B w 12 gM_12 g13 bM_12 dX11_begins_75 (fun H locs w => ?_)
                  obtain ⟨S14, eS14⟩ : ∃ z, z = sA S 16 (Int32.toNatClampNeg (x1 + x2)) 10 := ⟨_, rfl⟩
                  rw [← eS14] at w
                  have hf := lt_e hf eS14
                  refine lv_iinc (v := (x2 + 1)) (lv' := [(2, .int (x2 + 1)), (0, .ref (ad 0)), (1, .int x1)]) hx hb dX11_begins_76 hl (k := 2) rfl rfl (by decide) rfl (fun ls hl => ?_)
                  refine lv_goto (tgt := 2) hx hb dX11_begins_79 (by decide) ?_
                  exact ih _ _ _ _ _ w (lv_sub hl [1, 2, 0] rfl) hf
            · have hf := if_t hf c5
              refine lv_iconst (v := 2) hx hb dX11_begins_49 (by decide) ?_
              refine lv_goto (tgt := 75) hx hb dX11_begins_50 (by decide) ?_
              obtain ⟨g15, hf⟩ := if_g hf
              refine kiast F B w 12 gM_12 g15 bM_12 dX11_begins_75 (fun H locs w => ?_)
              obtain ⟨S16, eS16⟩ : ∃ z, z = sA S 16 (Int32.toNatClampNeg (x1 + x2)) 2 := ⟨_, rfl⟩
              rw [← eS16] at w
              have hf := lt_e hf eS16
              refine lv_iinc (v := (x2 + 1)) (lv' := [(2, .int (x2 + 1)), (0, .ref (ad 0)), (1, .int x1)]) hx hb dX11_begins_76 hl (k := 2) rfl rfl (by decide) rfl (fun ls hl => ?_)
              refine lv_goto (tgt := 2) hx hb dX11_begins_79 (by decide) ?_
              exact ih _ _ _ _ _ w (lv_sub hl [1, 2, 0] rfl) hf
          · have hf := if_t hf c4
            refine lv_iconst (v := 1) hx hb dX11_begins_40 (by decide) ?_
            refine lv_goto (tgt := 75) hx hb dX11_begins_41 (by decide) ?_
            obtain ⟨g17, hf⟩ := if_g hf
            refine kiast F B w 12 gM_12 g17 bM_12 dX11_begins_75 (fun H locs w => ?_)
            obtain ⟨S18, eS18⟩ : ∃ z, z = sA S 16 (Int32.toNatClampNeg (x1 + x2)) 1 := ⟨_, rfl⟩
            rw [← eS18] at w
            have hf := lt_e hf eS18
            refine lv_iinc (v := (x2 + 1)) (lv' := [(2, .int (x2 + 1)), (0, .ref (ad 0)), (1, .int x1)]) hx hb dX11_begins_76 hl (k := 2) rfl rfl (by decide) rfl (fun ls hl => ?_)
            refine lv_goto (tgt := 2) hx hb dX11_begins_79 (by decide) ?_
            exact ih _ _ _ _ _ w (lv_sub hl [1, 2, 0] rfl) hf
        · have hf := if_t hf c3
          refine lv_sipush (v := 1000) hx hb dX11_begins_29 (by decide) ?_
          refine lv_goto (tgt := 75) hx hb dX11_begins_32 (by decide) ?_
          obtain ⟨g19, hf⟩ := if_g hf
          refine kiast F B w 12 gM_12 g19 bM_12 dX11_begins_75 (fun H locs w => ?_)
          obtain ⟨S20, eS20⟩ : ∃ z, z = sA S 16 (Int32.toNatClampNeg (x1 + x2)) 1000 := ⟨_, rfl⟩
          rw [← eS20] at w
          have hf := lt_e hf eS20
          refine lv_iinc (v := (x2 + 1)) (lv' := [(2, .int (x2 + 1)), (0, .ref (ad 0)), (1, .int x1)]) hx hb dX11_begins_76 hl (k := 2) rfl rfl (by decide) rfl (fun ls hl => ?_)
          refine lv_goto (tgt := 2) hx hb dX11_begins_79 (by decide) ?_
          exact ih _ _ _ _ _ w (lv_sub hl [1, 2, 0] rfl) hf
      · have hf := if_t hf c2
        refine lv_bipush (v := 100) hx hb dX11_begins_19 (by decide) ?_
        refine lv_goto (tgt := 75) hx hb dX11_begins_21 (by decide) ?_
        obtain ⟨g21, hf⟩ := if_g hf
        refine kiast F B w 12 gM_12 g21 bM_12 dX11_begins_75 (fun H locs w => ?_)
        obtain ⟨S22, eS22⟩ : ∃ z, z = sA S 16 (Int32.toNatClampNeg (x1 + x2)) 100 := ⟨_, rfl⟩
        rw [← eS22] at w
        have hf := lt_e hf eS22
        refine lv_iinc (v := (x2 + 1)) (lv' := [(2, .int (x2 + 1)), (0, .ref (ad 0)), (1, .int x1)]) hx hb dX11_begins_76 hl (k := 2) rfl rfl (by decide) rfl (fun ls hl => ?_)
        refine lv_goto (tgt := 2) hx hb dX11_begins_79 (by decide) ?_
        exact ih _ _ _ _ _ w (lv_sub hl [1, 2, 0] rfl) hf
set_option maxHeartbeats 4000000 in
set_option maxRecDepth 100000 in
theorem tX11_begins {l : Launch} {D : va_G} {cc : Nat → ClassId} {ak av : Nat → Nat} {ad : Nat → Nat} {E : va_W} {n : Nat} {S : St} {x1 : Int32} {S' : St} (hf : fX11_begins n S x1 = some S') : CV l yX11_begins wsX11_begins ({ frames := 1, cells := 0, slots := 0, locals := 22 } : Room) D cc ak av [.ref (ad 0), .int x1] (WM cc ad S ++ E) (WM cc ad S' ++ E) := by
  refine mkV (c0 := cX11_begins) (nL := 3) (own := RX11) rfl rfl (by decide) rfl rfl (Nat.le_of_ble_eq_true rfl) ?_
  intro p e s m args below meth c A Q ls F B hQ hl w
  have hx := F.1
  have hb := F.2.1
  have hown := F.2.2.2.1
  have hts := F.2.2.2.2
  have hl : lv_has ls 3 [(0, .ref (ad 0)), (1, .int x1)] := hl
  unfold fX11_begins at hf
  refine lv_iconst (v := 0) hx hb dX11_begins_0 (by decide) ?_
  refine lv_istore_n (lv' := [(2, .int 0), (0, .ref (ad 0)), (1, .int x1)]) hx hb dX11_begins_1 rfl hl (by decide) rfl (fun ls hl => ?_)
  refine wX11_begins_L2 F B hQ (fun x23 S24 H locs ls w hl hf => ?_) n _ _ _ _ _ w (lv_sub hl [1, 2, 0] rfl) hf
  cases hf
  exact hQ _ _ _ _ dX11_begins_82 w

def fX11_four_L3 (n : Nat) (x1 : Int32) (k : Int32 → St → Option St) : Nat → Int32 → St → Option St
  | 0, _, _ => none
  | fu + 1, x2, S => if x2 < 0 then (k x2 S) else (if (S.1 20) < 0 ∨ 400 ≤ Int32.toNatClampNeg (S.1 20) then none else lt_ (sA S 18 (Int32.toNatClampNeg (S.1 20)) (vp_nar .byte (Int8.toInt32 (Int32.toInt8 (x1 >>> (x2 &&& 31)))))) fun S3 => lt_ (sS S3 20 ((S3.1 20) + 1)) fun S4 => fX11_four_L3 n x1 k fu (x2 + (-8)) S4)
def fX11_four (n : Nat) (S : St) (x1 : Int32) : Option St := fX11_four_L3 n x1 (fun x5 S6 => some S6) n 24 S
set_option maxRecDepth 20000 in
theorem inX11_four_11 : ∀ w ∈ u_ws RX11 TX11 47, w ∈ wsX11_four := by decide +kernel
set_option maxHeartbeats 4000000 in
set_option maxRecDepth 100000 in
theorem wX11_four_L3 {p : Program} {l : Launch} {e : Env} {s : State} {m : MethodId} {args : Array Value} {below : List Frame} {meth : Method} {c : Code} {Q : State → Prop} {D : va_G} {cc : Nat → ClassId} {ak av : Nat → Nat} {A : Nat → Prop} {ad : Nat → Nat} {E : va_W} {n : Nat} {x1 : Int32} {S' : St} {k : Int32 → St → Option St} (F : CallFix p m c cX11_four 3 s args wsX11_four RX11) (B : Bd D cc ak av A s) (hQ : RetV p l e ({ frames := 0, cells := 0, slots := 0, locals := 0 } : Room) s m args below meth c D A Q cX11_four (WM cc ad S' ++ E))
    (hk : ∀ (x2 : Int32) (S : St) (H : Heap) (locs : List Loc) (ls : Array Slot), Wd D A s.heap H locs (WM cc ad S ++ E) → lv_has ls 3 [(0, .ref (ad 0)), (1, .int x1), (2, .int x2)] → k x2 S = some S' → W p l e ({ frames := 0, cells := 0, slots := 0, locals := 0 } : Room) s m args below meth c H locs 0 0 Q (F0 m 36 ls [])) :
    ∀ (fu : Nat) (x2 : Int32) (S : St) (H : Heap) (locs : List Loc) (ls : Array Slot), Wd D A s.heap H locs (WM cc ad S ++ E) → lv_has ls 3 [(0, .ref (ad 0)), (1, .int x1), (2, .int x2)] → fX11_four_L3 n x1 k fu x2 S = some S' → W p l e ({ frames := 0, cells := 0, slots := 0, locals := 0 } : Room) s m args below meth c H locs 0 0 Q (F0 m 3 ls []) := by
  have hx := F.1
  have hb := F.2.1
  have hown := F.2.2.2.1
  have hts := F.2.2.2.2
  intro fu
  induction fu with
  | zero => intro x2 S H locs ls w hl hf; rw [fX11_four_L3] at hf; cases hf
  | succ fu ih =>
    intro x2 S H locs ls w hl hf
    rw [fX11_four_L3] at hf
    refine lv_iload_n hx hb dX11_four_3 rfl (lv_at hl 2 rfl) ?_
    refine lv_if_lt (tgt := 36) hx hb dX11_four_4 (by decide) (fun c1 => ?_) (fun c1 => ?_)
    · have hf := if_t hf c1
      exact hk _ _ _ _ _ w (lv_sub hl [0, 1, 2] rfl) hf
    · have hf := if_f hf c1
      refine lv_aload_n hx hb dX11_four_7 rfl (lv_at hl 0 rfl) ?_
      refine kget (v := .ref (ad 13)) F B w inX11_four_11 0 gM_0 rfl 18 (by decide) (hts (.fieldLink RX11 47 "LandReformModel" "tape" "[B") (by decide +kernel)) rfl rfl dX11_four_8 ?_
      refine lv_aload_n hx hb dX11_four_11 rfl (lv_at hl 0 rfl) ?_
      refine kget (v := .int (S.1 20)) F B w inX11_four_11 0 gM_0 rfl 20 (by decide) (hts (.fieldLink RX11 151 "LandReformModel" "taped" "I") (by decide +kernel)) rfl rfl dX11_four_12 ?_
      refine lv_iload_n hx hb dX11_four_15 rfl (lv_at hl 1 rfl) ?_
      refine lv_iload_n hx hb dX11_four_16 rfl (lv_at hl 2 rfl) ?_
      refine lv_ishr hx hb dX11_four_17 ?_
      refine lv_i2b (v := (Int8.toInt32 (Int32.toInt8 (x1 >>> (x2 &&& 31))))) hx hb dX11_four_18 rfl ?_
      obtain ⟨g2, hf⟩ := if_g hf
      refine kbast F B w 13 gM_13 g2 bM_13 dX11_four_19 (fun H locs w => ?_)
      obtain ⟨S3, eS3⟩ : ∃ z, z = sA S 18 (Int32.toNatClampNeg (S.1 20)) (vp_nar .byte (Int8.toInt32 (Int32.toInt8 (x1 >>> (x2 &&& 31))))) := ⟨_, rfl⟩
      rw [← eS3] at w
      have hf := lt_e hf eS3
      refine lv_aload_n hx hb dX11_four_20 rfl (lv_at hl 0 rfl) ?_
      refine lv_dup hx hb dX11_four_21 rfl ?_
      refine kget (v := .int (S3.1 20)) F B w inX11_four_11 0 gM_0 rfl 20 (by decide) (hts (.fieldLink RX11 151 "LandReformModel" "taped" "I") (by decide +kernel)) rfl rfl dX11_four_22 ?_
      refine lv_iconst (v := 1) hx hb dX11_four_25 (by decide) ?_
      refine lv_iadd hx hb dX11_four_26 ?_
      refine kput (ty := .int) F B w inX11_four_11 tyX11 tyX11_ok nmX11 0 gM_0 rfl 20 (by decide) (hts (.fieldLink RX11 151 "LandReformModel" "taped" "I") (by decide +kernel)) rfl rfl (by decide +kernel) rfl rfl (Nat.le_of_ble_eq_true rfl) pM_20 dX11_four_27 (fun H locs w => ?_)
      obtain ⟨S4, eS4⟩ : ∃ z, z = sS S3 20 ((S3.1 20) + 1) := ⟨_, rfl⟩
      rw [← eS4] at w
      have hf := lt_e hf eS4
      refine lv_iinc (v := (x2 + (-8))) (lv' := [(2, .int (x2 + (-8))), (0, .ref (ad 0)), (1, .int x1)]) hx hb dX11_four_30 hl (k := 2) rfl rfl (by decide) rfl (fun ls hl => ?_)
      refine lv_goto (tgt := 3) hx hb dX11_four_33 (by decide) ?_
      exact ih _ _ _ _ _ w (lv_sub hl [1, 2, 0] rfl) hf
set_option maxHeartbeats 4000000 in
set_option maxRecDepth 100000 in
theorem tX11_four {l : Launch} {D : va_G} {cc : Nat → ClassId} {ak av : Nat → Nat} {ad : Nat → Nat} {E : va_W} {n : Nat} {S : St} {x1 : Int32} {S' : St} (hf : fX11_four n S x1 = some S') : CV l yX11_four wsX11_four ({ frames := 0, cells := 0, slots := 0, locals := 0 } : Room) D cc ak av [.ref (ad 0), .int x1] (WM cc ad S ++ E) (WM cc ad S' ++ E) := by
  refine mkV (c0 := cX11_four) (nL := 3) (own := RX11) rfl rfl (by decide) rfl rfl (Nat.le_of_ble_eq_true rfl) ?_
  intro p e s m args below meth c A Q ls F B hQ hl w
  have hx := F.1
  have hb := F.2.1
  have hown := F.2.2.2.1
  have hts := F.2.2.2.2
  have hl : lv_has ls 3 [(0, .ref (ad 0)), (1, .int x1)] := hl
  unfold fX11_four at hf
  refine lv_bipush (v := 24) hx hb dX11_four_0 (by decide) ?_
  refine lv_istore_n (lv' := [(2, .int 24), (0, .ref (ad 0)), (1, .int x1)]) hx hb dX11_four_2 rfl hl (by decide) rfl (fun ls hl => ?_)
  refine wX11_four_L3 F B hQ (fun x5 S6 H locs ls w hl hf => ?_) n _ _ _ _ _ w (lv_sub hl [1, 2, 0] rfl) hf
  cases hf
  exact hQ _ _ _ _ dX11_four_36 w
