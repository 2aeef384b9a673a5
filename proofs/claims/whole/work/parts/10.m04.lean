def fX11_tenant_L10 (n : Nat) (x1 : Int32) (S : St) (k : Int32 → Int32 → Int32 → Int32 → Option Int32) : Nat → Int32 → Int32 → Int32 → Int32 → Option Int32
  | 0, _, _, _, _ => none
  | fu + 1, x2, x3, x4, x5 => if (S.1 29) ≤ x5 then (k x2 x3 x4 x5) else (if x5 < 0 ∨ 60 ≤ Int32.toNatClampNeg x5 then none else ob (fX11_bits n (S.2.1 32 (Int32.toNatClampNeg x5))) fun r3 => if x5 < 0 ∨ 60 ≤ Int32.toNatClampNeg x5 then none else if (S.2.1 30 (Int32.toNatClampNeg x5)) = x1 then (if x5 < 0 ∨ 60 ≤ Int32.toNatClampNeg x5 then none else ob (fX11_owner n S x1) fun r7 => if (S.2.1 31 (Int32.toNatClampNeg x5)) = r7 then (fX11_tenant_L10 n x1 S k fu x2 x3 x4 (x5 + 1)) else (if r3 < (S.2.1 16 (Int32.toNatClampNeg 5)) then (fX11_tenant_L10 n x1 S k fu x2 x3 x4 (x5 + 1)) else (if x3 ≤ r3 then (if r3 = x3 then (lt_ (x4 + 1) fun v14 => if x5 < 0 ∨ 60 ≤ Int32.toNatClampNeg x5 then none else lt_ (S.2.1 31 (Int32.toNatClampNeg x5)) fun v16 => fX11_tenant_L10 n x1 S k fu v16 r3 v14 (x5 + 1)) else (if x5 < 0 ∨ 60 ≤ Int32.toNatClampNeg x5 then none else lt_ (S.2.1 31 (Int32.toNatClampNeg x5)) fun v13 => fX11_tenant_L10 n x1 S k fu v13 r3 1 (x5 + 1))) else (fX11_tenant_L10 n x1 S k fu x2 x3 x4 (x5 + 1))))) else (fX11_tenant_L10 n x1 S k fu x2 x3 x4 (x5 + 1)))
def fX11_tenant (n : Nat) (S : St) (x1 : Int32) : Option Int32 := fX11_tenant_L10 n x1 S (fun x17 x18 x19 x20 => if x19 = 1 then (some x17) else (some (-1))) n (-1) 0 0 0
set_option maxRecDepth 20000 in
theorem inX11_tenant_11 : ∀ w ∈ u_ws RX11 TX11 47, w ∈ wsX11_tenant := by decide +kernel
set_option maxHeartbeats 4000000 in
set_option maxRecDepth 100000 in
theorem wX11_tenant_L10 {p : Program} {l : Launch} {e : Env} {s : State} {m : MethodId} {args : Array Value} {below : List Frame} {meth : Method} {c : Code} {Q : State → Prop} {D : va_G} {cc : Nat → ClassId} {ak av : Nat → Nat} {A : Nat → Prop} {ad : Nat → Nat} {E : va_W} {n : Nat} {x1 : Int32} {S : St} {r : Int32} {k : Int32 → Int32 → Int32 → Int32 → Option Int32} (F : CallFix p m c cX11_tenant 7 s args wsX11_tenant RX11) (B : Bd D cc ak av A s) (hQ : RetI p l e ({ frames := 2, cells := 0, slots := 0, locals := 45 } : Room) s m args below meth c D A Q cX11_tenant (WM cc ad S ++ E) r)
    (hk : ∀ (x2 : Int32) (x3 : Int32) (x4 : Int32) (x5 : Int32) (H : Heap) (locs : List Loc) (ls : Array Slot), Wd D A s.heap H locs (WM cc ad S ++ E) → lv_has ls 7 [(0, .ref (ad 0)), (1, .int x1), (2, .int x2), (3, .int x3), (4, .int x4), (5, .int x5)] → k x2 x3 x4 x5 = some r → W p l e ({ frames := 2, cells := 0, slots := 0, locals := 45 } : Room) s m args below meth c H locs 0 0 Q (F0 m 110 ls [])) :
    ∀ (fu : Nat) (x2 : Int32) (x3 : Int32) (x4 : Int32) (x5 : Int32) (H : Heap) (locs : List Loc) (ls : Array Slot), Wd D A s.heap H locs (WM cc ad S ++ E) → lv_has ls 7 [(0, .ref (ad 0)), (1, .int x1), (2, .int x2), (3, .int x3), (4, .int x4), (5, .int x5)] → fX11_tenant_L10 n x1 S k fu x2 x3 x4 x5 = some r → W p l e ({ frames := 2, cells := 0, slots := 0, locals := 45 } : Room) s m args below meth c H locs 0 0 Q (F0 m 10 ls []) := by
  have hx := F.1
  have hb := F.2.1
  have hown := F.2.2.2.1
  have hts := F.2.2.2.2
  intro fu
  induction fu with
  | zero => intro x2 x3 x4 x5 H locs ls w hl hf; rw [fX11_tenant_L10] at hf; cases hf
  | succ fu ih =>
    intro x2 x3 x4 x5 H locs ls w hl hf
    rw [fX11_tenant_L10] at hf
    refine lv_iload hx hb dX11_tenant_10 (lv_at hl 5 rfl) ?_
    refine lv_aload_n hx hb dX11_tenant_12 rfl (lv_at hl 0 rfl) ?_
    refine kget (v := .int (S.1 29)) F B w inX11_tenant_11 0 gM_0 rfl 29 (by decide) (hts (.fieldLink RX11 257 "LandReformModel" "pairs" "I") (by decide +kernel)) rfl rfl dX11_tenant_13 ?_
    refine lv_icmp_ge (tgt := 110) hx hb dX11_tenant_16 (by decide) (fun c1 => ?_) (fun c1 => ?_)
    · have hf := if_t hf c1
      exact hk _ _ _ _ _ _ _ w (lv_sub hl [0, 1, 2, 3, 4, 5] rfl) hf
    · have hf := if_f hf c1
      refine lv_aload_n hx hb dX11_tenant_19 rfl (lv_at hl 0 rfl) ?_
      refine kget (v := .ref (ad 18)) F B w inX11_tenant_11 0 gM_0 rfl 32 (by decide) (hts (.fieldLink RX11 67 "LandReformModel" "pairYears" "[I") (by decide +kernel)) rfl rfl dX11_tenant_20 ?_
      refine lv_iload hx hb dX11_tenant_23 (lv_at hl 5 rfl) ?_
      obtain ⟨g2, hf⟩ := if_g hf
      refine kiald F B w 18 gM_18 g2 dX11_tenant_25 ?_
      obtain ⟨r3, er3, hf⟩ := ob_e hf
      refine kSi (As := [.int (S.2.1 32 (Int32.toNatClampNeg x5))]) (rest := []) F B w (tX11_bits er3) (va_cwS 1 hts gX11_tenant_X11_bits rfl rfl rfl (by decide +kernel) ⟨Nat.le_of_ble_eq_true rfl, Nat.le_of_ble_eq_true rfl⟩) rfl hl.1 rfl (Nat.le_of_ble_eq_true rfl) dX11_tenant_26 ⟨Nat.le_of_ble_eq_true rfl, Nat.le_of_ble_eq_true rfl⟩ (fun H locs w => ?_)
      refine lv_istore (lv' := [(6, .int r3), (0, .ref (ad 0)), (1, .int x1), (2, .int x2), (3, .int x3), (4, .int x4), (5, .int x5)]) hx hb dX11_tenant_29 hl (by decide) rfl (fun ls hl => ?_)
      refine lv_aload_n hx hb dX11_tenant_31 rfl (lv_at hl 1 rfl) ?_
      refine kget (v := .ref (ad 16)) F B w inX11_tenant_11 0 gM_0 rfl 30 (by decide) (hts (.fieldLink RX11 61 "LandReformModel" "pairField" "[I") (by decide +kernel)) rfl rfl dX11_tenant_32 ?_
      refine lv_iload hx hb dX11_tenant_35 (lv_at hl 6 rfl) ?_
      obtain ⟨g4, hf⟩ := if_g hf
      refine kiald F B w 16 gM_16 g4 dX11_tenant_37 ?_
      refine lv_iload_n hx hb dX11_tenant_38 rfl (lv_at hl 2 rfl) ?_
      refine lv_icmp_ne (tgt := 104) hx hb dX11_tenant_39 (by decide) (fun c5 => ?_) (fun c5 => ?_)
      · have hf := if_f hf c5
        refine lv_iinc (v := (x5 + 1)) (lv' := [(5, .int (x5 + 1)), (6, .int r3), (0, .ref (ad 0)), (1, .int x1), (2, .int x2), (3, .int x3), (4, .int x4)]) hx hb dX11_tenant_104 hl (k := 6) rfl rfl (by decide) rfl (fun ls hl => ?_)
        refine lv_goto (tgt := 10) hx hb dX11_tenant_107 (by decide) ?_
        exact ih _ _ _ _ _ _ _ w (lv_sub hl [2, 3, 4, 5, 6, 0] rfl) hf
      · have hf := if_t hf c5
        refine lv_aload_n hx hb dX11_tenant_42 rfl (lv_at hl 1 rfl) ?_
        refine kget (v := .ref (ad 17)) F B w inX11_tenant_11 0 gM_0 rfl 31 (by decide) (hts (.fieldLink RX11 64 "LandReformModel" "pairPerson" "[I") (by decide +kernel)) rfl rfl dX11_tenant_43 ?_
        refine lv_iload hx hb dX11_tenant_46 (lv_at hl 6 rfl) ?_
        obtain ⟨g6, hf⟩ := if_g hf
        refine kiald F B w 17 gM_17 g6 dX11_tenant_48 ?_
        refine lv_aload_n hx hb dX11_tenant_49 rfl (lv_at hl 1 rfl) ?_
        refine lv_iload_n hx hb dX11_tenant_50 rfl (lv_at hl 2 rfl) ?_
        obtain ⟨r7, er7, hf⟩ := ob_e hf
        refine kVi (As := [.int x1]) (rest := [.int (S.2.1 31 (Int32.toNatClampNeg x5))]) F B w (tX11_owner er7) (cwV 1 hts gX11_tenant_X11_owner rfl rfl rfl (by decide +kernel) ⟨Nat.le_of_ble_eq_true rfl, Nat.le_of_ble_eq_true rfl⟩) 0 gM_0 rfl rfl hl.1 rfl (Nat.le_of_ble_eq_true rfl) dX11_tenant_51 ⟨Nat.le_of_ble_eq_true rfl, Nat.le_of_ble_eq_true rfl⟩ (fun H locs w => ?_)
        refine lv_icmp_eq (tgt := 104) hx hb dX11_tenant_54 (by decide) (fun c8 => ?_) (fun c8 => ?_)
        · have hf := if_t hf c8
          refine lv_iinc (v := (x5 + 1)) (lv' := [(5, .int (x5 + 1)), (6, .int r3), (0, .ref (ad 0)), (1, .int x1), (2, .int x2), (3, .int x3), (4, .int x4)]) hx hb dX11_tenant_104 hl (k := 6) rfl rfl (by decide) rfl (fun ls hl => ?_)
          refine lv_goto (tgt := 10) hx hb dX11_tenant_107 (by decide) ?_
          exact ih _ _ _ _ _ _ _ w (lv_sub hl [2, 3, 4, 5, 6, 0] rfl) hf
        · have hf := if_f hf c8
          refine lv_iload hx hb dX11_tenant_57 (lv_at hl 0 rfl) ?_
          refine lv_aload_n hx hb dX11_tenant_59 rfl (lv_at hl 1 rfl) ?_
          refine kget (v := .ref (ad 12)) F B w inX11_tenant_11 0 gM_0 rfl 16 (by decide) (hts (.fieldLink RX11 44 "LandReformModel" "told" "[I") (by decide +kernel)) rfl rfl dX11_tenant_60 ?_
          refine lv_iconst (v := 5) hx hb dX11_tenant_63 (by decide) ?_
          refine kiald F B w 12 gM_12 (by decide) dX11_tenant_64 ?_
          refine lv_icmp_lt (tgt := 104) hx hb dX11_tenant_65 (by decide) (fun c9 => ?_) (fun c9 => ?_)
          · have hf := if_t hf c9
            refine lv_iinc (v := (x5 + 1)) (lv' := [(5, .int (x5 + 1)), (6, .int r3), (0, .ref (ad 0)), (1, .int x1), (2, .int x2), (3, .int x3), (4, .int x4)]) hx hb dX11_tenant_104 hl (k := 6) rfl rfl (by decide) rfl (fun ls hl => ?_)
            refine lv_goto (tgt := 10) hx hb dX11_tenant_107 (by decide) ?_
            exact ih _ _ _ _ _ _ _ w (lv_sub hl [2, 3, 4, 5, 6, 0] rfl) hf
          · have hf := if_f hf c9
            refine lv_iload hx hb dX11_tenant_68 (lv_at hl 0 rfl) ?_
            refine lv_iload_n hx hb dX11_tenant_70 rfl (lv_at hl 4 rfl) ?_
            refine lv_icmp_ge (tgt := 77) hx hb dX11_tenant_71 (by decide) (fun c10 => ?_) (fun c10 => ?_)
            · have hf := if_t hf c10
              refine lv_iload hx hb dX11_tenant_77 (lv_at hl 0 rfl) ?_
              refine lv_iload_n hx hb dX11_tenant_79 rfl (lv_at hl 4 rfl) ?_
              refine lv_icmp_ne (tgt := 90) hx hb dX11_tenant_80 (by decide) (fun c11 => ?_) (fun c11 => ?_)
              · have hf := if_f hf c11
                refine lv_iconst (v := 1) hx hb dX11_tenant_90 (by decide) ?_
                refine lv_istore (lv' := [(4, .int 1), (6, .int r3), (0, .ref (ad 0)), (1, .int x1), (2, .int x2), (3, .int x3), (5, .int x5)]) hx hb dX11_tenant_91 hl (by decide) rfl (fun ls hl => ?_)
                refine lv_aload_n hx hb dX11_tenant_93 rfl (lv_at hl 2 rfl) ?_
                refine kget (v := .ref (ad 17)) F B w inX11_tenant_11 0 gM_0 rfl 31 (by decide) (hts (.fieldLink RX11 64 "LandReformModel" "pairPerson" "[I") (by decide +kernel)) rfl rfl dX11_tenant_94 ?_
                refine lv_iload hx hb dX11_tenant_97 (lv_at hl 6 rfl) ?_
                obtain ⟨g12, hf⟩ := if_g hf
                refine kiald F B w 17 gM_17 g12 dX11_tenant_99 ?_
                refine lv_topi (fun v13 ev13 => ?_)
                have hf := lt_e hf ev13
                refine lv_istore_n (lv' := [(2, .int v13), (4, .int 1), (6, .int r3), (0, .ref (ad 0)), (1, .int x1), (3, .int x3), (5, .int x5)]) hx hb dX11_tenant_100 rfl hl (by decide) rfl (fun ls hl => ?_)
                refine lv_iload hx hb dX11_tenant_101 (lv_at hl 2 rfl) ?_
                refine lv_istore_n (lv' := [(3, .int r3), (2, .int v13), (4, .int 1), (6, .int r3), (0, .ref (ad 0)), (1, .int x1), (5, .int x5)]) hx hb dX11_tenant_103 rfl hl (by decide) rfl (fun ls hl => ?_)
                refine lv_iinc (v := (x5 + 1)) (lv' := [(5, .int (x5 + 1)), (3, .int r3), (2, .int v13), (4, .int 1), (6, .int r3), (0, .ref (ad 0)), (1, .int x1)]) hx hb dX11_tenant_104 hl (k := 6) rfl rfl (by decide) rfl (fun ls hl => ?_)
                refine lv_goto (tgt := 10) hx hb dX11_tenant_107 (by decide) ?_
                exact ih _ _ _ _ _ _ _ w (lv_sub hl [5, 6, 2, 1, 3, 0] rfl) hf
              · have hf := if_t hf c11
                refine lv_iload hx hb dX11_tenant_83 (lv_at hl 5 rfl) ?_
                refine lv_iconst (v := 1) hx hb dX11_tenant_85 (by decide) ?_
                refine lv_iadd hx hb dX11_tenant_86 ?_
                refine lv_goto (tgt := 91) hx hb dX11_tenant_87 (by decide) ?_
                refine lv_topi (fun v14 ev14 => ?_)
                have hf := lt_e hf ev14
                refine lv_istore (lv' := [(4, .int v14), (6, .int r3), (0, .ref (ad 0)), (1, .int x1), (2, .int x2), (3, .int x3), (5, .int x5)]) hx hb dX11_tenant_91 hl (by decide) rfl (fun ls hl => ?_)
                refine lv_aload_n hx hb dX11_tenant_93 rfl (lv_at hl 2 rfl) ?_
                refine kget (v := .ref (ad 17)) F B w inX11_tenant_11 0 gM_0 rfl 31 (by decide) (hts (.fieldLink RX11 64 "LandReformModel" "pairPerson" "[I") (by decide +kernel)) rfl rfl dX11_tenant_94 ?_
                refine lv_iload hx hb dX11_tenant_97 (lv_at hl 6 rfl) ?_
                obtain ⟨g15, hf⟩ := if_g hf
                refine kiald F B w 17 gM_17 g15 dX11_tenant_99 ?_
                refine lv_topi (fun v16 ev16 => ?_)
                have hf := lt_e hf ev16
                refine lv_istore_n (lv' := [(2, .int v16), (4, .int v14), (6, .int r3), (0, .ref (ad 0)), (1, .int x1), (3, .int x3), (5, .int x5)]) hx hb dX11_tenant_100 rfl hl (by decide) rfl (fun ls hl => ?_)
                refine lv_iload hx hb dX11_tenant_101 (lv_at hl 2 rfl) ?_
                refine lv_istore_n (lv' := [(3, .int r3), (2, .int v16), (4, .int v14), (6, .int r3), (0, .ref (ad 0)), (1, .int x1), (5, .int x5)]) hx hb dX11_tenant_103 rfl hl (by decide) rfl (fun ls hl => ?_)
                refine lv_iinc (v := (x5 + 1)) (lv' := [(5, .int (x5 + 1)), (3, .int r3), (2, .int v16), (4, .int v14), (6, .int r3), (0, .ref (ad 0)), (1, .int x1)]) hx hb dX11_tenant_104 hl (k := 6) rfl rfl (by decide) rfl (fun ls hl => ?_)
                refine lv_goto (tgt := 10) hx hb dX11_tenant_107 (by decide) ?_
                exact ih _ _ _ _ _ _ _ w (lv_sub hl [5, 6, 2, 1, 3, 0] rfl) hf
            · have hf := if_f hf c10
              refine lv_goto (tgt := 104) hx hb dX11_tenant_74 (by decide) ?_
              refine lv_iinc (v := (x5 + 1)) (lv' := [(5, .int (x5 + 1)), (6, .int r3), (0, .ref (ad 0)), (1, .int x1), (2, .int x2), (3, .int x3), (4, .int x4)]) hx hb dX11_tenant_104 hl (k := 6) rfl rfl (by decide) rfl (fun ls hl => ?_)
              refine lv_goto (tgt := 10) hx hb dX11_tenant_107 (by decide) ?_
              exact ih _ _ _ _ _ _ _ w (lv_sub hl [2, 3, 4, 5, 6, 0] rfl) hf
set_option maxHeartbeats 4000000 in
set_option maxRecDepth 100000 in
theorem tX11_tenant {l : Launch} {D : va_G} {cc : Nat → ClassId} {ak av : Nat → Nat} {ad : Nat → Nat} {E : va_W} {n : Nat} {S : St} {x1 : Int32} {r : Int32} (hf : fX11_tenant n S x1 = some r) : CI l yX11_tenant wsX11_tenant ({ frames := 2, cells := 0, slots := 0, locals := 45 } : Room) D cc ak av [.ref (ad 0), .int x1] (WM cc ad S ++ E) (WM cc ad S ++ E) r := by
  refine mkI (c0 := cX11_tenant) (nL := 7) (own := RX11) rfl rfl (by decide) rfl rfl (Nat.le_of_ble_eq_true rfl) ?_
  intro p e s m args below meth c A Q ls F B hQ hl w
  have hx := F.1
  have hb := F.2.1
  have hown := F.2.2.2.1
  have hts := F.2.2.2.2
  have hl : lv_has ls 7 [(0, .ref (ad 0)), (1, .int x1)] := hl
  unfold fX11_tenant at hf
  refine lv_iconst (v := (-1)) hx hb dX11_tenant_0 (by decide) ?_
  refine lv_istore_n (lv' := [(2, .int (-1)), (0, .ref (ad 0)), (1, .int x1)]) hx hb dX11_tenant_1 rfl hl (by decide) rfl (fun ls hl => ?_)
  refine lv_iconst (v := 0) hx hb dX11_tenant_2 (by decide) ?_
  refine lv_istore_n (lv' := [(3, .int 0), (2, .int (-1)), (0, .ref (ad 0)), (1, .int x1)]) hx hb dX11_tenant_3 rfl hl (by decide) rfl (fun ls hl => ?_)
  refine lv_iconst (v := 0) hx hb dX11_tenant_4 (by decide) ?_
  refine lv_istore (lv' := [(4, .int 0), (3, .int 0), (2, .int (-1)), (0, .ref (ad 0)), (1, .int x1)]) hx hb dX11_tenant_5 hl (by decide) rfl (fun ls hl => ?_)
  refine lv_iconst (v := 0) hx hb dX11_tenant_7 (by decide) ?_
  refine lv_istore (lv' := [(5, .int 0), (4, .int 0), (3, .int 0), (2, .int (-1)), (0, .ref (ad 0)), (1, .int x1)]) hx hb dX11_tenant_8 hl (by decide) rfl (fun ls hl => ?_)
  refine wX11_tenant_L10 F B hQ (fun x17 x18 x19 x20 H locs ls w hl hf => ?_) n _ _ _ _ _ _ _ w (lv_sub hl [4, 5, 3, 2, 1, 0] rfl) hf
  refine lv_iload hx hb dX11_tenant_110 (lv_at hl 4 rfl) ?_
  refine lv_iconst (v := 1) hx hb dX11_tenant_112 (by decide) ?_
  refine lv_icmp_ne (tgt := 120) hx hb dX11_tenant_113 (by decide) (fun c21 => ?_) (fun c21 => ?_)
  · have hf := if_f hf c21
    refine lv_iconst (v := (-1)) hx hb dX11_tenant_120 (by decide) ?_
    cases hf
    exact hQ _ _ _ _ dX11_tenant_121 w
  · have hf := if_t hf c21
    refine lv_iload_n hx hb dX11_tenant_116 rfl (lv_at hl 2 rfl) ?_
    refine lv_goto (tgt := 121) hx hb dX11_tenant_117 (by decide) ?_
    cases hf
    exact hQ _ _ _ _ dX11_tenant_121 w

def fX11_told (n : Nat) (S : St) (x1 : Int32) (x2 : Int32) : Option Int32 := ob (fX11_isField S x1) fun r1 => if r1 = 0 then (some (-1)) else (if x2 = 0 then (if x1 < 0 ∨ 60 ≤ Int32.toNatClampNeg x1 then none else some (S.2.1 8 (Int32.toNatClampNeg x1))) else if x2 = 1 then (if x1 < 0 ∨ 60 ≤ Int32.toNatClampNeg x1 then none else some (S.2.1 9 (Int32.toNatClampNeg x1))) else if x2 = 2 then (if x1 < 0 ∨ 60 ≤ Int32.toNatClampNeg x1 then none else some (S.2.1 10 (Int32.toNatClampNeg x1))) else if x2 = 3 then (if x1 < 0 ∨ 60 ≤ Int32.toNatClampNeg x1 then none else some (S.2.1 11 (Int32.toNatClampNeg x1))) else if x2 = 4 then (ob (fX11_owner n S x1) fun r11 => some r11) else if x2 = 5 then (ob (fX11_standard S x1) fun r13 => some r13) else if x2 = 6 then (ob (fX11_counted n S x1) fun r15 => some r15) else if x2 = 7 then (ob (fX11_tenant n S x1) fun r17 => some r17) else if x2 = 8 then (ob (fX11_isExempt S x1) fun r19 => ob (fX11_one r19) fun r20 => some r20) else if x2 = 9 then (ob (fX11_transfersOf n S x1) fun r22 => some r22) else (some (-1)))
set_option maxRecDepth 20000 in
theorem inX11_told_11 : ∀ w ∈ u_ws RX11 TX11 47, w ∈ wsX11_told := by decide +kernel
set_option maxHeartbeats 4000000 in
set_option maxRecDepth 100000 in
theorem tX11_told {l : Launch} {D : va_G} {cc : Nat → ClassId} {ak av : Nat → Nat} {ad : Nat → Nat} {E : va_W} {n : Nat} {S : St} {x1 : Int32} {x2 : Int32} {r : Int32} (hf : fX11_told n S x1 x2 = some r) : CI l yX11_told wsX11_told ({ frames := 3, cells := 0, slots := 0, locals := 71 } : Room) D cc ak av [.ref (ad 0), .int x1, .int x2] (WM cc ad S ++ E) (WM cc ad S ++ E) r := by
  refine mkI (c0 := cX11_told) (nL := 3) (own := RX11) rfl rfl (by decide) rfl rfl (Nat.le_of_ble_eq_true rfl) ?_
  intro p e s m args below meth c A Q ls F B hQ hl w
  have hx := F.1
  have hb := F.2.1
  have hown := F.2.2.2.1
  have hts := F.2.2.2.2
  have hl : lv_has ls 3 [(0, .ref (ad 0)), (1, .int x1), (2, .int x2)] := hl
  unfold fX11_told at hf
  refine lv_aload_n hx hb dX11_told_0 rfl (lv_at hl 0 rfl) ?_
  refine lv_iload_n hx hb dX11_told_1 rfl (lv_at hl 1 rfl) ?_
  obtain ⟨r1, er1, hf⟩ := ob_e hf
  refine kVi (As := [.int x1]) (rest := []) F B w (tX11_isField er1) (cwV 1 hts gX11_told_X11_isField rfl rfl rfl (by decide +kernel) ⟨Nat.le_of_ble_eq_true rfl, Nat.le_of_ble_eq_true rfl⟩) 0 gM_0 rfl rfl hl.1 rfl (Nat.le_of_ble_eq_true rfl) dX11_told_2 ⟨Nat.le_of_ble_eq_true rfl, Nat.le_of_ble_eq_true rfl⟩ (fun H locs w => ?_)
  refine lv_if_ne (tgt := 10) hx hb dX11_told_5 (by decide) (fun c2 => ?_) (fun c2 => ?_)
  · have hf := if_f hf c2
    refine lv_iload_n hx hb dX11_told_10 rfl (lv_at hl 2 rfl) ?_
    by_cases c4 : x2 = 0
    · have hf := if_t hf c4
      refine lv_tableIn (off := 53) (tgt := 64) hx hb dX11_told_11 (by rw [c4]; decide) (by rw [c4]; decide) (by rw [c4]; rfl) (by decide) ?_
      refine lv_aload_n hx hb dX11_told_64 rfl (lv_at hl 0 rfl) ?_
      refine kget (v := .ref (ad 4)) F B w inX11_told_11 0 gM_0 rfl 8 (by decide) (hts (.fieldLink RX11 20 "LandReformModel" "place" "[I") (by decide +kernel)) rfl rfl dX11_told_65 ?_
      refine lv_iload_n hx hb dX11_told_68 rfl (lv_at hl 1 rfl) ?_
      obtain ⟨g3, hf⟩ := if_g hf
      refine kiald F B w 4 gM_4 g3 dX11_told_69 ?_
      cases hf
      exact hQ _ _ _ _ dX11_told_70 w
    · have hf := if_f hf c4
      by_cases c6 : x2 = 1
      · have hf := if_t hf c6
        refine lv_tableIn (off := 60) (tgt := 71) hx hb dX11_told_11 (by rw [c6]; decide) (by rw [c6]; decide) (by rw [c6]; rfl) (by decide) ?_
        refine lv_aload_n hx hb dX11_told_71 rfl (lv_at hl 0 rfl) ?_
        refine kget (v := .ref (ad 5)) F B w inX11_told_11 0 gM_0 rfl 9 (by decide) (hts (.fieldLink RX11 23 "LandReformModel" "area" "[I") (by decide +kernel)) rfl rfl dX11_told_72 ?_
        refine lv_iload_n hx hb dX11_told_75 rfl (lv_at hl 1 rfl) ?_
        obtain ⟨g5, hf⟩ := if_g hf
        refine kiald F B w 5 gM_5 g5 dX11_told_76 ?_
        cases hf
        exact hQ _ _ _ _ dX11_told_77 w
      · have hf := if_f hf c6
        by_cases c8 : x2 = 2
        · have hf := if_t hf c8
          refine lv_tableIn (off := 67) (tgt := 78) hx hb dX11_told_11 (by rw [c8]; decide) (by rw [c8]; decide) (by rw [c8]; rfl) (by decide) ?_
          refine lv_aload_n hx hb dX11_told_78 rfl (lv_at hl 0 rfl) ?_
          refine kget (v := .ref (ad 6)) F B w inX11_told_11 0 gM_0 rfl 10 (by decide) (hts (.fieldLink RX11 26 "LandReformModel" "soil" "[I") (by decide +kernel)) rfl rfl dX11_told_79 ?_
          refine lv_iload_n hx hb dX11_told_82 rfl (lv_at hl 1 rfl) ?_
          obtain ⟨g7, hf⟩ := if_g hf
          refine kiald F B w 6 gM_6 g7 dX11_told_83 ?_
          cases hf
          exact hQ _ _ _ _ dX11_told_84 w
        · have hf := if_f hf c8
          by_cases c10 : x2 = 3
          · have hf := if_t hf c10
            refine lv_tableIn (off := 74) (tgt := 85) hx hb dX11_told_11 (by rw [c10]; decide) (by rw [c10]; decide) (by rw [c10]; rfl) (by decide) ?_
            refine lv_aload_n hx hb dX11_told_85 rfl (lv_at hl 0 rfl) ?_
            refine kget (v := .ref (ad 7)) F B w inX11_told_11 0 gM_0 rfl 11 (by decide) (hts (.fieldLink RX11 29 "LandReformModel" "crop" "[I") (by decide +kernel)) rfl rfl dX11_told_86 ?_
            refine lv_iload_n hx hb dX11_told_89 rfl (lv_at hl 1 rfl) ?_
            obtain ⟨g9, hf⟩ := if_g hf
            refine kiald F B w 7 gM_7 g9 dX11_told_90 ?_
            cases hf
            exact hQ _ _ _ _ dX11_told_91 w
          · have hf := if_f hf c10
            by_cases c12 : x2 = 4
            · have hf := if_t hf c12
              refine lv_tableIn (off := 81) (tgt := 92) hx hb dX11_told_11 (by rw [c12]; decide) (by rw [c12]; decide) (by rw [c12]; rfl) (by decide) ?_
              refine lv_aload_n hx hb dX11_told_92 rfl (lv_at hl 0 rfl) ?_
              refine lv_iload_n hx hb dX11_told_93 rfl (lv_at hl 1 rfl) ?_
              obtain ⟨r11, er11, hf⟩ := ob_e hf
              refine kVi (As := [.int x1]) (rest := []) F B w (tX11_owner er11) (cwV 1 hts gX11_told_X11_owner rfl rfl rfl (by decide +kernel) ⟨Nat.le_of_ble_eq_true rfl, Nat.le_of_ble_eq_true rfl⟩) 0 gM_0 rfl rfl hl.1 rfl (Nat.le_of_ble_eq_true rfl) dX11_told_94 ⟨Nat.le_of_ble_eq_true rfl, Nat.le_of_ble_eq_true rfl⟩ (fun H locs w => ?_)
              cases hf
              exact hQ _ _ _ _ dX11_told_97 w
            · have hf := if_f hf c12
              by_cases c14 : x2 = 5
              · have hf := if_t hf c14
                refine lv_tableIn (off := 87) (tgt := 98) hx hb dX11_told_11 (by rw [c14]; decide) (by rw [c14]; decide) (by rw [c14]; rfl) (by decide) ?_
                refine lv_aload_n hx hb dX11_told_98 rfl (lv_at hl 0 rfl) ?_
                refine lv_iload_n hx hb dX11_told_99 rfl (lv_at hl 1 rfl) ?_
                obtain ⟨r13, er13, hf⟩ := ob_e hf
                refine kVi (As := [.int x1]) (rest := []) F B w (tX11_standard er13) (cwV 1 hts gX11_told_X11_standard rfl rfl rfl (by decide +kernel) ⟨Nat.le_of_ble_eq_true rfl, Nat.le_of_ble_eq_true rfl⟩) 0 gM_0 rfl rfl hl.1 rfl (Nat.le_of_ble_eq_true rfl) dX11_told_100 ⟨Nat.le_of_ble_eq_true rfl, Nat.le_of_ble_eq_true rfl⟩ (fun H locs w => ?_)
                cases hf
                exact hQ _ _ _ _ dX11_told_103 w
              · have hf := if_f hf c14
                by_cases c16 : x2 = 6
                · have hf := if_t hf c16
                  refine lv_tableIn (off := 93) (tgt := 104) hx hb dX11_told_11 (by rw [c16]; decide) (by rw [c16]; decide) (by rw [c16]; rfl) (by decide) ?_
                  refine lv_aload_n hx hb dX11_told_104 rfl (lv_at hl 0 rfl) ?_
                  refine lv_iload_n hx hb dX11_told_105 rfl (lv_at hl 1 rfl) ?_
                  obtain ⟨r15, er15, hf⟩ := ob_e hf
                  refine kVi (As := [.int x1]) (rest := []) F B w (tX11_counted er15) (cwV 1 hts gX11_told_X11_counted rfl rfl rfl (by decide +kernel) ⟨Nat.le_of_ble_eq_true rfl, Nat.le_of_ble_eq_true rfl⟩) 0 gM_0 rfl rfl hl.1 rfl (Nat.le_of_ble_eq_true rfl) dX11_told_106 ⟨Nat.le_of_ble_eq_true rfl, Nat.le_of_ble_eq_true rfl⟩ (fun H locs w => ?_)
                  cases hf
                  exact hQ _ _ _ _ dX11_told_109 w
                · have hf := if_f hf c16
                  by_cases c18 : x2 = 7
                  · have hf := if_t hf c18
                    refine lv_tableIn (off := 99) (tgt := 110) hx hb dX11_told_11 (by rw [c18]; decide) (by rw [c18]; decide) (by rw [c18]; rfl) (by decide) ?_
                    refine lv_aload_n hx hb dX11_told_110 rfl (lv_at hl 0 rfl) ?_
                    refine lv_iload_n hx hb dX11_told_111 rfl (lv_at hl 1 rfl) ?_
                    obtain ⟨r17, er17, hf⟩ := ob_e hf
                    refine kVi (As := [.int x1]) (rest := []) F B w (tX11_tenant er17) (cwV 1 hts gX11_told_X11_tenant rfl rfl rfl (by decide +kernel) ⟨Nat.le_of_ble_eq_true rfl, Nat.le_of_ble_eq_true rfl⟩) 0 gM_0 rfl rfl hl.1 rfl (Nat.le_of_ble_eq_true rfl) dX11_told_112 ⟨Nat.le_of_ble_eq_true rfl, Nat.le_of_ble_eq_true rfl⟩ (fun H locs w => ?_)
                    cases hf
                    exact hQ _ _ _ _ dX11_told_115 w
                  · have hf := if_f hf c18
                    by_cases c21 : x2 = 8
                    · have hf := if_t hf c21
                      refine lv_tableIn (off := 105) (tgt := 116) hx hb dX11_told_11 (by rw [c21]; decide) (by rw [c21]; decide) (by rw [c21]; rfl) (by decide) ?_
                      refine lv_aload_n hx hb dX11_told_116 rfl (lv_at hl 0 rfl) ?_
                      refine lv_iload_n hx hb dX11_told_117 rfl (lv_at hl 1 rfl) ?_
                      obtain ⟨r19, er19, hf⟩ := ob_e hf
                      refine kVi (As := [.int x1]) (rest := []) F B w (tX11_isExempt er19) (cwV 1 hts gX11_told_X11_isExempt rfl rfl rfl (by decide +kernel) ⟨Nat.le_of_ble_eq_true rfl, Nat.le_of_ble_eq_true rfl⟩) 0 gM_0 rfl rfl hl.1 rfl (Nat.le_of_ble_eq_true rfl) dX11_told_118 ⟨Nat.le_of_ble_eq_true rfl, Nat.le_of_ble_eq_true rfl⟩ (fun H locs w => ?_)
                      obtain ⟨r20, er20, hf⟩ := ob_e hf
                      refine kSi (As := [.int r19]) (rest := []) F B w (tX11_one er20) (va_cwS 1 hts gX11_told_X11_one rfl rfl rfl (by decide +kernel) ⟨Nat.le_of_ble_eq_true rfl, Nat.le_of_ble_eq_true rfl⟩) rfl hl.1 rfl (Nat.le_of_ble_eq_true rfl) dX11_told_121 ⟨Nat.le_of_ble_eq_true rfl, Nat.le_of_ble_eq_true rfl⟩ (fun H locs w => ?_)
                      cases hf
                      exact hQ _ _ _ _ dX11_told_124 w
                    · have hf := if_f hf c21
                      by_cases c23 : x2 = 9
                      · have hf := if_t hf c23
                        refine lv_tableIn (off := 114) (tgt := 125) hx hb dX11_told_11 (by rw [c23]; decide) (by rw [c23]; decide) (by rw [c23]; rfl) (by decide) ?_
                        refine lv_aload_n hx hb dX11_told_125 rfl (lv_at hl 0 rfl) ?_
                        refine lv_iload_n hx hb dX11_told_126 rfl (lv_at hl 1 rfl) ?_
                        obtain ⟨r22, er22, hf⟩ := ob_e hf
                        refine kVi (As := [.int x1]) (rest := []) F B w (tX11_transfersOf er22) (cwV 1 hts gX11_told_X11_transfersOf rfl rfl rfl (by decide +kernel) ⟨Nat.le_of_ble_eq_true rfl, Nat.le_of_ble_eq_true rfl⟩) 0 gM_0 rfl rfl hl.1 rfl (Nat.le_of_ble_eq_true rfl) dX11_told_127 ⟨Nat.le_of_ble_eq_true rfl, Nat.le_of_ble_eq_true rfl⟩ (fun H locs w => ?_)
                        cases hf
                        exact hQ _ _ _ _ dX11_told_130 w
                      · have hf := if_f hf c23
                        have hsw : Int32.toInt x2 < 0 ∨ 9 < Int32.toInt x2 := by
                          have hc4 := lv_neT c4 (a := 0) (by decide)
                          have hc6 := lv_neT c6 (a := 1) (by decide)
                          have hc8 := lv_neT c8 (a := 2) (by decide)
                          have hc10 := lv_neT c10 (a := 3) (by decide)
                          have hc12 := lv_neT c12 (a := 4) (by decide)
                          have hc14 := lv_neT c14 (a := 5) (by decide)
                          have hc16 := lv_neT c16 (a := 6) (by decide)
                          have hc18 := lv_neT c18 (a := 7) (by decide)
                          have hc21 := lv_neT c21 (a := 8) (by decide)
                          have hc23 := lv_neT c23 (a := 9) (by decide)
                          omega
                        refine lv_tableOut (tgt := 131) hx hb dX11_told_11 hsw (by decide) ?_
                        refine lv_iconst (v := (-1)) hx hb dX11_told_131 (by decide) ?_
                        cases hf
                        exact hQ _ _ _ _ dX11_told_132 w
  · have hf := if_t hf c2
    refine lv_iconst (v := (-1)) hx hb dX11_told_8 (by decide) ?_
    cases hf
    exact hQ _ _ _ _ dX11_told_9 w

def fX11_counts_L4 (n : Nat) (x1 : Int32) (k : Int32 → Int32 → St → Option (Int32 × St)) : Nat → Int32 → Int32 → St → Option (Int32 × St)
  | 0, _, _, _ => none
  | fu + 1, x2, x3, S => if (S.1 2) ≤ x3 then (k x2 x3 S) else (ob (fX11_isExempt S x3) fun r2 => if r2 = 0 then (ob (fX11_counted n S x3) fun r4 => if r4 < 0 ∨ 40 ≤ Int32.toNatClampNeg r4 then none else if (S.2.1 5 (Int32.toNatClampNeg r4)) = x1 then (if x2 < 0 ∨ 60 ≤ Int32.toNatClampNeg x2 then none else lt_ (sA S 26 (Int32.toNatClampNeg x2) x3) fun S8 => fX11_counts_L4 n x1 k fu (x2 + 1) (x3 + 1) S8) else (fX11_counts_L4 n x1 k fu x2 (x3 + 1) S)) else (fX11_counts_L4 n x1 k fu x2 (x3 + 1) S))
def fX11_counts (n : Nat) (S : St) (x1 : Int32) : Option (Int32 × St) := fX11_counts_L4 n x1 (fun x9 x10 S11 => some (x9, S11)) n 0 0 S
set_option maxRecDepth 20000 in
theorem inX11_counts_11 : ∀ w ∈ u_ws RX11 TX11 47, w ∈ wsX11_counts := by decide +kernel
set_option maxHeartbeats 4000000 in
set_option maxRecDepth 100000 in
theorem wX11_counts_L4 {p : Program} {l : Launch} {e : Env} {s : State} {m : MethodId} {args : Array Value} {below : List Frame} {meth : Method} {c : Code} {Q : State → Prop} {D : va_G} {cc : Nat → ClassId} {ak av : Nat → Nat} {A : Nat → Prop} {ad : Nat → Nat} {E : va_W} {n : Nat} {x1 : Int32} {r : Int32} {S' : St} {k : Int32 → Int32 → St → Option (Int32 × St)} (F : CallFix p m c cX11_counts 4 s args wsX11_counts RX11) (B : Bd D cc ak av A s) (hQ : RetI p l e ({ frames := 2, cells := 0, slots := 0, locals := 48 } : Room) s m args below meth c D A Q cX11_counts (WM cc ad S' ++ E) r)
    (hk : ∀ (x2 : Int32) (x3 : Int32) (S : St) (H : Heap) (locs : List Loc) (ls : Array Slot), Wd D A s.heap H locs (WM cc ad S ++ E) → lv_has ls 4 [(0, .ref (ad 0)), (1, .int x1), (2, .int x2), (3, .int x3)] → k x2 x3 S = some (r, S') → W p l e ({ frames := 2, cells := 0, slots := 0, locals := 48 } : Room) s m args below meth c H locs 0 0 Q (F0 m 53 ls [])) :
    ∀ (fu : Nat) (x2 : Int32) (x3 : Int32) (S : St) (H : Heap) (locs : List Loc) (ls : Array Slot), Wd D A s.heap H locs (WM cc ad S ++ E) → lv_has ls 4 [(0, .ref (ad 0)), (1, .int x1), (2, .int x2), (3, .int x3)] → fX11_counts_L4 n x1 k fu x2 x3 S = some (r, S') → W p l e ({ frames := 2, cells := 0, slots := 0, locals := 48 } : Room) s m args below meth c H locs 0 0 Q (F0 m 4 ls []) := by
  have hx := F.1
  have hb := F.2.1
  have hown := F.2.2.2.1
  have hts := F.2.2.2.2
  intro fu
  induction fu with
  | zero => intro x2 x3 S H locs ls w hl hf; rw [fX11_counts_L4] at hf; cases hf
  | succ fu ih =>
    intro x2 x3 S H locs ls w hl hf
    rw [fX11_counts_L4] at hf
    refine lv_iload_n hx hb dX11_counts_4 rfl (lv_at hl 3 rfl) ?_
    refine lv_aload_n hx hb dX11_counts_5 rfl (lv_at hl 0 rfl) ?_
    refine kget (v := .int (S.1 2)) F B w inX11_counts_11 0 gM_0 rfl 2 (by decide) (hts (.fieldLink RX11 120 "LandReformModel" "fields" "I") (by decide +kernel)) rfl rfl dX11_counts_6 ?_
    refine lv_icmp_ge (tgt := 53) hx hb dX11_counts_9 (by decide) (fun c1 => ?_) (fun c1 => ?_)
    · have hf := if_t hf c1
      exact hk _ _ _ _ _ _ w (lv_sub hl [0, 1, 2, 3] rfl) hf
    · have hf := if_f hf c1
      refine lv_aload_n hx hb dX11_counts_12 rfl (lv_at hl 0 rfl) ?_
      refine lv_iload_n hx hb dX11_counts_13 rfl (lv_at hl 3 rfl) ?_
      obtain ⟨r2, er2, hf⟩ := ob_e hf
      refine kVi (As := [.int x3]) (rest := []) F B w (tX11_isExempt er2) (cwV 1 hts gX11_counts_X11_isExempt rfl rfl rfl (by decide +kernel) ⟨Nat.le_of_ble_eq_true rfl, Nat.le_of_ble_eq_true rfl⟩) 0 gM_0 rfl rfl hl.1 rfl (Nat.le_of_ble_eq_true rfl) dX11_counts_14 ⟨Nat.le_of_ble_eq_true rfl, Nat.le_of_ble_eq_true rfl⟩ (fun H locs w => ?_)
      refine lv_if_ne (tgt := 47) hx hb dX11_counts_17 (by decide) (fun c3 => ?_) (fun c3 => ?_)
      · have hf := if_f hf c3
        refine lv_iinc (v := (x3 + 1)) (lv' := [(3, .int (x3 + 1)), (0, .ref (ad 0)), (1, .int x1), (2, .int x2)]) hx hb dX11_counts_47 hl (k := 3) rfl rfl (by decide) rfl (fun ls hl => ?_)
        refine lv_goto (tgt := 4) hx hb dX11_counts_50 (by decide) ?_
        exact ih _ _ _ _ _ _ w (lv_sub hl [1, 2, 3, 0] rfl) hf
      · have hf := if_t hf c3
        refine lv_aload_n hx hb dX11_counts_20 rfl (lv_at hl 0 rfl) ?_
        refine kget (v := .ref (ad 1)) F B w inX11_counts_11 0 gM_0 rfl 5 (by decide) (hts (.fieldLink RX11 7 "LandReformModel" "house" "[I") (by decide +kernel)) rfl rfl dX11_counts_21 ?_
        refine lv_aload_n hx hb dX11_counts_24 rfl (lv_at hl 0 rfl) ?_
        refine lv_iload_n hx hb dX11_counts_25 rfl (lv_at hl 3 rfl) ?_
        obtain ⟨r4, er4, hf⟩ := ob_e hf
        refine kVi (As := [.int x3]) (rest := [.ref (ad 1)]) F B w (tX11_counted er4) (cwV 1 hts gX11_counts_X11_counted rfl rfl rfl (by decide +kernel) ⟨Nat.le_of_ble_eq_true rfl, Nat.le_of_ble_eq_true rfl⟩) 0 gM_0 rfl rfl hl.1 rfl (Nat.le_of_ble_eq_true rfl) dX11_counts_26 ⟨Nat.le_of_ble_eq_true rfl, Nat.le_of_ble_eq_true rfl⟩ (fun H locs w => ?_)
        obtain ⟨g5, hf⟩ := if_g hf
        refine kiald F B w 1 gM_1 g5 dX11_counts_29 ?_
        refine lv_iload_n hx hb dX11_counts_30 rfl (lv_at hl 1 rfl) ?_
        refine lv_icmp_eq (tgt := 37) hx hb dX11_counts_31 (by decide) (fun c6 => ?_) (fun c6 => ?_)
        · have hf := if_t hf c6
          refine lv_aload_n hx hb dX11_counts_37 rfl (lv_at hl 0 rfl) ?_
          refine kget (v := .ref (ad 15)) F B w inX11_counts_11 0 gM_0 rfl 26 (by decide) (hts (.fieldLink RX11 58 "LandReformModel" "row" "[I") (by decide +kernel)) rfl rfl dX11_counts_38 ?_
          refine lv_iload_n hx hb dX11_counts_41 rfl (lv_at hl 2 rfl) ?_
          refine lv_iload_n hx hb dX11_counts_42 rfl (lv_at hl 3 rfl) ?_
          obtain ⟨g7, hf⟩ := if_g hf
          refine kiast F B w 15 gM_15 g7 bM_15 dX11_counts_43 (fun H locs w => ?_)
          obtain ⟨S8, eS8⟩ : ∃ z, z = sA S 26 (Int32.toNatClampNeg x2) x3 := ⟨_, rfl⟩
          rw [← eS8] at w
          have hf := lt_e hf eS8
          refine lv_iinc (v := (x2 + 1)) (lv' := [(2, .int (x2 + 1)), (0, .ref (ad 0)), (1, .int x1), (3, .int x3)]) hx hb dX11_counts_44 hl (k := 2) rfl rfl (by decide) rfl (fun ls hl => ?_)
          refine lv_iinc (v := (x3 + 1)) (lv' := [(3, .int (x3 + 1)), (2, .int (x2 + 1)), (0, .ref (ad 0)), (1, .int x1)]) hx hb dX11_counts_47 hl (k := 3) rfl rfl (by decide) rfl (fun ls hl => ?_)
          refine lv_goto (tgt := 4) hx hb dX11_counts_50 (by decide) ?_
          exact ih _ _ _ _ _ _ w (lv_sub hl [2, 3, 1, 0] rfl) hf
        · have hf := if_f hf c6
          refine lv_goto (tgt := 47) hx hb dX11_counts_34 (by decide) ?_
          refine lv_iinc (v := (x3 + 1)) (lv' := [(3, .int (x3 + 1)), (0, .ref (ad 0)), (1, .int x1), (2, .int x2)]) hx hb dX11_counts_47 hl (k := 3) rfl rfl (by decide) rfl (fun ls hl => ?_)
          refine lv_goto (tgt := 4) hx hb dX11_counts_50 (by decide) ?_
          exact ih _ _ _ _ _ _ w (lv_sub hl [1, 2, 3, 0] rfl) hf
set_option maxHeartbeats 4000000 in
set_option maxRecDepth 100000 in
theorem tX11_counts {l : Launch} {D : va_G} {cc : Nat → ClassId} {ak av : Nat → Nat} {ad : Nat → Nat} {E : va_W} {n : Nat} {S : St} {x1 : Int32} {r : Int32} {S' : St} (hf : fX11_counts n S x1 = some (r, S')) : CI l yX11_counts wsX11_counts ({ frames := 2, cells := 0, slots := 0, locals := 48 } : Room) D cc ak av [.ref (ad 0), .int x1] (WM cc ad S ++ E) (WM cc ad S' ++ E) r := by
  refine mkI (c0 := cX11_counts) (nL := 4) (own := RX11) rfl rfl (by decide) rfl rfl (Nat.le_of_ble_eq_true rfl) ?_
  intro p e s m args below meth c A Q ls F B hQ hl w
  have hx := F.1
  have hb := F.2.1
  have hown := F.2.2.2.1
  have hts := F.2.2.2.2
  have hl : lv_has ls 4 [(0, .ref (ad 0)), (1, .int x1)] := hl
  unfold fX11_counts at hf
  refine lv_iconst (v := 0) hx hb dX11_counts_0 (by decide) ?_
  refine lv_istore_n (lv' := [(2, .int 0), (0, .ref (ad 0)), (1, .int x1)]) hx hb dX11_counts_1 rfl hl (by decide) rfl (fun ls hl => ?_)
  refine lv_iconst (v := 0) hx hb dX11_counts_2 (by decide) ?_
  refine lv_istore_n (lv' := [(3, .int 0), (2, .int 0), (0, .ref (ad 0)), (1, .int x1)]) hx hb dX11_counts_3 rfl hl (by decide) rfl (fun ls hl => ?_)
  refine wX11_counts_L4 F B hQ (fun x9 x10 S11 H locs ls w hl hf => ?_) n _ _ _ _ _ _ w (lv_sub hl [2, 3, 1, 0] rfl) hf
  refine lv_iload_n hx hb dX11_counts_53 rfl (lv_at hl 2 rfl) ?_
  cases hf
  exact hQ _ _ _ _ dX11_counts_54 w

def fX11_peopleOf_L4 (n : Nat) (x1 : Int32) (S : St) (k : Int32 → Int32 → Option Int32) : Nat → Int32 → Int32 → Option Int32
  | 0, _, _ => none
  | fu + 1, x2, x3 => if (S.1 1) ≤ x3 then (k x2 x3) else (if x3 < 0 ∨ 40 ≤ Int32.toNatClampNeg x3 then none else if (S.2.1 5 (Int32.toNatClampNeg x3)) = x1 then (ob (fX11_one 1) fun r6 => lt_ (x2 + r6) fun v7 => fX11_peopleOf_L4 n x1 S k fu v7 (x3 + 1)) else (ob (fX11_one 0) fun r4 => lt_ (x2 + r4) fun v5 => fX11_peopleOf_L4 n x1 S k fu v5 (x3 + 1)))
def fX11_peopleOf (n : Nat) (S : St) (x1 : Int32) : Option Int32 := fX11_peopleOf_L4 n x1 S (fun x8 x9 => some x8) n 0 0
set_option maxRecDepth 20000 in
theorem inX11_peopleOf_11 : ∀ w ∈ u_ws RX11 TX11 47, w ∈ wsX11_peopleOf := by decide +kernel
set_option maxHeartbeats 4000000 in
set_option maxRecDepth 100000 in
theorem wX11_peopleOf_L4 {p : Program} {l : Launch} {e : Env} {s : State} {m : MethodId} {args : Array Value} {below : List Frame} {meth : Method} {c : Code} {Q : State → Prop} {D : va_G} {cc : Nat → ClassId} {ak av : Nat → Nat} {A : Nat → Prop} {ad : Nat → Nat} {E : va_W} {n : Nat} {x1 : Int32} {S : St} {r : Int32} {k : Int32 → Int32 → Option Int32} (F : CallFix p m c cX11_peopleOf 4 s args wsX11_peopleOf RX11) (B : Bd D cc ak av A s) (hQ : RetI p l e ({ frames := 1, cells := 0, slots := 0, locals := 20 } : Room) s m args below meth c D A Q cX11_peopleOf (WM cc ad S ++ E) r)
    (hk : ∀ (x2 : Int32) (x3 : Int32) (H : Heap) (locs : List Loc) (ls : Array Slot), Wd D A s.heap H locs (WM cc ad S ++ E) → lv_has ls 4 [(0, .ref (ad 0)), (1, .int x1), (2, .int x2), (3, .int x3)] → k x2 x3 = some r → W p l e ({ frames := 1, cells := 0, slots := 0, locals := 20 } : Room) s m args below meth c H locs 0 0 Q (F0 m 39 ls [])) :
    ∀ (fu : Nat) (x2 : Int32) (x3 : Int32) (H : Heap) (locs : List Loc) (ls : Array Slot), Wd D A s.heap H locs (WM cc ad S ++ E) → lv_has ls 4 [(0, .ref (ad 0)), (1, .int x1), (2, .int x2), (3, .int x3)] → fX11_peopleOf_L4 n x1 S k fu x2 x3 = some r → W p l e ({ frames := 1, cells := 0, slots := 0, locals := 20 } : Room) s m args below meth c H locs 0 0 Q (F0 m 4 ls []) := by
  have hx := F.1
  have hb := F.2.1
  have hown := F.2.2.2.1
  have hts := F.2.2.2.2
  intro fu
  induction fu with
  | zero => intro x2 x3 H locs ls w hl hf; rw [fX11_peopleOf_L4] at hf; cases hf
  | succ fu ih =>
    intro x2 x3 H locs ls w hl hf
    rw [fX11_peopleOf_L4] at hf
    refine lv_iload_n hx hb dX11_peopleOf_4 rfl (lv_at hl 3 rfl) ?_
    refine lv_aload_n hx hb dX11_peopleOf_5 rfl (lv_at hl 0 rfl) ?_
    refine kget (v := .int (S.1 1)) F B w inX11_peopleOf_11 0 gM_0 rfl 1 (by decide) (hts (.fieldLink RX11 113 "LandReformModel" "persons" "I") (by decide +kernel)) rfl rfl dX11_peopleOf_6 ?_
    refine lv_icmp_ge (tgt := 39) hx hb dX11_peopleOf_9 (by decide) (fun c1 => ?_) (fun c1 => ?_)
    · have hf := if_t hf c1
      exact hk _ _ _ _ _ w (lv_sub hl [0, 1, 2, 3] rfl) hf
    · have hf := if_f hf c1
      refine lv_iload_n hx hb dX11_peopleOf_12 rfl (lv_at hl 2 rfl) ?_
      refine lv_aload_n hx hb dX11_peopleOf_13 rfl (lv_at hl 0 rfl) ?_
      refine kget (v := .ref (ad 1)) F B w inX11_peopleOf_11 0 gM_0 rfl 5 (by decide) (hts (.fieldLink RX11 7 "LandReformModel" "house" "[I") (by decide +kernel)) rfl rfl dX11_peopleOf_14 ?_
      refine lv_iload_n hx hb dX11_peopleOf_17 rfl (lv_at hl 3 rfl) ?_
      obtain ⟨g2, hf⟩ := if_g hf
      refine kiald F B w 1 gM_1 g2 dX11_peopleOf_18 ?_
      refine lv_iload_n hx hb dX11_peopleOf_19 rfl (lv_at hl 1 rfl) ?_
      refine lv_icmp_ne (tgt := 27) hx hb dX11_peopleOf_20 (by decide) (fun c3 => ?_) (fun c3 => ?_)
      · have hf := if_f hf c3
        refine lv_iconst (v := 0) hx hb dX11_peopleOf_27 (by decide) ?_
        obtain ⟨r4, er4, hf⟩ := ob_e hf
        refine kSi (As := [.int 0]) (rest := [.int x2]) F B w (tX11_one er4) (va_cwS 1 hts gX11_peopleOf_X11_one rfl rfl rfl (by decide +kernel) ⟨Nat.le_of_ble_eq_true rfl, Nat.le_of_ble_eq_true rfl⟩) rfl hl.1 rfl (Nat.le_of_ble_eq_true rfl) dX11_peopleOf_28 ⟨Nat.le_of_ble_eq_true rfl, Nat.le_of_ble_eq_true rfl⟩ (fun H locs w => ?_)
        refine lv_iadd hx hb dX11_peopleOf_31 ?_
        refine lv_topi (fun v5 ev5 => ?_)
        have hf := lt_e hf ev5
        refine lv_istore_n (lv' := [(2, .int v5), (0, .ref (ad 0)), (1, .int x1), (3, .int x3)]) hx hb dX11_peopleOf_32 rfl hl (by decide) rfl (fun ls hl => ?_)
        refine lv_iinc (v := (x3 + 1)) (lv' := [(3, .int (x3 + 1)), (2, .int v5), (0, .ref (ad 0)), (1, .int x1)]) hx hb dX11_peopleOf_33 hl (k := 3) rfl rfl (by decide) rfl (fun ls hl => ?_)
        refine lv_goto (tgt := 4) hx hb dX11_peopleOf_36 (by decide) ?_
        exact ih _ _ _ _ _ w (lv_sub hl [2, 3, 1, 0] rfl) hf
      · have hf := if_t hf c3
        refine lv_iconst (v := 1) hx hb dX11_peopleOf_23 (by decide) ?_
        refine lv_goto (tgt := 28) hx hb dX11_peopleOf_24 (by decide) ?_
        obtain ⟨r6, er6, hf⟩ := ob_e hf
        refine kSi (As := [.int 1]) (rest := [.int x2]) F B w (tX11_one er6) (va_cwS 1 hts gX11_peopleOf_X11_one rfl rfl rfl (by decide +kernel) ⟨Nat.le_of_ble_eq_true rfl, Nat.le_of_ble_eq_true rfl⟩) rfl hl.1 rfl (Nat.le_of_ble_eq_true rfl) dX11_peopleOf_28 ⟨Nat.le_of_ble_eq_true rfl, Nat.le_of_ble_eq_true rfl⟩ (fun H locs w => ?_)
        refine lv_iadd hx hb dX11_peopleOf_31 ?_
        refine lv_topi (fun v7 ev7 => ?_)
        have hf := lt_e hf ev7
        refine lv_istore_n (lv' := [(2, .int v7), (0, .ref (ad 0)), (1, .int x1), (3, .int x3)]) hx hb dX11_peopleOf_32 rfl hl (by decide) rfl (fun ls hl => ?_)
        refine lv_iinc (v := (x3 + 1)) (lv' := [(3, .int (x3 + 1)), (2, .int v7), (0, .ref (ad 0)), (1, .int x1)]) hx hb dX11_peopleOf_33 hl (k := 3) rfl rfl (by decide) rfl (fun ls hl => ?_)
        refine lv_goto (tgt := 4) hx hb dX11_peopleOf_36 (by decide) ?_
        exact ih _ _ _ _ _ w (lv_sub hl [2, 3, 1, 0] rfl) hf
set_option maxHeartbeats 4000000 in
set_option maxRecDepth 100000 in
theorem tX11_peopleOf {l : Launch} {D : va_G} {cc : Nat → ClassId} {ak av : Nat → Nat} {ad : Nat → Nat} {E : va_W} {n : Nat} {S : St} {x1 : Int32} {r : Int32} (hf : fX11_peopleOf n S x1 = some r) : CI l yX11_peopleOf wsX11_peopleOf ({ frames := 1, cells := 0, slots := 0, locals := 20 } : Room) D cc ak av [.ref (ad 0), .int x1] (WM cc ad S ++ E) (WM cc ad S ++ E) r := by
  refine mkI (c0 := cX11_peopleOf) (nL := 4) (own := RX11) rfl rfl (by decide) rfl rfl (Nat.le_of_ble_eq_true rfl) ?_
  intro p e s m args below meth c A Q ls F B hQ hl w
  have hx := F.1
  have hb := F.2.1
  have hown := F.2.2.2.1
  have hts := F.2.2.2.2
  have hl : lv_has ls 4 [(0, .ref (ad 0)), (1, .int x1)] := hl
  unfold fX11_peopleOf at hf
  refine lv_iconst (v := 0) hx hb dX11_peopleOf_0 (by decide) ?_
  refine lv_istore_n (lv' := [(2, .int 0), (0, .ref (ad 0)), (1, .int x1)]) hx hb dX11_peopleOf_1 rfl hl (by decide) rfl (fun ls hl => ?_)
  refine lv_iconst (v := 0) hx hb dX11_peopleOf_2 (by decide) ?_
  refine lv_istore_n (lv' := [(3, .int 0), (2, .int 0), (0, .ref (ad 0)), (1, .int x1)]) hx hb dX11_peopleOf_3 rfl hl (by decide) rfl (fun ls hl => ?_)
  refine wX11_peopleOf_L4 F B hQ (fun x8 x9 H locs ls w hl hf => ?_) n _ _ _ _ _ w (lv_sub hl [2, 3, 1, 0] rfl) hf
  refine lv_iload_n hx hb dX11_peopleOf_39 rfl (lv_at hl 2 rfl) ?_
  cases hf
  exact hQ _ _ _ _ dX11_peopleOf_40 w

def fX11_holding_L11 (n : Nat) (x2 : Int32) (S : St) (k : Int32 → Int32 → Option (Int32 × St)) : Nat → Int32 → Int32 → Option (Int32 × St)
  | 0, _, _ => none
  | fu + 1, x3, x4 => if x2 ≤ x4 then (k x3 x4) else (if x4 < 0 ∨ 60 ≤ Int32.toNatClampNeg x4 then none else ob (fX11_standard S (S.2.1 26 (Int32.toNatClampNeg x4))) fun r6 => lt_ (x3 + r6) fun v7 => fX11_holding_L11 n x2 S k fu v7 (x4 + 1))
def fX11_holding (n : Nat) (S : St) (x1 : Int32) : Option (Int32 × St) := ob (fX11_counts n S x1) fun q3 => lt_ q3.1 fun r1 => lt_ q3.2 fun S2 => fX11_holding_L11 n r1 S2 (fun x8 x9 => some (x8, S2)) n 0 0
set_option maxRecDepth 20000 in
theorem inX11_holding_11 : ∀ w ∈ u_ws RX11 TX11 47, w ∈ wsX11_holding := by decide +kernel
set_option maxHeartbeats 4000000 in
set_option maxRecDepth 100000 in
theorem wX11_holding_L11 {p : Program} {l : Launch} {e : Env} {s : State} {m : MethodId} {args : Array Value} {below : List Frame} {meth : Method} {c : Code} {Q : State → Prop} {D : va_G} {cc : Nat → ClassId} {ak av : Nat → Nat} {A : Nat → Prop} {ad : Nat → Nat} {E : va_W} {n : Nat} {x2 : Int32} {S : St} {r : Int32} {S' : St} {k : Int32 → Int32 → Option (Int32 × St)} (F : CallFix p m c cX11_holding 5 s args wsX11_holding RX11) (B : Bd D cc ak av A s) (hQ : RetI p l e ({ frames := 3, cells := 0, slots := 0, locals := 71 } : Room) s m args below meth c D A Q cX11_holding (WM cc ad S' ++ E) r)
    (hk : ∀ (x3 : Int32) (x4 : Int32) (H : Heap) (locs : List Loc) (ls : Array Slot), Wd D A s.heap H locs (WM cc ad S ++ E) → lv_has ls 5 [(0, .ref (ad 0)), (2, .int x2), (3, .int x3), (4, .int x4)] → k x3 x4 = some (r, S') → W p l e ({ frames := 3, cells := 0, slots := 0, locals := 71 } : Room) s m args below meth c H locs 0 0 Q (F0 m 37 ls [])) :
    ∀ (fu : Nat) (x3 : Int32) (x4 : Int32) (H : Heap) (locs : List Loc) (ls : Array Slot), Wd D A s.heap H locs (WM cc ad S ++ E) → lv_has ls 5 [(0, .ref (ad 0)), (2, .int x2), (3, .int x3), (4, .int x4)] → fX11_holding_L11 n x2 S k fu x3 x4 = some (r, S') → W p l e ({ frames := 3, cells := 0, slots := 0, locals := 71 } : Room) s m args below meth c H locs 0 0 Q (F0 m 11 ls []) := by
  have hx := F.1
  have hb := F.2.1
  have hown := F.2.2.2.1
  have hts := F.2.2.2.2
  intro fu
  induction fu with
  | zero => intro x3 x4 H locs ls w hl hf; rw [fX11_holding_L11] at hf; cases hf
  | succ fu ih =>
    intro x3 x4 H locs ls w hl hf
    rw [fX11_holding_L11] at hf
    refine lv_iload hx hb dX11_holding_11 (lv_at hl 3 rfl) ?_
    refine lv_iload_n hx hb dX11_holding_13 rfl (lv_at hl 1 rfl) ?_
    refine lv_icmp_ge (tgt := 37) hx hb dX11_holding_14 (by decide) (fun c4 => ?_) (fun c4 => ?_)
    · have hf := if_t hf c4
      exact hk _ _ _ _ _ w (lv_sub hl [0, 1, 2, 3] rfl) hf
    · have hf := if_f hf c4
      refine lv_iload_n hx hb dX11_holding_17 rfl (lv_at hl 2 rfl) ?_
      refine lv_aload_n hx hb dX11_holding_18 rfl (lv_at hl 0 rfl) ?_
      refine lv_aload_n hx hb dX11_holding_19 rfl (lv_at hl 0 rfl) ?_
      refine kget (v := .ref (ad 15)) F B w inX11_holding_11 0 gM_0 rfl 26 (by decide) (hts (.fieldLink RX11 58 "LandReformModel" "row" "[I") (by decide +kernel)) rfl rfl dX11_holding_20 ?_
      refine lv_iload hx hb dX11_holding_23 (lv_at hl 3 rfl) ?_
      obtain ⟨g5, hf⟩ := if_g hf
      refine kiald F B w 15 gM_15 g5 dX11_holding_25 ?_
      obtain ⟨r6, er6, hf⟩ := ob_e hf
      refine kVi (As := [.int (S.2.1 26 (Int32.toNatClampNeg x4))]) (rest := [.int x3]) F B w (tX11_standard er6) (cwV 1 hts gX11_holding_X11_standard rfl rfl rfl (by decide +kernel) ⟨Nat.le_of_ble_eq_true rfl, Nat.le_of_ble_eq_true rfl⟩) 0 gM_0 rfl rfl hl.1 rfl (Nat.le_of_ble_eq_true rfl) dX11_holding_26 ⟨Nat.le_of_ble_eq_true rfl, Nat.le_of_ble_eq_true rfl⟩ (fun H locs w => ?_)
      refine lv_iadd hx hb dX11_holding_29 ?_
      refine lv_topi (fun v7 ev7 => ?_)
      have hf := lt_e hf ev7
      refine lv_istore_n (lv' := [(3, .int v7), (0, .ref (ad 0)), (2, .int x2), (4, .int x4)]) hx hb dX11_holding_30 rfl hl (by decide) rfl (fun ls hl => ?_)
      refine lv_iinc (v := (x4 + 1)) (lv' := [(4, .int (x4 + 1)), (3, .int v7), (0, .ref (ad 0)), (2, .int x2)]) hx hb dX11_holding_31 hl (k := 3) rfl rfl (by decide) rfl (fun ls hl => ?_)
      refine lv_goto (tgt := 11) hx hb dX11_holding_34 (by decide) ?_
      exact ih _ _ _ _ _ w (lv_sub hl [2, 3, 1, 0] rfl) hf
set_option maxHeartbeats 4000000 in
set_option maxRecDepth 100000 in
theorem tX11_holding {l : Launch} {D : va_G} {cc : Nat → ClassId} {ak av : Nat → Nat} {ad : Nat → Nat} {E : va_W} {n : Nat} {S : St} {x1 : Int32} {r : Int32} {S' : St} (hf : fX11_holding n S x1 = some (r, S')) : CI l yX11_holding wsX11_holding ({ frames := 3, cells := 0, slots := 0, locals := 71 } : Room) D cc ak av [.ref (ad 0), .int x1] (WM cc ad S ++ E) (WM cc ad S' ++ E) r := by
  refine mkI (c0 := cX11_holding) (nL := 5) (own := RX11) rfl rfl (by decide) rfl rfl (Nat.le_of_ble_eq_true rfl) ?_
  intro p e s m args below meth c A Q ls F B hQ hl w
  have hx := F.1
  have hb := F.2.1
  have hown := F.2.2.2.1
  have hts := F.2.2.2.2
  have hl : lv_has ls 5 [(0, .ref (ad 0)), (1, .int x1)] := hl
  unfold fX11_holding at hf
  refine lv_aload_n hx hb dX11_holding_0 rfl (lv_at hl 0 rfl) ?_
  refine lv_iload_n hx hb dX11_holding_1 rfl (lv_at hl 1 rfl) ?_
  obtain ⟨⟨r1, S2⟩, er1, hf⟩ := ob_e hf
  have hf := lt_e hf (v := r1) rfl
  have hf := lt_e hf (v := S2) rfl
  refine kVi (As := [.int x1]) (rest := []) F B w (tX11_counts er1) (cwV 1 hts gX11_holding_X11_counts rfl rfl rfl (by decide +kernel) ⟨Nat.le_of_ble_eq_true rfl, Nat.le_of_ble_eq_true rfl⟩) 0 gM_0 rfl rfl hl.1 rfl (Nat.le_of_ble_eq_true rfl) dX11_holding_2 ⟨Nat.le_of_ble_eq_true rfl, Nat.le_of_ble_eq_true rfl⟩ (fun H locs w => ?_)
  refine lv_istore_n (lv' := [(2, .int r1), (0, .ref (ad 0)), (1, .int x1)]) hx hb dX11_holding_5 rfl hl (by decide) rfl (fun ls hl => ?_)
  refine lv_iconst (v := 0) hx hb dX11_holding_6 (by decide) ?_
  refine lv_istore_n (lv' := [(3, .int 0), (2, .int r1), (0, .ref (ad 0)), (1, .int x1)]) hx hb dX11_holding_7 rfl hl (by decide) rfl (fun ls hl => ?_)
  refine lv_iconst (v := 0) hx hb dX11_holding_8 (by decide) ?_
  refine lv_istore (lv' := [(4, .int 0), (3, .int 0), (2, .int r1), (0, .ref (ad 0)), (1, .int x1)]) hx hb dX11_holding_9 hl (by decide) rfl (fun ls hl => ?_)
  refine wX11_holding_L11 F B hQ (fun x8 x9 H locs ls w hl hf => ?_) n _ _ _ _ _ w (lv_sub hl [3, 2, 1, 0] rfl) hf
  refine lv_iload_n hx hb dX11_holding_37 rfl (lv_at hl 2 rfl) ?_
  cases hf
  exact hQ _ _ _ _ dX11_holding_38 w
