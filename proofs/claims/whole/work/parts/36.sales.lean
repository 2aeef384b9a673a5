/-! the sales: a pool of cells behind the fixed ones -/
def sv (F : Nat → Nat → Int32) (i : Nat) : List Value := [.int (F 0 i), .int (F 1 i), .int (F 2 i), .int (F 3 i), .int (F 4 i), .int (F 5 i), .int (F 6 i), .int (F 7 i), .int (F 8 i)]
def sP (F : Nat → Nat → Int32) (sa : Nat → Nat) (k : Nat) : va_W := (List.range k).map (fun i => (sa i, .inr (7, sv F i)))
def gS (sa : Nat → Nat) (k : Nat) : Nat → Option Nat := fun i => if i < k then some (sa i) else none
def Fs (F : Nat → Nat → Int32) (j : Nat) : St := (fun f => F f j, fun _ _ => 0, fun _ => 0)
def upF (F : Nat → Nat → Int32) (j : Nat) (v : Nat → Int32) : Nat → Nat → Int32 := fun f i => if i = j then v f else F f i
theorem sP_len {F : Nat → Nat → Int32} {sa : Nat → Nat} {k : Nat} : (sP F sa k).length = k := by simp [sP]
theorem sP_get {F : Nat → Nat → Int32} {sa : Nat → Nat} {k j : Nat} (h : j < k) : (sP F sa k)[j]? = some (sa j, .inr (7, sv F j)) := by
  unfold sP
  rw [List.getElem?_map, List.getElem?_range h]
  rfl
theorem WX_len {cc : Nat → ClassId} {ad : Nat → Nat} {g : Nat → Option Nat} {S : St} : (WX cc ad g S).length = 46 := rfl
theorem sP_at {cc : Nat → ClassId} {ad : Nat → Nat} {g : Nat → Option Nat} {S : St} {F : Nat → Nat → Int32} {sa : Nat → Nat} {k j : Nat} {E : va_W} (h : j < k) : (WX cc ad g S ++ (sP F sa k ++ E))[46 + j]? = some (sa j, .inr (7, sv F j)) := by
  rw [List.getElem?_append_right (by rw [WX_len]; omega), WX_len, Nat.add_sub_cancel_left, List.getElem?_append_left (by rw [sP_len]; exact h)]
  exact sP_get h
theorem set_self {α : Type} {l : List α} {k : Nat} {x : α} (h : l[k]? = some x) : l.set k x = l := by
  apply List.ext_getElem?
  intro i
  by_cases e : i = k
  · subst e
    rw [List.getElem?_set_self (List.getElem?_eq_some_iff.mp h).1, h]
  · rw [List.getElem?_set_ne (Ne.symm e)]
theorem sP_up {F : Nat → Nat → Int32} {sa : Nat → Nat} {k j : Nat} {v : Nat → Int32} (h : j < k) : (sP F sa k).set j (sa j, .inr (7, sv (upF F j v) j)) = sP (upF F j v) sa k := by
  apply List.ext_getElem?
  intro i
  by_cases e : i = j
  · subst e
    rw [List.getElem?_set_self (by rw [sP_len]; exact h), sP_get h]
  · rw [List.getElem?_set_ne (Ne.symm e)]
    by_cases hi : i < k
    · rw [sP_get hi, sP_get hi]
      have : sv F i = sv (upF F j v) i := by simp [sv, upF, e]
      rw [this]
    · rw [List.getElem?_eq_none (by rw [sP_len]; omega), List.getElem?_eq_none (by rw [sP_len]; omega)]
theorem sP_set {cc : Nat → ClassId} {ad : Nat → Nat} {g : Nat → Option Nat} {S : St} {F : Nat → Nat → Int32} {sa : Nat → Nat} {k j : Nat} {E : va_W} {v : Nat → Int32} (h : j < k) : (WX cc ad g S ++ (sP F sa k ++ E)).set (46 + j) (sa j, .inr (7, sv (upF F j v) j)) = WX cc ad g S ++ (sP (upF F j v) sa k ++ E) := by
  rw [List.set_append_right _ _ (by rw [WX_len]; omega), WX_len, Nat.add_sub_cancel_left, List.set_append_left _ _ (by rw [sP_len]; exact h), sP_up h]
theorem sv_up {F : Nat → Nat → Int32} {j : Nat} {v : Nat → Int32} : sv (upF F j v) j = [.int (v 0), .int (v 1), .int (v 2), .int (v 3), .int (v 4), .int (v 5), .int (v 6), .int (v 7), .int (v 8)] := by simp [sv, upF]
theorem WQ_self {cc : Nat → ClassId} {ad : Nat → Nat} {g : Nat → Option Nat} {S : St} {F : Nat → Nat → Int32} {sa : Nat → Nat} {k j : Nat} {E : va_W} (h : j < k) : WQ (WX cc ad g S ++ (sP F sa k ++ E)) (46 + j) (fun _ => sa j) (Fs F j) = WX cc ad g S ++ (sP F sa k ++ E) := set_self (sP_at h)
theorem WQ_up {cc : Nat → ClassId} {ad : Nat → Nat} {g : Nat → Option Nat} {S S' : St} {F : Nat → Nat → Int32} {sa : Nat → Nat} {k j : Nat} {E : va_W} (h : j < k) : WQ (WX cc ad g S ++ (sP F sa k ++ E)) (46 + j) (fun _ => sa j) S' = WX cc ad g S ++ (sP (upF F j S'.1) sa k ++ E) := by
  rw [← sP_set h, sv_up]
  rfl
theorem sP_add {F : Nat → Nat → Int32} {sa : Nat → Nat} {k q : Nat} {v : Nat → Int32} : sP F sa k ++ [(q, .inr (7, [.int (v 0), .int (v 1), .int (v 2), .int (v 3), .int (v 4), .int (v 5), .int (v 6), .int (v 7), .int (v 8)]))] = sP (upF F k v) (va_up sa k q) (k + 1) := by
  unfold sP
  rw [List.range_succ, List.map_append]
  congr 1
  · apply List.map_congr_left
    intro i hi
    have hi := List.mem_range.mp hi
    have e : i ≠ k := by omega
    have e9 : va_up sa k q i = sa i := if_neg e
    rw [e9]
    have : sv F i = sv (upF F k v) i := by simp [sv, upF, e]
    rw [this]
  · have e9 : va_up sa k q k = q := if_pos rfl
    rw [List.map_singleton, e9, sv_up]
theorem gS_add {sa : Nat → Nat} {k q : Nat} : va_up (gS sa k) k (some q) = gS (va_up sa k q) (k + 1) := by
  funext i
  unfold gS va_up
  by_cases e : i = k
  · subst e; simp
  · by_cases h : i < k
    · simp [e, h, Nat.lt_succ_of_lt h]
    · simp [e, h, show ¬ i < k + 1 by omega]
/-- an answer that is a cell or null -/
def CO (l : Launch) (y : MethodName) (ws : List Cond) (rm : Room) (D : va_G) (cc : Nat → ClassId) (ak av : Nat → Nat) (As : List Value) (w0 : va_W) (r : Option Nat) : Prop := ∀ sz : Nat, Met l y ws rm (va_Pc As (CPre D cc ak av w0 sz)) (va_Qq (fun r' (_ : Unit) => r' = r) (CPost D w0 w0 sz) (va_A w0 sz)) 0 0 (va_A w0 sz)
section SALE
variable {p : Program} {l : Launch} {e : Env} {R : Room} {s : State} {m : MethodId} {args : Array Value} {below : List Frame} {meth : Method} {c : Code} {H : Heap} {locs : List Loc} {cells slots : Nat} {Q : State → Prop}
variable {D : va_G} {cc : Nat → ClassId} {ak av : Nat → Nat} {A : Nat → Prop}
variable {pc : Nat} {ls : Array Slot} {rest st : List Value} {c0 bytes : ByteArray} {nL maxL index n mc ms : Nat} {Ts ws : List Cond} {own C host : String} {y : MethodName} {ret : Option FieldType} {rm : Room} {As : List Value} {b : Nat} {w0 w1 : va_W}
theorem kVo {r : Option Nat} (F : CallFix p m c c0 nL s args Ts own) (B : Bd D cc ak av A s) (w : Wd D A s.heap H locs w0) (hM : CO l y ws rm D cc ak av (.ref b :: As) w0 r) (cw : CallW R s args own C index y bytes maxL ret ws rm 0 0 n) (q0 : Nat) {ci : Nat} {fs : List Value} {T : u_T} {N : Nat} (he : w0[q0]? = some (b, .inr (ci, fs))) (hc : vwCl[ci]? = some (C, T, N)) (hn : As.length = n) (hsize : ls.size = nL) (hst : st = As.reverse ++ .ref b :: rest) (hroom : (rest.map fun v => v.category).sum ≤ 8) (hdg : decode c0 pc = .ok (.invokevirtual index, 3)) (hf : cells + 0 ≤ R.cells ∧ slots + 0 ≤ R.slots)
    (kk : ∀ (H1 : Heap) (locs1 : List Loc), Wd D A s.heap H1 locs1 w0 → W p l e R s m args below meth c H1 locs1 cells slots Q (F0 m (pc + 3) ls (va_rf r :: rest))) : W p l e R s m args below meth c H locs cells slots Q (F0 m pc ls st) := by
  refine va_callq (va_runV (As := As) (rest := rest) F (hM H.size) cw ⟨CPre.blind, va_recv B.1 w.1 hc he, fun U hU hW => ⟨rfl, Wd.pre B w hU hW⟩⟩ rfl hn hsize hst (lv_room hroom) hdg hf) w.2.2 (fun q _ h => Wd.free B w q h) (Wd.free B w) (fun r u t H1 locs1 ht hvm hw hB hz1 hk1 hS => ?_)
  subst hw
  exact kk H1 locs1 (Wd.post B w ht hB hS)
def CMK (l : Launch) (y : MethodName) (ws : List Cond) (rm : Room) (D : va_G) (cc : Nat → ClassId) (ak av : Nat → Nat) (As : List Value) (w0 : va_W) (P : Int32 → va_W → Prop) (mc ms : Nat) : Prop := ∀ sz : Nat, Met l y ws rm (va_Pc As (CPreK D cc ak av w0 sz)) (va_Qi P (fun w1 t => CPost D w0 w1 sz () t) (va_A w0 sz)) mc ms (va_A w0 sz)
theorem mkMK {ws ws' : List Cond} {rm : Room} {P : Int32 → va_W → Prop} (hy : plainName y.cls = true) (hw : ws = Cond.code y c0 nL (some .int) :: ws') (hown : y.cls = own) (hal : (lg_sl As).length ≤ nL)
    (walk : ∀ (p : Program) (e : Env) (s : State) (m : MethodId) (args : Array Value) (below : List Frame) (meth : Method) (c : Code) (A : Nat → Prop) (Q : State → Prop) (ls : Array Slot), CallFix p m c c0 nL s args ws own → Bd D cc ak av A s → aO s → RetM p l e rm s m args below meth c D A Q c0 P mc ms → lv_has ls nL (lv_args 0 As) → Wd D A s.heap s.heap [] w0 → W p l e rm s m args below meth c s.heap [] 0 0 Q (F0 m 0 ls [])) : CMK l y ws rm D cc ak av As w0 P mc ms := by
  intro sz
  refine Met.ofW (cc := c0) (maxL := nL) (ret := some .int) hy hw ?_
  intro p e s m args below meth c s₁ B hml hv
  obtain ⟨rfl, ⟨hsz, hP, hK, hD0, hN, hY⟩, hO⟩ := hv
  have hx := B.exec
  have hb := B.bytes
  have hr := B.returns
  have hts := atoms_spec (ws := ws) B.pre
  have hown2 : s.vm.findClass own = some m.cls := by rw [← hown]; exact findClass_of_methodNamed B.named
  have hlocks := B.notSynchronized
  subst hsz
  have hl := lv_entry As (n := nL) hal
  rw [lg_entry_eq]
  generalize (lg_sl As ++ List.replicate (nL - (lg_sl As).length) Slot.unset).toArray = ls at hl ⊢
  refine walk p e s m _ below meth c (va_A w0 s.heap.size) _ ls ⟨hx, hb, hml, hown2, hts⟩ ⟨hK, hN, fun q h => Or.inr h, hY⟩ hO ?_ hl ⟨hP, hD0.self, va_S.rf⟩
  intro pc H locs ls r w1 hdg hp w
  exact W.iret (v := r) hx hb hr (fun t ht hW => ⟨⟨r, w1, rfl, hp, by rw [ht]; exact w.1, w.2.1⟩, w.2.2.F ht⟩) w.2.2.2.2 hdg
theorem kVmK {P : Int32 → va_W → Prop} (F : CallFix p m c c0 nL s args Ts own) (B : Bd D cc ak av A s) (hO : aO s) (w : Wd D A s.heap H locs w0) (hM : CMK l y ws rm D cc ak av (.ref b :: As) w0 P mc ms) (cw : CallW R s args own C index y bytes maxL ret ws rm mc ms n) (q0 : Nat) {ci : Nat} {fs : List Value} {T : u_T} {N : Nat} (he : w0[q0]? = some (b, .inr (ci, fs))) (hc : vwCl[ci]? = some (C, T, N)) (hn : As.length = n) (hsize : ls.size = nL) (hst : st = As.reverse ++ .ref b :: rest) (hroom : (rest.map fun v => v.category).sum ≤ 8) (hdg : decode c0 pc = .ok (.invokevirtual index, 3)) (hf : cells + mc ≤ R.cells ∧ slots + ms ≤ R.slots)
    (kk : ∀ (r : Int32) (H1 : Heap) (locs1 : List Loc) (w1 : va_W), P r w1 → Wd D A s.heap H1 locs1 w1 → W p l e R s m args below meth c H1 locs1 (cells + mc) (slots + ms) Q (F0 m (pc + 3) ls (.int r :: rest))) : W p l e R s m args below meth c H locs cells slots Q (F0 m pc ls st) := by
  refine va_calli (va_runV (As := As) (rest := rest) F (hM H.size) cw ⟨CPreK.blind, va_recv B.1 w.1 hc he, fun U hU hW => ⟨rfl, Wd.pre B w hU hW, aO.moved hW.alike hO⟩⟩ rfl hn hsize hst (lv_room hroom) hdg hf) w.2.2 (fun q _ h => Wd.free B w q h) (Wd.free B w) (fun r u t H1 locs1 ht hvm hw hB hz1 hk1 hS => ?_)
  exact kk r H1 locs1 u hw (Wd.post B w ht hB hS)
end SALE
def fX10_saleNumbered (S : St) (g : Nat → Option Nat) (x1 : Int32) : Option (Option Nat) := ob (fX10_isBelow x1 (S.1 0)) fun r1 => if r1 = 0 then some none else if x1 < 0 ∨ 20 ≤ Int32.toNatClampNeg x1 then none else some (g (Int32.toNatClampNeg x1))
set_option maxRecDepth 20000 in
theorem inX10_saleNumbered_10 : ∀ w ∈ u_ws RX10 TX10 12, w ∈ wsX10_saleNumbered := by decide +kernel
set_option maxHeartbeats 4000000 in
set_option maxRecDepth 100000 in
theorem tX10_saleNumbered {l : Launch} {D : va_G} {cc : Nat → ClassId} {ak av : Nat → Nat} {ad : Nat → Nat} {g : Nat → Option Nat} {E : va_W} {S : St} {x1 : Int32} {r : Option Nat} (hf : fX10_saleNumbered S g x1 = some r) : CO l yX10_saleNumbered wsX10_saleNumbered ({ frames := 1, cells := 0, slots := 0, locals := 21 } : Room) D cc ak av [.ref (ad 0), .int x1] (WX cc ad g S ++ E) r := by
  intro sz
  refine Met.ofW (cc := cX10_saleNumbered) (maxL := 2) (ret := some (.object "LandReform$Sale")) (by decide) rfl ?_
  intro p e s m args below meth c s₁ B0 hml hv
  obtain ⟨rfl, hsz, hP, hK, hD0, hN, hY⟩ := hv
  have hx := B0.exec
  have hb := B0.bytes
  have hr := B0.returns
  have hts := atoms_spec (ws := wsX10_saleNumbered) B0.pre
  have hown : s.vm.findClass RX10 = some m.cls := findClass_of_methodNamed B0.named
  have hlocks := B0.notSynchronized
  subst hsz
  have hl := lv_entry [.ref (ad 0), .int x1] (n := 2) (Nat.le_of_ble_eq_true rfl)
  rw [lg_entry_eq]
  generalize (lg_sl [.ref (ad 0), .int x1] ++ List.replicate (2 - (lg_sl [.ref (ad 0), .int x1]).length) Slot.unset).toArray = ls at hl ⊢
  have hl : lv_has ls 2 [(0, .ref (ad 0)), (1, .int x1)] := hl
  obtain ⟨A, hAe⟩ : ∃ A, A = va_A (WX cc ad g S ++ E) s.heap.size := ⟨_, rfl⟩
  rw [← hAe]
  have F : CallFix p m c cX10_saleNumbered 2 s #[.ref (ad 0), .int x1] wsX10_saleNumbered RX10 := ⟨hx, hb, hml, hown, hts⟩
  have B : Bd D cc ak av A s := ⟨hK, hN, fun q h => by rw [hAe]; exact Or.inr h, by rw [hAe]; exact hY⟩
  have w : Wd D A s.heap s.heap [] (WX cc ad g S ++ E) := ⟨hP, by rw [hAe]; exact hD0.self, va_S.rf⟩
  have hQ : ∀ (pc : Nat) (H : Heap) (locs : List Loc) (ls : Array Slot) (v : Option Nat), v = r → decode cX10_saleNumbered pc = .ok (.areturn, 1) → Wd D A s.heap H locs (WX cc ad g S ++ E) → W p l e ({ frames := 1, cells := 0, slots := 0, locals := 21 } : Room) s m #[.ref (ad 0), .int x1] below meth c H locs 0 0 (MQ below (va_Qq (fun r' (_ : Unit) => r' = r) (CPost D (WX cc ad g S ++ E) (WX cc ad g S ++ E) s.heap.size) A) #[.ref (ad 0), .int x1] s 0 0 A) (F0 m pc ls [va_rf v]) := by
    intro pc H locs ls v hv hdg w
    exact W.aret hx hb hr (Or.inl ⟨_, rfl⟩) (va_rf_or v) (fun t ht hW => ⟨⟨v, (), rfl, hv, by rw [ht]; exact w.1, by rw [← hAe]; exact w.2.1⟩, w.2.2.F ht⟩) w.2.2.2.2 hdg
  unfold fX10_saleNumbered at hf
  refine lv_iload_n hx hb dX10_saleNumbered_0 rfl (lv_at hl 1 rfl) ?_
  refine lv_aload_n hx hb dX10_saleNumbered_1 rfl (lv_at hl 0 rfl) ?_
  refine kget (v := .int (S.1 0)) F B w inX10_saleNumbered_10 0 gX_0 rfl 9 (by decide) (hts (.fieldLink RX10 243 "LandReform" "saleCount" "I") (by decide +kernel)) rfl rfl dX10_saleNumbered_2 ?_
  obtain ⟨r1, e1, hf⟩ := ob_e hf
  refine kSi (As := [.int x1, .int (S.1 0)]) (rest := []) F B w (tX10_isBelow e1) (va_cwS 2 hts gX10_saleNumbered_X10_isBelow rfl rfl rfl (by decide +kernel) ⟨Nat.le_of_ble_eq_true rfl, Nat.le_of_ble_eq_true rfl⟩) rfl hl.1 rfl (Nat.le_of_ble_eq_true rfl) dX10_saleNumbered_5 ⟨Nat.le_of_ble_eq_true rfl, Nat.le_of_ble_eq_true rfl⟩ (fun H locs w => ?_)
  refine lv_if_eq (tgt := 20) hx hb dX10_saleNumbered_8 (by decide) (fun c1 => ?_) (fun c1 => ?_)
  · have hf := if_t hf c1
    refine lv_null hx hb dX10_saleNumbered_20 ?_
    exact hQ _ _ _ _ none (so_i hf) dX10_saleNumbered_21 w
  · have hf := if_f hf c1
    obtain ⟨g1, hf⟩ := if_g hf
    refine lv_aload_n hx hb dX10_saleNumbered_11 rfl (lv_at hl 0 rfl) ?_
    refine kget (v := .ref (ad 9)) F B w inX10_saleNumbered_10 0 gX_0 rfl 8 (by decide) (hts (.fieldLink RX10 73 "LandReform" "sales" "[LLandReform$Sale;") (by decide +kernel)) rfl rfl dX10_saleNumbered_12 ?_
    refine lv_iload_n hx hb dX10_saleNumbered_15 rfl (lv_at hl 1 rfl) ?_
    refine va_aldq hx hb B.1 w.1 9 5 gX_9 rfl g1 dX10_saleNumbered_16 ?_
    refine lv_goto (tgt := 21) hx hb dX10_saleNumbered_17 (by decide) ?_
    exact hQ _ _ _ _ _ (so_i hf) dX10_saleNumbered_21 w
def fX10_year (S : St) (k : Nat) (F : Nat → Nat → Int32) (x1 x2 : Int32) : Option (Int32 × (Nat → Nat → Int32)) := ob (fX10_isBelow x1 (S.1 0)) fun r1 => if r1 = 0 then some (-1, F) else if x1 < 0 ∨ 20 ≤ Int32.toNatClampNeg x1 then none else if k ≤ Int32.toNatClampNeg x1 then none else ob (fX7_pass (Fs F (Int32.toNatClampNeg x1)) x2) fun q => some (q.1, upF F (Int32.toNatClampNeg x1) q.2.1)
theorem sn_none {S : St} {g : Nat → Option Nat} {x1 r1 : Int32} (e1 : fX10_isBelow x1 (S.1 0) = some r1) (c1 : r1 = 0) : fX10_saleNumbered S g x1 = some none := by
  unfold fX10_saleNumbered; rw [e1, ob_s, if_pos c1]
theorem sn_some {S : St} {sa : Nat → Nat} {k : Nat} {x1 r1 : Int32} (e1 : fX10_isBelow x1 (S.1 0) = some r1) (c1 : ¬ r1 = 0) (g1 : ¬ (x1 < 0 ∨ 20 ≤ Int32.toNatClampNeg x1)) (g2 : ¬ k ≤ Int32.toNatClampNeg x1) : fX10_saleNumbered S (gS sa k) x1 = some (some (sa (Int32.toNatClampNeg x1))) := by
  unfold fX10_saleNumbered; rw [e1, ob_s, if_neg c1, if_neg g1, gS, if_pos (by omega)]
set_option maxRecDepth 20000 in
theorem inX10_sale_7 : ∀ w ∈ u_ws RX7 TX7 9, w ∈ wsX10_sale := by decide +kernel
set_option maxHeartbeats 4000000 in
set_option maxRecDepth 100000 in
theorem tX10_year {l : Launch} {D : va_G} {cc : Nat → ClassId} {ak av : Nat → Nat} {ad sa : Nat → Nat} {k : Nat} {E : va_W} {S : St} {F0_ F' : Nat → Nat → Int32} {x1 x2 r : Int32} (hf : fX10_year S k F0_ x1 x2 = some (r, F')) : CI l yX10_year wsX10_year ({ frames := 2, cells := 0, slots := 0, locals := 42 } : Room) D cc ak av [.ref (ad 0), .int x1, .int x2] (WX cc ad (gS sa k) S ++ (sP F0_ sa k ++ E)) (WX cc ad (gS sa k) S ++ (sP F' sa k ++ E)) r := by
  refine mkI (c0 := cX10_year) (nL := 4) (own := RX10) rfl rfl (by decide) rfl rfl (Nat.le_of_ble_eq_true rfl) ?_
  intro p e s m args below meth c A Q ls F B hQ hl w
  have hx := F.1
  have hb := F.2.1
  have hown := F.2.2.2.1
  have hts := F.2.2.2.2
  have hl : lv_has ls 4 [(0, .ref (ad 0)), (1, .int x1), (2, .int x2)] := hl
  unfold fX10_year at hf
  refine lv_aload_n hx hb dX10_year_0 rfl (lv_at hl 0 rfl) ?_
  refine lv_iload_n hx hb dX10_year_1 rfl (lv_at hl 1 rfl) ?_
  obtain ⟨r1, e1, hf⟩ := ob_e hf
  by_cases c1 : r1 = 0
  · have hf := if_t hf c1
    refine kVo (As := [.int x1]) (rest := []) F B w (tX10_saleNumbered (sn_none e1 c1)) (cwV 1 hts gX10_year_X10_saleNumbered rfl rfl rfl (by decide +kernel) ⟨Nat.le_of_ble_eq_true rfl, Nat.le_of_ble_eq_true rfl⟩) 0 gX_0 rfl rfl hl.1 rfl (Nat.le_of_ble_eq_true rfl) dX10_year_2 ⟨Nat.le_of_ble_eq_true rfl, Nat.le_of_ble_eq_true rfl⟩ (fun H locs w => ?_)
    refine lv_astore_nN (lv' := [(3, .null), (0, .ref (ad 0)), (1, .int x1), (2, .int x2)]) hx hb dX10_year_5 rfl hl (by decide) rfl (fun ls hl => ?_)
    refine lv_aload_nN hx hb dX10_year_6 rfl (lv_at hl 0 rfl) ?_
    refine lv_ifnonnullN hx hb dX10_year_7 ?_
    refine lv_iconst (v := (-1)) hx hb dX10_year_10 (by decide) ?_
    refine lv_goto (tgt := 19) hx hb dX10_year_11 (by decide) ?_
    cases hf
    exact hQ _ _ _ _ dX10_year_19 w
  · have hf := if_f hf c1
    obtain ⟨g1, hf⟩ := if_g hf
    obtain ⟨g2, hf⟩ := if_g hf
    obtain ⟨⟨r2, S2⟩, e2, hf⟩ := ob_e hf
    have hj : Int32.toNatClampNeg x1 < k := by omega
    refine kVo (As := [.int x1]) (rest := []) F B w (tX10_saleNumbered (sn_some e1 c1 g1 g2)) (cwV 1 hts gX10_year_X10_saleNumbered rfl rfl rfl (by decide +kernel) ⟨Nat.le_of_ble_eq_true rfl, Nat.le_of_ble_eq_true rfl⟩) 0 gX_0 rfl rfl hl.1 rfl (Nat.le_of_ble_eq_true rfl) dX10_year_2 ⟨Nat.le_of_ble_eq_true rfl, Nat.le_of_ble_eq_true rfl⟩ (fun H locs w => ?_)
    refine lv_astore_n (lv' := [(3, .ref (sa (Int32.toNatClampNeg x1))), (0, .ref (ad 0)), (1, .int x1), (2, .int x2)]) hx hb dX10_year_5 rfl hl (by decide) rfl (fun ls hl => ?_)
    refine lv_aload_n hx hb dX10_year_6 rfl (lv_at hl 0 rfl) ?_
    refine lv_ifnonnull (tgt := 14) hx hb dX10_year_7 (by decide) ?_
    refine lv_aload_n hx hb dX10_year_14 rfl (lv_at hl 0 rfl) ?_
    refine lv_iload_n hx hb dX10_year_15 rfl (lv_at hl 3 rfl) ?_
    rw [← WQ_self (ad := ad) hj] at w
    have hlen : 46 + Int32.toNatClampNeg x1 < (WX cc ad (gS sa k) S ++ (sP F0_ sa k ++ E)).length := (List.getElem?_eq_some_iff.mp (sP_at hj)).1
    refine kVi (As := [.int x2]) (rest := []) F B w (tX7_pass hlen e2) (cwV 1 hts gX10_year_X7_pass rfl rfl rfl (by decide +kernel) ⟨Nat.le_of_ble_eq_true rfl, Nat.le_of_ble_eq_true rfl⟩) (46 + Int32.toNatClampNeg x1) (gQ_0 hlen) rfl rfl hl.1 rfl (Nat.le_of_ble_eq_true rfl) dX10_year_16 ⟨Nat.le_of_ble_eq_true rfl, Nat.le_of_ble_eq_true rfl⟩ (fun H locs w => ?_)
    rw [WQ_up hj] at w
    cases hf
    exact hQ _ _ _ _ dX10_year_19 w
def fX10_sale (S : St) (k : Nat) (F : Nat → Nat → Int32) (x1 x2 : Int32) : Option Int32 := ob (fX10_isBelow x1 (S.1 0)) fun r1 => if r1 = 0 then some (-1) else if x1 < 0 ∨ 20 ≤ Int32.toNatClampNeg x1 then none else if k ≤ Int32.toNatClampNeg x1 then none else if x2 = 0 then some (F 0 (Int32.toNatClampNeg x1)) else if x2 = 1 then some (F 1 (Int32.toNatClampNeg x1)) else if x2 = 2 then some (F 2 (Int32.toNatClampNeg x1)) else if x2 = 3 then some (F 5 (Int32.toNatClampNeg x1)) else if x2 = 4 then some (F 6 (Int32.toNatClampNeg x1)) else if x2 = 5 then some (F 8 (Int32.toNatClampNeg x1)) else some (-1)
set_option maxHeartbeats 4000000 in
set_option maxRecDepth 100000 in
theorem tX10_sale {l : Launch} {D : va_G} {cc : Nat → ClassId} {ak av : Nat → Nat} {ad sa : Nat → Nat} {k : Nat} {E : va_W} {S : St} {F0_ : Nat → Nat → Int32} {x1 x2 r : Int32} (hf : fX10_sale S k F0_ x1 x2 = some r) : CI l yX10_sale wsX10_sale ({ frames := 2, cells := 0, slots := 0, locals := 42 } : Room) D cc ak av [.ref (ad 0), .int x1, .int x2] (WX cc ad (gS sa k) S ++ (sP F0_ sa k ++ E)) (WX cc ad (gS sa k) S ++ (sP F0_ sa k ++ E)) r := by
  refine mkI (c0 := cX10_sale) (nL := 4) (own := RX10) rfl rfl (by decide) rfl rfl (Nat.le_of_ble_eq_true rfl) ?_
  intro p e s m args below meth c A Q ls F B hQ hl w
  have hx := F.1
  have hb := F.2.1
  have hown := F.2.2.2.1
  have hts := F.2.2.2.2
  have hl : lv_has ls 4 [(0, .ref (ad 0)), (1, .int x1), (2, .int x2)] := hl
  unfold fX10_sale at hf
  refine lv_aload_n hx hb dX10_sale_0 rfl (lv_at hl 0 rfl) ?_
  refine lv_iload_n hx hb dX10_sale_1 rfl (lv_at hl 1 rfl) ?_
  obtain ⟨r1, e1, hf⟩ := ob_e hf
  by_cases c1 : r1 = 0
  · have hf := if_t hf c1
    refine kVo (As := [.int x1]) (rest := []) F B w (tX10_saleNumbered (sn_none e1 c1)) (cwV 1 hts gX10_sale_X10_saleNumbered rfl rfl rfl (by decide +kernel) ⟨Nat.le_of_ble_eq_true rfl, Nat.le_of_ble_eq_true rfl⟩) 0 gX_0 rfl rfl hl.1 rfl (Nat.le_of_ble_eq_true rfl) dX10_sale_2 ⟨Nat.le_of_ble_eq_true rfl, Nat.le_of_ble_eq_true rfl⟩ (fun H locs w => ?_)
    refine lv_astore_nN (lv' := [(3, .null), (0, .ref (ad 0)), (1, .int x1), (2, .int x2)]) hx hb dX10_sale_5 rfl hl (by decide) rfl (fun ls hl => ?_)
    refine lv_aload_nN hx hb dX10_sale_6 rfl (lv_at hl 0 rfl) ?_
    refine lv_ifnonnullN hx hb dX10_sale_7 ?_
    refine lv_iconst (v := (-1)) hx hb dX10_sale_10 (by decide) ?_
    cases hf
    exact hQ _ _ _ _ dX10_sale_11 w
  · have hf := if_f hf c1
    obtain ⟨g1, hf⟩ := if_g hf
    obtain ⟨g2, hf⟩ := if_g hf
    have hj : Int32.toNatClampNeg x1 < k := by omega
    refine kVo (As := [.int x1]) (rest := []) F B w (tX10_saleNumbered (sn_some e1 c1 g1 g2)) (cwV 1 hts gX10_sale_X10_saleNumbered rfl rfl rfl (by decide +kernel) ⟨Nat.le_of_ble_eq_true rfl, Nat.le_of_ble_eq_true rfl⟩) 0 gX_0 rfl rfl hl.1 rfl (Nat.le_of_ble_eq_true rfl) dX10_sale_2 ⟨Nat.le_of_ble_eq_true rfl, Nat.le_of_ble_eq_true rfl⟩ (fun H locs w => ?_)
    refine lv_astore_n (lv' := [(3, .ref (sa (Int32.toNatClampNeg x1))), (0, .ref (ad 0)), (1, .int x1), (2, .int x2)]) hx hb dX10_sale_5 rfl hl (by decide) rfl (fun ls hl => ?_)
    refine lv_aload_n hx hb dX10_sale_6 rfl (lv_at hl 0 rfl) ?_
    refine lv_ifnonnull (tgt := 12) hx hb dX10_sale_7 (by decide) ?_
    refine lv_iload_n hx hb dX10_sale_12 rfl (lv_at hl 3 rfl) ?_
    by_cases c2 : x2 = 0
    · have hf := if_t hf c2
      refine lv_tableIn (off := 39) (tgt := 52) hx hb dX10_sale_13 (by rw [c2]; decide) (by rw [c2]; decide) (by rw [c2]; rfl) (by decide) ?_
      refine lv_aload_n hx hb dX10_sale_52 rfl (lv_at hl 0 rfl) ?_
      refine kgetN (v := .int (F0_ 0 (Int32.toNatClampNeg x1))) F B w inX10_sale_7 (46 + Int32.toNatClampNeg x1) (sP_at hj) rfl 0 (by decide) (B.2.1.f 14 rfl) rfl rfl dX10_sale_53 ?_
      cases hf
      exact hQ _ _ _ _ dX10_sale_56 w
    · have hf := if_f hf c2
      by_cases c3 : x2 = 1
      · have hf := if_t hf c3
        refine lv_tableIn (off := 44) (tgt := 57) hx hb dX10_sale_13 (by rw [c3]; decide) (by rw [c3]; decide) (by rw [c3]; rfl) (by decide) ?_
        refine lv_aload_n hx hb dX10_sale_57 rfl (lv_at hl 0 rfl) ?_
        refine kgetN (v := .int (F0_ 1 (Int32.toNatClampNeg x1))) F B w inX10_sale_7 (46 + Int32.toNatClampNeg x1) (sP_at hj) rfl 1 (by decide) (B.2.1.f 15 rfl) rfl rfl dX10_sale_58 ?_
        cases hf
        exact hQ _ _ _ _ dX10_sale_61 w
      · have hf := if_f hf c3
        by_cases c4 : x2 = 2
        · have hf := if_t hf c4
          refine lv_tableIn (off := 49) (tgt := 62) hx hb dX10_sale_13 (by rw [c4]; decide) (by rw [c4]; decide) (by rw [c4]; rfl) (by decide) ?_
          refine lv_aload_n hx hb dX10_sale_62 rfl (lv_at hl 0 rfl) ?_
          refine kgetN (v := .int (F0_ 2 (Int32.toNatClampNeg x1))) F B w inX10_sale_7 (46 + Int32.toNatClampNeg x1) (sP_at hj) rfl 2 (by decide) (B.2.1.f 16 rfl) rfl rfl dX10_sale_63 ?_
          cases hf
          exact hQ _ _ _ _ dX10_sale_66 w
        · have hf := if_f hf c4
          by_cases c5 : x2 = 3
          · have hf := if_t hf c5
            refine lv_tableIn (off := 54) (tgt := 67) hx hb dX10_sale_13 (by rw [c5]; decide) (by rw [c5]; decide) (by rw [c5]; rfl) (by decide) ?_
            refine lv_aload_n hx hb dX10_sale_67 rfl (lv_at hl 0 rfl) ?_
            refine kgetN (v := .int (F0_ 5 (Int32.toNatClampNeg x1))) F B w inX10_sale_7 (46 + Int32.toNatClampNeg x1) (sP_at hj) rfl 5 (by decide) (B.2.1.f 17 rfl) rfl rfl dX10_sale_68 ?_
            cases hf
            exact hQ _ _ _ _ dX10_sale_71 w
          · have hf := if_f hf c5
            by_cases c6 : x2 = 4
            · have hf := if_t hf c6
              refine lv_tableIn (off := 59) (tgt := 72) hx hb dX10_sale_13 (by rw [c6]; decide) (by rw [c6]; decide) (by rw [c6]; rfl) (by decide) ?_
              refine lv_aload_n hx hb dX10_sale_72 rfl (lv_at hl 0 rfl) ?_
              refine kgetN (v := .int (F0_ 6 (Int32.toNatClampNeg x1))) F B w inX10_sale_7 (46 + Int32.toNatClampNeg x1) (sP_at hj) rfl 6 (by decide) (B.2.1.f 18 rfl) rfl rfl dX10_sale_73 ?_
              cases hf
              exact hQ _ _ _ _ dX10_sale_76 w
            · have hf := if_f hf c6
              by_cases c7 : x2 = 5
              · have hf := if_t hf c7
                refine lv_tableIn (off := 64) (tgt := 77) hx hb dX10_sale_13 (by rw [c7]; decide) (by rw [c7]; decide) (by rw [c7]; rfl) (by decide) ?_
                refine lv_aload_n hx hb dX10_sale_77 rfl (lv_at hl 0 rfl) ?_
                refine kgetN (v := .int (F0_ 8 (Int32.toNatClampNeg x1))) F B w inX10_sale_7 (46 + Int32.toNatClampNeg x1) (sP_at hj) rfl 8 (by decide) (B.2.1.f 19 rfl) rfl rfl dX10_sale_78 ?_
                cases hf
                exact hQ _ _ _ _ dX10_sale_81 w
              · have hf := if_f hf c7
                have hsw : Int32.toInt x2 < 0 ∨ 5 < Int32.toInt x2 := by
                  have h0 := lv_neT c2 (a := 0) (by decide)
                  have h1 := lv_neT c3 (a := 1) (by decide)
                  have h2 := lv_neT c4 (a := 2) (by decide)
                  have h3 := lv_neT c5 (a := 3) (by decide)
                  have h4 := lv_neT c6 (a := 4) (by decide)
                  have h5 := lv_neT c7 (a := 5) (by decide)
                  omega
                refine lv_tableOut (tgt := 82) hx hb dX10_sale_13 hsw (by decide) ?_
                refine lv_iconst (v := (-1)) hx hb dX10_sale_82 (by decide) ?_
                cases hf
                exact hQ _ _ _ _ dX10_sale_83 w
def fX10_sell (S : St) (k : Nat) (F : Nat → Nat → Int32) (x1 x2 : Int32) : Option (Int32 × St × Nat × (Nat → Nat → Int32)) := ob (fX2_has S x1) fun r1 => if r1 = 0 then some (-1, S, k, F) else ob (fX4_has S x2) fun r2 => if r2 = 0 then some (-1, S, k, F) else if (S.1 0) < 20 then ob (fX2_standardOf S x1) fun r3 => if (S.1 0) < 0 ∨ 20 ≤ Int32.toNatClampNeg (S.1 0) then none else if ¬ Int32.toNatClampNeg (S.1 0) = k then none else ob (fX7_init zSt x1 x2 ((S.1 25) * r3) (S.1 26)) fun Q => some ((((sS S 0 ((S.1 0) + 1)).1 0) - 1), sS S 0 ((S.1 0) + 1), k + 1, upF F k Q.1) else some (-1, S, k, F)
set_option maxRecDepth 20000 in
theorem inX10_sell_10 : ∀ w ∈ u_ws RX10 TX10 12, w ∈ wsX10_sell := by decide +kernel
set_option maxRecDepth 20000 in
theorem inX10_sell_3 : ∀ w ∈ u_ws RX3 TX3 9, w ∈ wsX10_sell := by decide +kernel
set_option maxRecDepth 20000 in
theorem inX10_sell_7 : ∀ w ∈ u_ws RX7 TX7 9, w ∈ wsX10_sell := by decide +kernel
theorem app_at {α : Type} {a : List α} {x : α} {b : List α} : (a ++ x :: b)[a.length]? = some x := by simp
set_option maxHeartbeats 4000000 in
set_option maxRecDepth 100000 in
theorem tX10_sell {l : Launch} {D : va_G} {cc : Nat → ClassId} {ak av : Nat → Nat} {ad sa : Nat → Nat} {k k' : Nat} {E : va_W} {S S' : St} {F0_ F' : Nat → Nat → Int32} {x1 x2 r : Int32} (hf : fX10_sell S k F0_ x1 x2 = some (r, S', k', F')) : CMK l yX10_sell wsX10_sell ({ frames := 4, cells := 1, slots := 9, locals := 85 } : Room) D cc ak av [.ref (ad 0), .int x1, .int x2] (WX cc ad (gS sa k) S ++ (sP F0_ sa k ++ E)) (fun r2 w1 => r2 = r ∧ ∃ sa' : Nat → Nat, w1 = WX cc ad (gS sa' k') S' ++ (sP F' sa' k' ++ E)) 1 9 := by
  refine mkMK (c0 := cX10_sell) (nL := 4) (own := RX10) (by decide) rfl rfl (Nat.le_of_ble_eq_true rfl) ?_
  intro p e s m args below meth c A Q ls F B hO hQ hl w
  have hx := F.1
  have hb := F.2.1
  have hown := F.2.2.2.1
  have hts := F.2.2.2.2
  have hl : lv_has ls 4 [(0, .ref (ad 0)), (1, .int x1), (2, .int x2)] := hl
  unfold fX10_sell at hf
  have hno : ∀ (H : Heap) (locs : List Loc), some ((-1 : Int32), S, k, F0_) = some (r, S', k', F') → Wd D A s.heap H locs (WX cc ad (gS sa k) S ++ (sP F0_ sa k ++ E)) → W p l e ({ frames := 4, cells := 1, slots := 9, locals := 85 } : Room) s m args below meth c H locs 0 0 Q (F0 m 31 ls []) := by
    intro H locs hf w
    cases hf
    refine lv_iconst (v := (-1)) hx hb dX10_sell_31 (by decide) ?_
    refine W.widen (k := 1) (n := 9) (by omega) (by omega) ?_
    exact hQ _ _ _ _ _ _ dX10_sell_32 ⟨rfl, sa, rfl⟩ w
  refine lv_aload_n hx hb dX10_sell_0 rfl (lv_at hl 0 rfl) ?_
  refine kget (v := .ref (ad 2)) F B w inX10_sell_10 0 gX_0 rfl 1 (by decide) (hts (.fieldLink RX10 19 "LandReform" "land" "LLandReform$Land;") (by decide +kernel)) rfl rfl dX10_sell_1 ?_
  refine lv_iload_n hx hb dX10_sell_4 rfl (lv_at hl 1 rfl) ?_
  obtain ⟨r1, e1, hf⟩ := ob_e hf
  refine kVi (As := [.int x1]) (rest := []) F B w (tX2_has e1) (cwV 1 hts gX10_sell_X2_has rfl rfl rfl (by decide +kernel) ⟨Nat.le_of_ble_eq_true rfl, Nat.le_of_ble_eq_true rfl⟩) 2 gX_2 rfl rfl hl.1 rfl (Nat.le_of_ble_eq_true rfl) dX10_sell_5 ⟨Nat.le_of_ble_eq_true rfl, Nat.le_of_ble_eq_true rfl⟩ (fun H locs w => ?_)
  refine lv_if_eq (tgt := 31) hx hb dX10_sell_8 (by decide) (fun c1 => hno _ _ (if_t hf c1) w) (fun c1 => ?_)
  have hf := if_f hf c1
  refine lv_aload_n hx hb dX10_sell_11 rfl (lv_at hl 0 rfl) ?_
  refine kget (v := .ref (ad 1)) F B w inX10_sell_10 0 gX_0 rfl 0 (by decide) (hts (.fieldLink RX10 10 "LandReform" "people" "LLandReform$People;") (by decide +kernel)) rfl rfl dX10_sell_12 ?_
  refine lv_iload_n hx hb dX10_sell_15 rfl (lv_at hl 2 rfl) ?_
  obtain ⟨r2, e2, hf⟩ := ob_e hf
  refine kVi (As := [.int x2]) (rest := []) F B w (tX4_has e2) (cwV 1 hts gX10_sell_X4_has rfl rfl rfl (by decide +kernel) ⟨Nat.le_of_ble_eq_true rfl, Nat.le_of_ble_eq_true rfl⟩) 1 gX_1 rfl rfl hl.1 rfl (Nat.le_of_ble_eq_true rfl) dX10_sell_16 ⟨Nat.le_of_ble_eq_true rfl, Nat.le_of_ble_eq_true rfl⟩ (fun H locs w => ?_)
  refine lv_if_eq (tgt := 31) hx hb dX10_sell_19 (by decide) (fun c1 => hno _ _ (if_t hf c1) w) (fun c1 => ?_)
  have hf := if_f hf c1
  refine lv_aload_n hx hb dX10_sell_22 rfl (lv_at hl 0 rfl) ?_
  refine kget (v := .int (S.1 0)) F B w inX10_sell_10 0 gX_0 rfl 9 (by decide) (hts (.fieldLink RX10 243 "LandReform" "saleCount" "I") (by decide +kernel)) rfl rfl dX10_sell_23 ?_
  refine lv_bipush (v := 20) hx hb dX10_sell_26 (by decide) ?_
  refine lv_icmp_lt (tgt := 33) hx hb dX10_sell_28 (by decide) (fun c3 => ?_) (fun c3 => hno _ _ (if_f hf c3) w)
  have hf := if_t hf c3
  refine lv_aload_n hx hb dX10_sell_33 rfl (lv_at hl 0 rfl) ?_
  refine kget (v := .ref (ad 10)) F B w inX10_sell_10 0 gX_0 rfl 10 (by decide) (hts (.fieldLink RX10 80 "LandReform" "law" "LLandReform$Law;") (by decide +kernel)) rfl rfl dX10_sell_34 ?_
  refine kgetN (v := .int (S.1 25)) F B w inX10_sell_3 10 gX_10 rfl 5 (by decide) (B.2.1.f 12 rfl) rfl rfl dX10_sell_37 ?_
  refine lv_aload_n hx hb dX10_sell_40 rfl (lv_at hl 0 rfl) ?_
  refine kget (v := .ref (ad 2)) F B w inX10_sell_10 0 gX_0 rfl 1 (by decide) (hts (.fieldLink RX10 19 "LandReform" "land" "LLandReform$Land;") (by decide +kernel)) rfl rfl dX10_sell_41 ?_
  refine lv_iload_n hx hb dX10_sell_44 rfl (lv_at hl 1 rfl) ?_
  refine lv_aload_n hx hb dX10_sell_45 rfl (lv_at hl 0 rfl) ?_
  refine kget (v := .ref (ad 10)) F B w inX10_sell_10 0 gX_0 rfl 10 (by decide) (hts (.fieldLink RX10 80 "LandReform" "law" "LLandReform$Law;") (by decide +kernel)) rfl rfl dX10_sell_46 ?_
  obtain ⟨r3, e3, hf⟩ := ob_e hf
  refine kVi (As := [.int x1, .ref (ad 10)]) (rest := [.int (S.1 25)]) F B w (tX2_standardOf e3) (cwV 2 hts gX10_sell_X2_standardOf rfl rfl rfl (by decide +kernel) ⟨Nat.le_of_ble_eq_true rfl, Nat.le_of_ble_eq_true rfl⟩) 2 gX_2 rfl rfl hl.1 rfl (Nat.le_of_ble_eq_true rfl) dX10_sell_49 ⟨Nat.le_of_ble_eq_true rfl, Nat.le_of_ble_eq_true rfl⟩ (fun H locs w => ?_)
  refine lv_imul hx hb dX10_sell_52 ?_
  refine lv_istore_n (lv' := [(3, .int ((S.1 25) * r3)), (0, .ref (ad 0)), (1, .int x1), (2, .int x2)]) hx hb dX10_sell_53 rfl hl (by decide) rfl (fun ls hl => ?_)
  obtain ⟨g1, hf⟩ := if_g hf
  obtain ⟨g2, hf⟩ := if_g hf
  obtain ⟨Qs, e4, hf⟩ := ob_e hf
  have hk : Int32.toNatClampNeg (S.1 0) = k := Classical.not_not.mp g2
  refine lv_aload_n hx hb dX10_sell_54 rfl (lv_at hl 1 rfl) ?_
  refine kget (v := .ref (ad 9)) F B w inX10_sell_10 0 gX_0 rfl 8 (by decide) (hts (.fieldLink RX10 73 "LandReform" "sales" "[LLandReform$Sale;") (by decide +kernel)) rfl rfl dX10_sell_55 ?_
  refine lv_aload_n hx hb dX10_sell_58 rfl (lv_at hl 1 rfl) ?_
  refine kget (v := .int (S.1 0)) F B w inX10_sell_10 0 gX_0 rfl 9 (by decide) (hts (.fieldLink RX10 243 "LandReform" "saleCount" "I") (by decide +kernel)) rfl rfl dX10_sell_59 ?_
  refine knew (a := WX cc ad (gS sa k) S ++ sP F0_ sa k) (E := E) (ci := 7) (C := RX7) (T := TX7) (N := 9) (fs := [.int 0, .int 0, .int 0, .int 0, .int 0, .int 0, .int 0, .int 0, .int 0]) F B (by rw [List.append_assoc]; exact w) inX10_sell_7 tyX7 tyX7_ok (hts (.classLink RX10 71 RX7) (by decide +kernel)) (hts (.instantiable RX7 9) (by decide +kernel)) (hts (.initialized RX7) (by decide +kernel)) rfl (fun j hj => by rcases (show j = 0 ∨ j = 1 ∨ j = 2 ∨ j = 3 ∨ j = 4 ∨ j = 5 ∨ j = 6 ∨ j = 7 ∨ j = 8 by omega) with rfl | rfl | rfl | rfl | rfl | rfl | rfl | rfl | rfl <;> rfl) (Nat.le_of_ble_eq_true rfl) (Nat.le_of_ble_eq_true rfl) dX10_sell_62 (fun q H w => ?_)
  rw [List.append_assoc, List.append_assoc] at w
  have wq : (WX cc ad (gS sa k) S ++ (sP F0_ sa k ++ ([(q, .inr (7, [.int 0, .int 0, .int 0, .int 0, .int 0, .int 0, .int 0, .int 0, .int 0]))] ++ E)))[46 + k]? = some (q, .inr (7, [.int 0, .int 0, .int 0, .int 0, .int 0, .int 0, .int 0, .int 0, .int 0])) := by
    rw [List.getElem?_append_right (by rw [WX_len]; omega), WX_len, Nat.add_sub_cancel_left, List.getElem?_append_right (by rw [sP_len]; omega), sP_len, Nat.sub_self]
    rfl
  have hlen := (List.getElem?_eq_some_iff.mp wq).1
  have e5 : WQ (WX cc ad (gS sa k) S ++ (sP F0_ sa k ++ ([(q, .inr (7, [.int 0, .int 0, .int 0, .int 0, .int 0, .int 0, .int 0, .int 0, .int 0]))] ++ E))) (46 + k) (fun _ => q) zSt = WX cc ad (gS sa k) S ++ (sP F0_ sa k ++ ([(q, .inr (7, [.int 0, .int 0, .int 0, .int 0, .int 0, .int 0, .int 0, .int 0, .int 0]))] ++ E)) := set_self wq
  rw [← e5] at w
  refine lv_dup hx hb dX10_sell_65 rfl ?_
  refine lv_iload_n hx hb dX10_sell_66 rfl (lv_at hl 2 rfl) ?_
  refine lv_iload_n hx hb dX10_sell_67 rfl (lv_at hl 3 rfl) ?_
  refine lv_iload_n hx hb dX10_sell_68 rfl (lv_at hl 0 rfl) ?_
  refine lv_aload_n hx hb dX10_sell_69 rfl (lv_at hl 1 rfl) ?_
  rw [e5] at w
  refine kget (v := .ref (ad 10)) F B w inX10_sell_10 0 gX_0 rfl 10 (by decide) (hts (.fieldLink RX10 80 "LandReform" "law" "LLandReform$Law;") (by decide +kernel)) rfl rfl dX10_sell_70 ?_
  refine kgetN (v := .int (S.1 26)) F B w inX10_sell_3 10 gX_10 rfl 6 (by decide) (B.2.1.f 13 rfl) rfl rfl dX10_sell_73 ?_
  rw [← e5] at w
  refine kIC (As := [.int x1, .int x2, .int ((S.1 25) * r3), .int (S.1 26)]) (rest := [.ref q, .int (S.1 0), .ref (ad 9)]) F B hO w (tX7_init (ad := fun _ => q) hlen e4) (cwI 4 hts gX10_sell_X7_init rfl rfl rfl (hts (.initialized RX7) (by decide +kernel)) (hts (.methodLink RX10 252 yX7_init) (by decide +kernel)) (hts (.instanceMethod yX7_init) (by decide +kernel)) rfl (by decide +kernel) ⟨Nat.le_of_ble_eq_true rfl, Nat.le_of_ble_eq_true rfl⟩) rfl hl.1 rfl (Nat.le_of_ble_eq_true rfl) dX10_sell_76 ⟨Nat.le_of_ble_eq_true rfl, Nat.le_of_ble_eq_true rfl⟩ (fun H locs w1 hw1 w => ?_)
  subst hw1
  have e6 : WQ (WX cc ad (gS sa k) S ++ (sP F0_ sa k ++ ([(q, .inr (7, [.int 0, .int 0, .int 0, .int 0, .int 0, .int 0, .int 0, .int 0, .int 0]))] ++ E))) (46 + k) (fun _ => q) Qs = WX cc ad (gS sa k) S ++ (sP F0_ sa k ++ ([(q, .inr (7, [.int (Qs.1 0), .int (Qs.1 1), .int (Qs.1 2), .int (Qs.1 3), .int (Qs.1 4), .int (Qs.1 5), .int (Qs.1 6), .int (Qs.1 7), .int (Qs.1 8)]))] ++ E)) := by
    unfold WQ
    rw [List.set_append_right _ _ (by rw [WX_len]; omega), WX_len, Nat.add_sub_cancel_left, List.set_append_right _ _ (by rw [sP_len]; omega), sP_len, Nat.sub_self]
    rfl
  rw [e6] at w
  have wq2 : (WX cc ad (gS sa k) S ++ (sP F0_ sa k ++ ([(q, .inr (7, [.int (Qs.1 0), .int (Qs.1 1), .int (Qs.1 2), .int (Qs.1 3), .int (Qs.1 4), .int (Qs.1 5), .int (Qs.1 6), .int (Qs.1 7), .int (Qs.1 8)]))] ++ E)))[46 + k]? = some (q, .inr (7, [.int (Qs.1 0), .int (Qs.1 1), .int (Qs.1 2), .int (Qs.1 3), .int (Qs.1 4), .int (Qs.1 5), .int (Qs.1 6), .int (Qs.1 7), .int (Qs.1 8)])) := by
    rw [List.getElem?_append_right (by rw [WX_len]; omega), WX_len, Nat.add_sub_cancel_left, List.getElem?_append_right (by rw [sP_len]; omega), sP_len, Nat.sub_self]
    rfl
  refine va_astq (r := (RX7, TX7, 9)) hx hb B.1 w.1 w.2.1 w.2.2 9 5 (46 + k) 7 gX_9 rfl wq2 rfl g1 dX10_sell_79 (fun H locs hP hD hS => ?_)
  have w : Wd D A s.heap H locs (WX cc ad (va_up (gS sa k) (Int32.toNatClampNeg (S.1 0)) (some q)) S ++ (sP F0_ sa k ++ ([(q, .inr (7, [.int (Qs.1 0), .int (Qs.1 1), .int (Qs.1 2), .int (Qs.1 3), .int (Qs.1 4), .int (Qs.1 5), .int (Qs.1 6), .int (Qs.1 7), .int (Qs.1 8)]))] ++ E))) := ⟨hP, hD, hS⟩
  rw [hk, gS_add, ← List.append_assoc (sP F0_ sa k), sP_add] at w
  refine lv_aload_n hx hb dX10_sell_80 rfl (lv_at hl 1 rfl) ?_
  refine lv_dup hx hb dX10_sell_81 rfl ?_
  refine kget (v := .int (S.1 0)) F B w inX10_sell_10 0 gX_0 rfl 9 (by decide) (hts (.fieldLink RX10 243 "LandReform" "saleCount" "I") (by decide +kernel)) rfl rfl dX10_sell_82 ?_
  refine lv_iconst (v := 1) hx hb dX10_sell_85 (by decide) ?_
  refine lv_iadd hx hb dX10_sell_86 ?_
  refine kput (ty := .int) F B w inX10_sell_10 tyX10 tyX10_ok nmX10 0 gX_0 rfl 9 (by decide) (hts (.fieldLink RX10 243 "LandReform" "saleCount" "I") (by decide +kernel)) rfl rfl (by decide +kernel) rfl rfl (Nat.le_of_ble_eq_true rfl) pX_0 dX10_sell_87 (fun H locs w => ?_)
  refine lv_aload_n hx hb dX10_sell_90 rfl (lv_at hl 1 rfl) ?_
  refine kget (v := .int ((sS S 0 ((S.1 0) + 1)).1 0)) F B w inX10_sell_10 0 gX_0 rfl 9 (by decide) (hts (.fieldLink RX10 243 "LandReform" "saleCount" "I") (by decide +kernel)) rfl rfl dX10_sell_91 ?_
  refine lv_iconst (v := 1) hx hb dX10_sell_94 (by decide) ?_
  refine lv_isub hx hb dX10_sell_95 ?_
  cases hf
  exact hQ _ _ _ _ _ _ dX10_sell_96 ⟨rfl, va_up sa k q, rfl⟩ w
