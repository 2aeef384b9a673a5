/-! base: one kind of state, one kind of world, one form of contract -/
abbrev St : Type := (Nat → Int32) × (Nat → Nat → Int32) × (Nat → Int64)
def sS (S : St) (k : Nat) (v : Int32) : St := (upd S.1 k v, S.2)
def sR (S : St) (a : Nat) (f : Nat → Int32) : St := (S.1, va_up S.2.1 a f, S.2.2)
def sA (S : St) (a i : Nat) (v : Int32) : St := sR S a (upd (S.2.1 a) i v)
def sJ (S : St) (i : Nat) (v : Int64) : St := (S.1, S.2.1, vp_updL S.2.2 i v)
def ob {α β : Type} (x : Option α) (f : α → Option β) : Option β := match x with | none => none | some a => f a
theorem ob_e {α β : Type} {x : Option α} {f : α → Option β} {r : β} (h : ob x f = some r) : ∃ a, x = some a ∧ f a = some r := by
  cases x with
  | none => cases h
  | some a => exact ⟨a, rfl, h⟩
theorem ob_s {α β : Type} {a : α} {f : α → Option β} : ob (some a) f = f a := rfl
def lt_ {α β : Type} (x : α) (f : α → Option β) : Option β := f x
theorem lt_e {α β : Type} {x v : α} {f : α → Option β} {r : β} (h : lt_ x f = some r) (e : v = x) : f v = some r := by subst e; exact h
theorem if_t {α : Type} {c : Prop} [Decidable c] {x y : Option α} {r : α} (h : (if c then x else y) = some r) (hc : c) : x = some r := by rw [if_pos hc] at h; exact h
theorem if_f {α : Type} {c : Prop} [Decidable c] {x y : Option α} {r : α} (h : (if c then x else y) = some r) (hc : ¬ c) : y = some r := by rw [if_neg hc] at h; exact h
theorem if_g {α : Type} {c : Prop} [Decidable c] {y : Option α} {r : α} (h : (if c then none else y) = some r) : ¬ c ∧ y = some r := by
  by_cases hc : c
  · rw [if_pos hc] at h; cases h
  · rw [if_neg hc] at h; exact ⟨hc, h⟩
theorem nz {v : Int32} (h : ¬ ¬ (v = 0 ∨ v = 1)) : narrow .boolean (.int v) = .int v := by
  rcases Classical.not_not.mp h with h | h <;> rw [h] <;> rfl
theorem so_i {α : Type} {a b : α} (h : some a = some b) : a = b := Option.some.inj h
abbrev tyl (cc : Nat → ClassId) : List (ClassId × FieldType) := [(cc 0, .int), (cc 1, .byte), (cc 2, .boolean), (cc 3, .long), (cc 4, .array .int), (cc 5, .object "LandReform$Sale")]
def nF : List (String × Nat × String × String × String × String) := [("LandReform", 105, "LandReform$Land", "today", "I", "LandReform"), ("LandReform", 129, "LandReform$Tape", "length", "I", "LandReform"), ("LandReform", 136, "LandReform$Law", "statements", "I", "LandReform"), ("LandReform", 139, "LandReform$Reader", "fault", "I", "LandReform"), ("LandReform", 162, "LandReform$Law", "shares", "I", "LandReform"), ("LandReform", 182, "LandReform$Holding", "members", "I", "LandReform"), ("LandReform", 185, "LandReform$Holding", "standards", "I", "LandReform"), ("LandReform", 188, "LandReform$Holding", "allowed", "I", "LandReform"), ("LandReform", 194, "LandReform$Holding", "size", "I", "LandReform"), ("LandReform", 201, "LandReform$Holding", "keptArea", "I", "LandReform"), ("LandReform", 230, "LandReform$Rings", "closed", "I", "LandReform"), ("LandReform", 239, "LandReform$Land", "size", "I", "LandReform"), ("LandReform", 246, "LandReform$Law", "price", "I", "LandReform"), ("LandReform", 249, "LandReform$Law", "years", "I", "LandReform"), ("LandReform", 263, "LandReform$Sale", "soldField", "I", "LandReform"), ("LandReform", 266, "LandReform$Sale", "buyer", "I", "LandReform"), ("LandReform", 269, "LandReform$Sale", "owed", "I", "LandReform"), ("LandReform", 272, "LandReform$Sale", "paid", "I", "LandReform"), ("LandReform", 275, "LandReform$Sale", "partsLeft", "I", "LandReform"), ("LandReform", 278, "LandReform$Sale", "yearsPutOff", "I", "LandReform"), ("LandReform", 281, "LandReform$People", "size", "I", "LandReform"), ("LandReform", 282, "LandReform$Land", "transfers", "I", "LandReform"), ("LandReform", 285, "LandReform$People", "pairs", "I", "LandReform"), ("LandReform", 32, "LandReform$Tape", "bytes", "[B", "LandReform"), ("LandReform$Holding", 28, "LandReform$Land", "size", "I", "LandReform"), ("LandReform$Holding", 38, "LandReform$Land", "firstOwners", "[I", "LandReform"), ("LandReform$Holding", 47, "LandReform$Land", "transfers", "I", "LandReform"), ("LandReform$Holding", 50, "LandReform$Land", "movedFields", "[I", "LandReform"), ("LandReform$Holding", 53, "LandReform$Land", "receivers", "[I", "LandReform"), ("LandReform$Holding", 56, "LandReform$Land", "days", "[I", "LandReform"), ("LandReform$Holding", 59, "LandReform$Law", "lastFreeDay", "I", "LandReform"), ("LandReform$Holding", 77, "LandReform$Land", "crops", "[I", "LandReform")]
def nM : List (String × Nat × MethodName × String) := [("LandReform", 18, ⟨"LandReform$Land", "<init>", "()V"⟩, "LandReform"), ("LandReform", 25, ⟨"LandReform$Tape", "<init>", "()V"⟩, "LandReform"), ("LandReform", 45, ⟨"LandReform$Holding", "<init>", "()V"⟩, "LandReform"), ("LandReform", 52, ⟨"LandReform$Tenancies", "<init>", "()V"⟩, "LandReform"), ("LandReform", 59, ⟨"LandReform$Giving", "<init>", "()V"⟩, "LandReform"), ("LandReform", 66, ⟨"LandReform$Rings", "<init>", "()V"⟩, "LandReform"), ("LandReform", 9, ⟨"LandReform$People", "<init>", "()V"⟩, "LandReform"), ("LandReform$Giving", 56, ⟨"LandReform", "isBelow", "(II)Z"⟩, "LandReform"), ("LandReform$Holding", 34, ⟨"LandReform", "isBelow", "(II)Z"⟩, "LandReform"), ("LandReform$Land", 43, ⟨"LandReform", "isBelow", "(II)Z"⟩, "LandReform"), ("LandReform$Law", 57, ⟨"LandReform", "isBelow", "(II)Z"⟩, "LandReform"), ("LandReform$People", 26, ⟨"LandReform", "isBelow", "(II)Z"⟩, "LandReform"), ("LandReform$Reader", 31, ⟨"LandReform$Law", "clear", "()V"⟩, "LandReform"), ("LandReform$Reader", 61, ⟨"LandReform$Law", "rule", "(III)V"⟩, "LandReform"), ("LandReform$Rings", 72, ⟨"LandReform", "isBelow", "(II)Z"⟩, "LandReform")]
def nN (U : State) : Prop := (∀ q ∈ nF, va_Nw (.fieldLinkNest q.1 q.2.1 q.2.2.1 q.2.2.2.1 q.2.2.2.2.1 q.2.2.2.2.2) U) ∧ ∀ q ∈ nM, va_Nw (.methodLinkNest q.1 q.2.1 q.2.2.1 q.2.2.2) U
theorem nN.warm {s U : State} (hW : s.WarmedH U.vm) (h : nN s) : nN U := ⟨fun q hq => va_Nw.warmF hW (h.1 q hq), fun q hq => va_Nw.warmM hW (h.2 q hq)⟩
theorem nN.same {u U : State} (hv : u.vm = U.vm) (h : nN u) : nN U := ⟨fun q hq => va_Nw.same rfl hv (h.1 q hq), fun q hq => va_Nw.same rfl hv (h.2 q hq)⟩
theorem nN.f {s : State} {args : Array Value} (h : nN s) (i : Nat) {a : String} {j : Nat} {b n d g : String} (e : nF[i]? = some (a, j, b, n, d, g)) : (Cond.fieldLinkNest a j b n d g).before args s = true := va_Nw.use rfl (h.1 _ (List.mem_of_getElem? e))
theorem nN.m {s : State} (h : nN s) (i : Nat) {a : String} {j : Nat} {x : MethodName} {g : String} (e : nM[i]? = some (a, j, x, g)) : va_Nw (.methodLinkNest a j x g) s := h.2 _ (List.mem_of_getElem? e)
def lenT : List Nat := [2, 1, 7, 6, 3, 6, 4, 5, 5, 6]
def bytT : List (List Int32) := [[105, 115], [59], [99, 101, 105, 108, 105, 110, 103], [102, 97, 109, 105, 108, 121], [100, 97, 121], [101, 120, 101, 109, 112, 116], [115, 111, 105, 108], [112, 114, 105, 99, 101], [121, 101, 97, 114, 115], [115, 104, 97, 114, 101, 115]]
def idxT : List (Nat × String) := [(53, "is"), (59, ";"), (75, "ceiling"), (77, "family"), (79, "day"), (81, "exempt"), (83, "soil"), (85, "price"), (87, "years"), (89, "shares")]
def yT (ak av : Nat → Nat) (A : Nat → Prop) (U : State) (H : Heap) : Prop := vk_S 10 lenT bytT ak av A U H ∧ (∀ (i k : Nat) (t : String), idxT[i]? = some (k, t) → vk_R "LandReform$Reader" k t (ak i) U) ∧ va_Z "java/lang/String" "COMPACT_STRINGS" "Z" (.int 1) A U H ∧ va_Zq "jdk/internal/util/Preconditions" "SIOOBE_FORMATTER" "Ljava/util/function/BiFunction;" A U H
theorem yT.same {ak av : Nat → Nat} {A : Nat → Prop} {u U : State} {H : Heap} (hv : u.vm = U.vm) (h : yT ak av A u H) : yT ak av A U H := ⟨h.1.moved (hv ▸ Vm.Alike.refl u.vm), fun i k t e => vk_R.same hv.symm (h.2.1 i k t e), h.2.2.1.moved (hv ▸ Vm.Alike.refl u.vm), h.2.2.2.moved (hv ▸ Vm.Alike.refl u.vm)⟩
theorem yT.go {ak av : Nat → Nat} {A B : Nat → Prop} {s U : State} {H : Heap} (hW : s.WarmedH U.vm) (hq : ∀ a : Nat, a < s.heap.size → ¬ A a → H[a]? = s.heap[a]?) (hAB : ∀ q, B q → A q) (h : yT ak av A s s.heap) : yT ak av B U H := ⟨((h.1.kept hq).moved hW.alike).narrow hAB, fun i k t e => (h.2.1 i k t e).warm hW, ((h.2.2.1.kept hq).moved hW.alike).narrow hAB, ((h.2.2.2.kept hq).moved hW.alike).narrow hAB⟩
def Wd (D : va_G) (A : Nat → Prop) (H0 H : Heap) (locs : List Loc) (ws : va_W) : Prop := va_P D vwCl ws H ∧ va_D A ws ∧ va_S A H0 H locs
def Bd (D : va_G) (cc : Nat → ClassId) (ak av : Nat → Nat) (A : Nat → Prop) (s : State) : Prop := va_K D vwCl (tyl cc) s ∧ nN s ∧ (∀ q : Nat, s.heap.size ≤ q → A q) ∧ yT ak av A s s.heap
def CPre (D : va_G) (cc : Nat → ClassId) (ak av : Nat → Nat) (ws : va_W) (sz : Nat) (U : State) : Prop := U.heap.size = sz ∧ va_P D vwCl ws U.heap ∧ va_K D vwCl (tyl cc) U ∧ va_D (fun _ => True) ws ∧ nN U ∧ yT ak av (va_A ws sz) U U.heap
def CPost (D : va_G) (w0 w1 : va_W) (sz : Nat) (_ : Unit) (t : State) : Prop := va_P D vwCl w1 t.heap ∧ va_D (va_A w0 sz) w1
def CI (l : Launch) (y : MethodName) (ws : List Cond) (rm : Room) (D : va_G) (cc : Nat → ClassId) (ak av : Nat → Nat) (As : List Value) (w0 w1 : va_W) (r : Int32) : Prop := ∀ sz : Nat, Met l y ws rm (va_Pc As (CPre D cc ak av w0 sz)) (va_Qi (fun r' (_ : Unit) => r' = r) (CPost D w0 w1 sz) (va_A w0 sz)) 0 0 (va_A w0 sz)
def CJ (l : Launch) (y : MethodName) (ws : List Cond) (rm : Room) (D : va_G) (cc : Nat → ClassId) (ak av : Nat → Nat) (As : List Value) (w0 w1 : va_W) (r : Int64) : Prop := ∀ sz : Nat, Met l y ws rm (va_Pc As (CPre D cc ak av w0 sz)) (va_Ql (fun r' (_ : Unit) => r' = r) (CPost D w0 w1 sz) (va_A w0 sz)) 0 0 (va_A w0 sz)
def CV (l : Launch) (y : MethodName) (ws : List Cond) (rm : Room) (D : va_G) (cc : Nat → ClassId) (ak av : Nat → Nat) (As : List Value) (w0 w1 : va_W) : Prop := ∀ sz : Nat, Met l y ws rm (va_Pc As (CPre D cc ak av w0 sz)) (va_Qv (fun (_ : Unit) => True) (CPost D w0 w1 sz) (va_A w0 sz)) 0 0 (va_A w0 sz)
theorem CPre.blind {D : va_G} {cc : Nat → ClassId} {ak av : Nat → Nat} {As : List Value} {ws : va_W} {sz : Nat} : FrameBlind (va_Pc As (CPre D cc ak av ws sz)) := fun a U g mk q => by
  obtain ⟨q0, q1, qP, qK, qD, qN, qY⟩ := q
  exact ⟨q0, q1, qP, va_K.moved (u := U) (U := U.calling g mk a) (Vm.Alike.refl U.vm) qK, qD, nN.same (u := U) (U := U.calling g mk a) rfl qN, yT.same (u := U) (U := U.calling g mk a) rfl qY⟩
theorem Wd.free {D : va_G} {cc : Nat → ClassId} {ak av : Nat → Nat} {A : Nat → Prop} {s : State} {H : Heap} {locs : List Loc} {ws : va_W} (B : Bd D cc ak av A s) (w : Wd D A s.heap H locs ws) : ∀ q, va_A ws H.size q → A q := fun q h => by
  rcases h with ⟨k, e, h⟩ | h
  · exact w.2.1.2 k (q, e) h
  · exact B.2.2.1 q (Nat.le_trans w.2.2.1 h)
theorem Wd.pre {D : va_G} {cc : Nat → ClassId} {ak av : Nat → Nat} {A : Nat → Prop} {s U : State} {H : Heap} {locs : List Loc} {ws : va_W} (B : Bd D cc ak av A s) (w : Wd D A s.heap H locs ws) (hU : U.heap = H) (hW : s.WarmedH U.vm) : CPre D cc ak av ws H.size U := by
  subst hU
  exact ⟨rfl, w.1, va_K.moved hW.alike B.1, w.2.1.weaken (fun _ _ _ _ => trivial), nN.warm hW B.2.1, yT.go hW w.2.2.2.1 (Wd.free B w) B.2.2.2⟩
theorem Wd.post {D : va_G} {cc : Nat → ClassId} {ak av : Nat → Nat} {A : Nat → Prop} {s t : State} {H H1 : Heap} {locs locs1 : List Loc} {w0 w1 : va_W} (B : Bd D cc ak av A s) (w : Wd D A s.heap H locs w0) (ht : t.heap = H1) (hB : CPost D w0 w1 H.size () t) (hS : va_S A s.heap H1 locs1) : Wd D A s.heap H1 locs1 w1 := by
  subst ht
  exact ⟨hB.1, hB.2.weaken (fun k q _ h => Wd.free B w q.1 h), hS⟩
section BASE
variable {p : Program} {l : Launch} {e : Env} {R : Room} {s : State} {m : MethodId} {args : Array Value} {below : List Frame} {meth : Method} {c : Code} {H : Heap} {locs : List Loc} {cells slots : Nat} {Q : State → Prop}
variable {D : va_G} {cc : Nat → ClassId} {ak av : Nat → Nat} {A : Nat → Prop}
variable {pc : Nat} {ls : Array Slot} {rest st : List Value} {c0 bytes : ByteArray} {nL maxL index n : Nat} {Ts ws : List Cond} {own C host : String} {y : MethodName} {ret : Option FieldType} {rm : Room} {As : List Value} {b : Nat} {w0 w1 : va_W}
/-- the answer's rule -/
abbrev RetI (p : Program) (l : Launch) (e : Env) (R : Room) (s : State) (m : MethodId) (args : Array Value) (below : List Frame) (meth : Method) (c : Code) (D : va_G) (A : Nat → Prop) (Q : State → Prop) (c0 : ByteArray) (w1 : va_W) (r : Int32) : Prop := ∀ (pc : Nat) (H : Heap) (locs : List Loc) (ls : Array Slot), decode c0 pc = .ok (.ireturn, 1) → Wd D A s.heap H locs w1 → W p l e R s m args below meth c H locs 0 0 Q (F0 m pc ls [.int r])
abbrev RetZ (p : Program) (l : Launch) (e : Env) (R : Room) (s : State) (m : MethodId) (args : Array Value) (below : List Frame) (meth : Method) (c : Code) (D : va_G) (A : Nat → Prop) (Q : State → Prop) (c0 : ByteArray) (w1 : va_W) (r : Int32) : Prop := ∀ (pc : Nat) (H : Heap) (locs : List Loc) (ls : Array Slot), decode c0 pc = .ok (.ireturn, 1) → narrow .boolean (.int r) = .int r → Wd D A s.heap H locs w1 → W p l e R s m args below meth c H locs 0 0 Q (F0 m pc ls [.int r])
abbrev RetN (ty : FieldType) (p : Program) (l : Launch) (e : Env) (R : Room) (s : State) (m : MethodId) (args : Array Value) (below : List Frame) (meth : Method) (c : Code) (D : va_G) (A : Nat → Prop) (Q : State → Prop) (c0 : ByteArray) (w1 : va_W) (r : Int32) : Prop := ∀ (pc : Nat) (H : Heap) (locs : List Loc) (ls : Array Slot), decode c0 pc = .ok (.ireturn, 1) → narrow ty (.int r) = .int r → Wd D A s.heap H locs w1 → W p l e R s m args below meth c H locs 0 0 Q (F0 m pc ls [.int r])
abbrev RetJ (p : Program) (l : Launch) (e : Env) (R : Room) (s : State) (m : MethodId) (args : Array Value) (below : List Frame) (meth : Method) (c : Code) (D : va_G) (A : Nat → Prop) (Q : State → Prop) (c0 : ByteArray) (w1 : va_W) (r : Int64) : Prop := ∀ (pc : Nat) (H : Heap) (locs : List Loc) (ls : Array Slot), decode c0 pc = .ok (.lreturn, 1) → Wd D A s.heap H locs w1 → W p l e R s m args below meth c H locs 0 0 Q (F0 m pc ls [.long r])
abbrev RetV (p : Program) (l : Launch) (e : Env) (R : Room) (s : State) (m : MethodId) (args : Array Value) (below : List Frame) (meth : Method) (c : Code) (D : va_G) (A : Nat → Prop) (Q : State → Prop) (c0 : ByteArray) (w1 : va_W) : Prop := ∀ (pc : Nat) (H : Heap) (locs : List Loc) (ls : Array Slot), decode c0 pc = .ok (.return_, 1) → Wd D A s.heap H locs w1 → W p l e R s m args below meth c H locs 0 0 Q (F0 m pc ls [])
theorem kVi {r : Int32} (F : CallFix p m c c0 nL s args Ts own) (B : Bd D cc ak av A s) (w : Wd D A s.heap H locs w0) (hM : CI l y ws rm D cc ak av (.ref b :: As) w0 w1 r) (cw : CallW R s args own C index y bytes maxL ret ws rm 0 0 n) (q0 : Nat) {ci : Nat} {fs : List Value} {T : u_T} {N : Nat} (he : w0[q0]? = some (b, .inr (ci, fs))) (hc : vwCl[ci]? = some (C, T, N)) (hn : As.length = n) (hsize : ls.size = nL) (hst : st = As.reverse ++ .ref b :: rest) (hroom : (rest.map fun v => v.category).sum ≤ 8) (hdg : decode c0 pc = .ok (.invokevirtual index, 3)) (hf : cells + 0 ≤ R.cells ∧ slots + 0 ≤ R.slots)
    (kk : ∀ (H1 : Heap) (locs1 : List Loc), Wd D A s.heap H1 locs1 w1 → W p l e R s m args below meth c H1 locs1 cells slots Q (F0 m (pc + 3) ls (.int r :: rest))) : W p l e R s m args below meth c H locs cells slots Q (F0 m pc ls st) := by
  refine va_calli (va_runV (As := As) (rest := rest) F (hM H.size) cw ⟨CPre.blind, va_recv B.1 w.1 hc he, fun U hU hW => ⟨rfl, Wd.pre B w hU hW⟩⟩ rfl hn hsize hst (lv_room hroom) hdg hf) w.2.2 (fun q _ h => Wd.free B w q h) (Wd.free B w) (fun r u t H1 locs1 ht hvm hw hB hz1 hk1 hS => ?_)
  subst hw
  exact kk H1 locs1 (Wd.post B w ht hB hS)
theorem kVl {r : Int64} (F : CallFix p m c c0 nL s args Ts own) (B : Bd D cc ak av A s) (w : Wd D A s.heap H locs w0) (hM : CJ l y ws rm D cc ak av (.ref b :: As) w0 w1 r) (cw : CallW R s args own C index y bytes maxL ret ws rm 0 0 n) (q0 : Nat) {ci : Nat} {fs : List Value} {T : u_T} {N : Nat} (he : w0[q0]? = some (b, .inr (ci, fs))) (hc : vwCl[ci]? = some (C, T, N)) (hn : As.length = n) (hsize : ls.size = nL) (hst : st = As.reverse ++ .ref b :: rest) (hroom : (rest.map fun v => v.category).sum ≤ 8) (hdg : decode c0 pc = .ok (.invokevirtual index, 3)) (hf : cells + 0 ≤ R.cells ∧ slots + 0 ≤ R.slots)
    (kk : ∀ (H1 : Heap) (locs1 : List Loc), Wd D A s.heap H1 locs1 w1 → W p l e R s m args below meth c H1 locs1 cells slots Q (F0 m (pc + 3) ls (.long r :: rest))) : W p l e R s m args below meth c H locs cells slots Q (F0 m pc ls st) := by
  refine va_calll (va_runV (As := As) (rest := rest) F (hM H.size) cw ⟨CPre.blind, va_recv B.1 w.1 hc he, fun U hU hW => ⟨rfl, Wd.pre B w hU hW⟩⟩ rfl hn hsize hst (lv_room hroom) hdg hf) w.2.2 (fun q _ h => Wd.free B w q h) (Wd.free B w) (fun r u t H1 locs1 ht hvm hw hB hz1 hk1 hS => ?_)
  subst hw
  exact kk H1 locs1 (Wd.post B w ht hB hS)
theorem kVv (F : CallFix p m c c0 nL s args Ts own) (B : Bd D cc ak av A s) (w : Wd D A s.heap H locs w0) (hM : CV l y ws rm D cc ak av (.ref b :: As) w0 w1) (cw : CallW R s args own C index y bytes maxL ret ws rm 0 0 n) (q0 : Nat) {ci : Nat} {fs : List Value} {T : u_T} {N : Nat} (he : w0[q0]? = some (b, .inr (ci, fs))) (hc : vwCl[ci]? = some (C, T, N)) (hn : As.length = n) (hsize : ls.size = nL) (hst : st = As.reverse ++ .ref b :: rest) (hroom : (rest.map fun v => v.category).sum ≤ 8) (hdg : decode c0 pc = .ok (.invokevirtual index, 3)) (hf : cells + 0 ≤ R.cells ∧ slots + 0 ≤ R.slots)
    (kk : ∀ (H1 : Heap) (locs1 : List Loc), Wd D A s.heap H1 locs1 w1 → W p l e R s m args below meth c H1 locs1 cells slots Q (F0 m (pc + 3) ls (rest))) : W p l e R s m args below meth c H locs cells slots Q (F0 m pc ls st) := by
  refine va_callv (va_runV (As := As) (rest := rest) F (hM H.size) cw ⟨CPre.blind, va_recv B.1 w.1 hc he, fun U hU hW => ⟨rfl, Wd.pre B w hU hW⟩⟩ rfl hn hsize hst (lv_room hroom) hdg hf) w.2.2 (fun q _ h => Wd.free B w q h) (Wd.free B w) (fun u t H1 locs1 ht hvm hw hB hz1 hk1 hS => ?_)
  exact kk H1 locs1 (Wd.post B w ht hB hS)
theorem kVNi {r : Int32} (F : CallFix p m c c0 nL s args Ts own) (B : Bd D cc ak av A s) (w : Wd D A s.heap H locs w0) (hM : CI l y ws rm D cc ak av (.ref b :: As) w0 w1 r) (cw : va_CN R s args own index y host bytes maxL ret ws rm 0 0 n ∧ (Cond.instanceMethod y).before args s = true ∧ (Cond.selects C y y).before args s = true) (q0 : Nat) {ci : Nat} {fs : List Value} {T : u_T} {N : Nat} (he : w0[q0]? = some (b, .inr (ci, fs))) (hc : vwCl[ci]? = some (C, T, N)) (hn : As.length = n) (hsize : ls.size = nL) (hst : st = As.reverse ++ .ref b :: rest) (hroom : (rest.map fun v => v.category).sum ≤ 8) (hdg : decode c0 pc = .ok (.invokevirtual index, 3)) (hf : cells + 0 ≤ R.cells ∧ slots + 0 ≤ R.slots)
    (kk : ∀ (H1 : Heap) (locs1 : List Loc), Wd D A s.heap H1 locs1 w1 → W p l e R s m args below meth c H1 locs1 cells slots Q (F0 m (pc + 3) ls (.int r :: rest))) : W p l e R s m args below meth c H locs cells slots Q (F0 m pc ls st) := by
  refine va_calli (va_runVN (As := As) (rest := rest) F (hM H.size) cw ⟨CPre.blind, va_recv B.1 w.1 hc he, fun U hU hW => ⟨rfl, Wd.pre B w hU hW⟩⟩ rfl hn hsize hst (lv_room hroom) hdg hf) w.2.2 (fun q _ h => Wd.free B w q h) (Wd.free B w) (fun r u t H1 locs1 ht hvm hw hB hz1 hk1 hS => ?_)
  subst hw
  exact kk H1 locs1 (Wd.post B w ht hB hS)
theorem kVNl {r : Int64} (F : CallFix p m c c0 nL s args Ts own) (B : Bd D cc ak av A s) (w : Wd D A s.heap H locs w0) (hM : CJ l y ws rm D cc ak av (.ref b :: As) w0 w1 r) (cw : va_CN R s args own index y host bytes maxL ret ws rm 0 0 n ∧ (Cond.instanceMethod y).before args s = true ∧ (Cond.selects C y y).before args s = true) (q0 : Nat) {ci : Nat} {fs : List Value} {T : u_T} {N : Nat} (he : w0[q0]? = some (b, .inr (ci, fs))) (hc : vwCl[ci]? = some (C, T, N)) (hn : As.length = n) (hsize : ls.size = nL) (hst : st = As.reverse ++ .ref b :: rest) (hroom : (rest.map fun v => v.category).sum ≤ 8) (hdg : decode c0 pc = .ok (.invokevirtual index, 3)) (hf : cells + 0 ≤ R.cells ∧ slots + 0 ≤ R.slots)
    (kk : ∀ (H1 : Heap) (locs1 : List Loc), Wd D A s.heap H1 locs1 w1 → W p l e R s m args below meth c H1 locs1 cells slots Q (F0 m (pc + 3) ls (.long r :: rest))) : W p l e R s m args below meth c H locs cells slots Q (F0 m pc ls st) := by
  refine va_calll (va_runVN (As := As) (rest := rest) F (hM H.size) cw ⟨CPre.blind, va_recv B.1 w.1 hc he, fun U hU hW => ⟨rfl, Wd.pre B w hU hW⟩⟩ rfl hn hsize hst (lv_room hroom) hdg hf) w.2.2 (fun q _ h => Wd.free B w q h) (Wd.free B w) (fun r u t H1 locs1 ht hvm hw hB hz1 hk1 hS => ?_)
  subst hw
  exact kk H1 locs1 (Wd.post B w ht hB hS)
theorem kVNv (F : CallFix p m c c0 nL s args Ts own) (B : Bd D cc ak av A s) (w : Wd D A s.heap H locs w0) (hM : CV l y ws rm D cc ak av (.ref b :: As) w0 w1) (cw : va_CN R s args own index y host bytes maxL ret ws rm 0 0 n ∧ (Cond.instanceMethod y).before args s = true ∧ (Cond.selects C y y).before args s = true) (q0 : Nat) {ci : Nat} {fs : List Value} {T : u_T} {N : Nat} (he : w0[q0]? = some (b, .inr (ci, fs))) (hc : vwCl[ci]? = some (C, T, N)) (hn : As.length = n) (hsize : ls.size = nL) (hst : st = As.reverse ++ .ref b :: rest) (hroom : (rest.map fun v => v.category).sum ≤ 8) (hdg : decode c0 pc = .ok (.invokevirtual index, 3)) (hf : cells + 0 ≤ R.cells ∧ slots + 0 ≤ R.slots)
    (kk : ∀ (H1 : Heap) (locs1 : List Loc), Wd D A s.heap H1 locs1 w1 → W p l e R s m args below meth c H1 locs1 cells slots Q (F0 m (pc + 3) ls (rest))) : W p l e R s m args below meth c H locs cells slots Q (F0 m pc ls st) := by
  refine va_callv (va_runVN (As := As) (rest := rest) F (hM H.size) cw ⟨CPre.blind, va_recv B.1 w.1 hc he, fun U hU hW => ⟨rfl, Wd.pre B w hU hW⟩⟩ rfl hn hsize hst (lv_room hroom) hdg hf) w.2.2 (fun q _ h => Wd.free B w q h) (Wd.free B w) (fun u t H1 locs1 ht hvm hw hB hz1 hk1 hS => ?_)
  exact kk H1 locs1 (Wd.post B w ht hB hS)
theorem kSi {r : Int32} (F : CallFix p m c c0 nL s args Ts own) (B : Bd D cc ak av A s) (w : Wd D A s.heap H locs w0) (hM : CI l y ws rm D cc ak av As w0 w1 r) (cw : CallB R s args own index y bytes maxL ret ws rm 0 0 n ∧ (Cond.static y).before args s = true) (hn : As.length = n) (hsize : ls.size = nL) (hst : st = As.reverse ++ rest) (hroom : (rest.map fun v => v.category).sum ≤ 8) (hdg : decode c0 pc = .ok (.invokestatic index, 3)) (hf : cells + 0 ≤ R.cells ∧ slots + 0 ≤ R.slots)
    (kk : ∀ (H1 : Heap) (locs1 : List Loc), Wd D A s.heap H1 locs1 w1 → W p l e R s m args below meth c H1 locs1 cells slots Q (F0 m (pc + 3) ls (.int r :: rest))) : W p l e R s m args below meth c H locs cells slots Q (F0 m pc ls st) := by
  refine va_calli (va_runS (As := As) (rest := rest) F (hM H.size) cw ⟨CPre.blind, fun U hU hW => ⟨rfl, Wd.pre B w hU hW⟩⟩ rfl hn hsize hst (lv_room hroom) hdg hf) w.2.2 (fun q _ h => Wd.free B w q h) (Wd.free B w) (fun r u t H1 locs1 ht hvm hw hB hz1 hk1 hS => ?_)
  subst hw
  exact kk H1 locs1 (Wd.post B w ht hB hS)
theorem kSl {r : Int64} (F : CallFix p m c c0 nL s args Ts own) (B : Bd D cc ak av A s) (w : Wd D A s.heap H locs w0) (hM : CJ l y ws rm D cc ak av As w0 w1 r) (cw : CallB R s args own index y bytes maxL ret ws rm 0 0 n ∧ (Cond.static y).before args s = true) (hn : As.length = n) (hsize : ls.size = nL) (hst : st = As.reverse ++ rest) (hroom : (rest.map fun v => v.category).sum ≤ 8) (hdg : decode c0 pc = .ok (.invokestatic index, 3)) (hf : cells + 0 ≤ R.cells ∧ slots + 0 ≤ R.slots)
    (kk : ∀ (H1 : Heap) (locs1 : List Loc), Wd D A s.heap H1 locs1 w1 → W p l e R s m args below meth c H1 locs1 cells slots Q (F0 m (pc + 3) ls (.long r :: rest))) : W p l e R s m args below meth c H locs cells slots Q (F0 m pc ls st) := by
  refine va_calll (va_runS (As := As) (rest := rest) F (hM H.size) cw ⟨CPre.blind, fun U hU hW => ⟨rfl, Wd.pre B w hU hW⟩⟩ rfl hn hsize hst (lv_room hroom) hdg hf) w.2.2 (fun q _ h => Wd.free B w q h) (Wd.free B w) (fun r u t H1 locs1 ht hvm hw hB hz1 hk1 hS => ?_)
  subst hw
  exact kk H1 locs1 (Wd.post B w ht hB hS)
theorem kSv (F : CallFix p m c c0 nL s args Ts own) (B : Bd D cc ak av A s) (w : Wd D A s.heap H locs w0) (hM : CV l y ws rm D cc ak av As w0 w1) (cw : CallB R s args own index y bytes maxL ret ws rm 0 0 n ∧ (Cond.static y).before args s = true) (hn : As.length = n) (hsize : ls.size = nL) (hst : st = As.reverse ++ rest) (hroom : (rest.map fun v => v.category).sum ≤ 8) (hdg : decode c0 pc = .ok (.invokestatic index, 3)) (hf : cells + 0 ≤ R.cells ∧ slots + 0 ≤ R.slots)
    (kk : ∀ (H1 : Heap) (locs1 : List Loc), Wd D A s.heap H1 locs1 w1 → W p l e R s m args below meth c H1 locs1 cells slots Q (F0 m (pc + 3) ls (rest))) : W p l e R s m args below meth c H locs cells slots Q (F0 m pc ls st) := by
  refine va_callv (va_runS (As := As) (rest := rest) F (hM H.size) cw ⟨CPre.blind, fun U hU hW => ⟨rfl, Wd.pre B w hU hW⟩⟩ rfl hn hsize hst (lv_room hroom) hdg hf) w.2.2 (fun q _ h => Wd.free B w q h) (Wd.free B w) (fun u t H1 locs1 ht hvm hw hB hz1 hk1 hS => ?_)
  exact kk H1 locs1 (Wd.post B w ht hB hS)
theorem kSNi {r : Int32} (F : CallFix p m c c0 nL s args Ts own) (B : Bd D cc ak av A s) (w : Wd D A s.heap H locs w0) (hM : CI l y ws rm D cc ak av As w0 w1 r) (cw : va_CN R s args own index y host bytes maxL ret ws rm 0 0 n ∧ (Cond.static y).before args s = true ∧ True) (hn : As.length = n) (hsize : ls.size = nL) (hst : st = As.reverse ++ rest) (hroom : (rest.map fun v => v.category).sum ≤ 8) (hdg : decode c0 pc = .ok (.invokestatic index, 3)) (hf : cells + 0 ≤ R.cells ∧ slots + 0 ≤ R.slots)
    (kk : ∀ (H1 : Heap) (locs1 : List Loc), Wd D A s.heap H1 locs1 w1 → W p l e R s m args below meth c H1 locs1 cells slots Q (F0 m (pc + 3) ls (.int r :: rest))) : W p l e R s m args below meth c H locs cells slots Q (F0 m pc ls st) := by
  refine va_calli (va_runSN (As := As) (rest := rest) F (hM H.size) cw ⟨CPre.blind, fun U hU hW => ⟨rfl, Wd.pre B w hU hW⟩⟩ rfl hn hsize hst (lv_room hroom) hdg hf) w.2.2 (fun q _ h => Wd.free B w q h) (Wd.free B w) (fun r u t H1 locs1 ht hvm hw hB hz1 hk1 hS => ?_)
  subst hw
  exact kk H1 locs1 (Wd.post B w ht hB hS)
theorem kSNl {r : Int64} (F : CallFix p m c c0 nL s args Ts own) (B : Bd D cc ak av A s) (w : Wd D A s.heap H locs w0) (hM : CJ l y ws rm D cc ak av As w0 w1 r) (cw : va_CN R s args own index y host bytes maxL ret ws rm 0 0 n ∧ (Cond.static y).before args s = true ∧ True) (hn : As.length = n) (hsize : ls.size = nL) (hst : st = As.reverse ++ rest) (hroom : (rest.map fun v => v.category).sum ≤ 8) (hdg : decode c0 pc = .ok (.invokestatic index, 3)) (hf : cells + 0 ≤ R.cells ∧ slots + 0 ≤ R.slots)
    (kk : ∀ (H1 : Heap) (locs1 : List Loc), Wd D A s.heap H1 locs1 w1 → W p l e R s m args below meth c H1 locs1 cells slots Q (F0 m (pc + 3) ls (.long r :: rest))) : W p l e R s m args below meth c H locs cells slots Q (F0 m pc ls st) := by
  refine va_calll (va_runSN (As := As) (rest := rest) F (hM H.size) cw ⟨CPre.blind, fun U hU hW => ⟨rfl, Wd.pre B w hU hW⟩⟩ rfl hn hsize hst (lv_room hroom) hdg hf) w.2.2 (fun q _ h => Wd.free B w q h) (Wd.free B w) (fun r u t H1 locs1 ht hvm hw hB hz1 hk1 hS => ?_)
  subst hw
  exact kk H1 locs1 (Wd.post B w ht hB hS)
theorem kSNv (F : CallFix p m c c0 nL s args Ts own) (B : Bd D cc ak av A s) (w : Wd D A s.heap H locs w0) (hM : CV l y ws rm D cc ak av As w0 w1) (cw : va_CN R s args own index y host bytes maxL ret ws rm 0 0 n ∧ (Cond.static y).before args s = true ∧ True) (hn : As.length = n) (hsize : ls.size = nL) (hst : st = As.reverse ++ rest) (hroom : (rest.map fun v => v.category).sum ≤ 8) (hdg : decode c0 pc = .ok (.invokestatic index, 3)) (hf : cells + 0 ≤ R.cells ∧ slots + 0 ≤ R.slots)
    (kk : ∀ (H1 : Heap) (locs1 : List Loc), Wd D A s.heap H1 locs1 w1 → W p l e R s m args below meth c H1 locs1 cells slots Q (F0 m (pc + 3) ls (rest))) : W p l e R s m args below meth c H locs cells slots Q (F0 m pc ls st) := by
  refine va_callv (va_runSN (As := As) (rest := rest) F (hM H.size) cw ⟨CPre.blind, fun U hU hW => ⟨rfl, Wd.pre B w hU hW⟩⟩ rfl hn hsize hst (lv_room hroom) hdg hf) w.2.2 (fun q _ h => Wd.free B w q h) (Wd.free B w) (fun u t H1 locs1 ht hvm hw hB hz1 hk1 hS => ?_)
  exact kk H1 locs1 (Wd.post B w ht hB hS)
theorem kput (F : CallFix p m c c0 nL s args Ts own) (B : Bd D cc ak av A s) (w : Wd D A s.heap H locs w0) {ref C : String} {T : u_T} {N ci : Nat} (hin : ∀ w ∈ u_ws C T N, w ∈ Ts) (ty0 : Nat → FieldType) (hty : ∀ k, k < N → parseFieldDescriptor (T k).2.2.1 = some (ty0 k)) (hnm : ∀ a, a < N → ∀ b, b < N → a ≠ b → (T a).2.1 ≠ (T b).2.1) (q0 : Nat) {fs : List Value} (he : w0[q0]? = some (b, .inr (ci, fs))) (hc : vwCl[ci]? = some (C, T, N)) (k : Nat) (hk : k < N) (hlink : (Cond.fieldLink own index ref (T k).2.1 (T k).2.2.1).before args s = true) (hsame : (T k).1 = ref) (hfin : (T k).2.2.2 = false) {ty : FieldType} {v : Value} (hd : parseFieldDescriptor (T k).2.2.1 = some ty) (hn : narrow ty v = v) (hfit : fits ty v = true) (hl : k < fs.length) (hw : w0.set q0 (b, .inr (ci, fs.set k v)) = w1)
    (hdg : decode c0 pc = .ok (.putfield index, 3)) (kk : ∀ (H1 : Heap) (locs1 : List Loc), Wd D A s.heap H1 locs1 w1 → W p l e R s m args below meth c H1 locs1 cells slots Q (F0 m (pc + 3) ls rest)) : W p l e R s m args below meth c H locs cells slots Q (F0 m pc ls (v :: .ref b :: rest)) := by
  subst hw
  exact va_put (ref := ref) F.1 F.2.1 F.2.2.2.2 hin ty0 hty hnm F.2.2.2.1 B.1 w.1 w.2.1 w.2.2 q0 he hc k hk hlink (fun x h => by rw [← hsame]; exact h) hfin hd hn hfit hl hdg (fun H1 locs1 hP hD hS => kk H1 locs1 ⟨hP, hD, hS⟩)
theorem kputN (F : CallFix p m c c0 nL s args Ts own) (B : Bd D cc ak av A s) (w : Wd D A s.heap H locs w0) {ref C : String} {T : u_T} {N ci : Nat} (hin : ∀ w ∈ u_ws C T N, w ∈ Ts) (ty0 : Nat → FieldType) (hty : ∀ k, k < N → parseFieldDescriptor (T k).2.2.1 = some (ty0 k)) (hnm : ∀ a, a < N → ∀ b, b < N → a ≠ b → (T a).2.1 ≠ (T b).2.1) (q0 : Nat) {fs : List Value} (he : w0[q0]? = some (b, .inr (ci, fs))) (hc : vwCl[ci]? = some (C, T, N)) (k : Nat) (hk : k < N) (hlink : (Cond.fieldLinkNest own index ref (T k).2.1 (T k).2.2.1 host).before args s = true) (hsame : (T k).1 = ref) (hfin : (T k).2.2.2 = false) {ty : FieldType} {v : Value} (hd : parseFieldDescriptor (T k).2.2.1 = some ty) (hn : narrow ty v = v) (hfit : fits ty v = true) (hl : k < fs.length) (hw : w0.set q0 (b, .inr (ci, fs.set k v)) = w1)
    (hdg : decode c0 pc = .ok (.putfield index, 3)) (kk : ∀ (H1 : Heap) (locs1 : List Loc), Wd D A s.heap H1 locs1 w1 → W p l e R s m args below meth c H1 locs1 cells slots Q (F0 m (pc + 3) ls rest)) : W p l e R s m args below meth c H locs cells slots Q (F0 m pc ls (v :: .ref b :: rest)) := by
  subst hw
  exact va_putN (ref := ref) F.1 F.2.1 F.2.2.2.2 hin ty0 hty hnm F.2.2.2.1 B.1 w.1 w.2.1 w.2.2 q0 he hc k hk hlink (fun x h => by rw [← hsame]; exact h) hfin hd hn hfit hl hdg (fun H1 locs1 hP hD hS => kk H1 locs1 ⟨hP, hD, hS⟩)
theorem kget (F : CallFix p m c c0 nL s args Ts own) (B : Bd D cc ak av A s) (w : Wd D A s.heap H locs w0) {ref C : String} {T : u_T} {N ci : Nat} (hin : ∀ w ∈ u_ws C T N, w ∈ Ts) (q0 : Nat) {fs : List Value} (he : w0[q0]? = some (b, .inr (ci, fs))) (hc : vwCl[ci]? = some (C, T, N)) (k : Nat) (hk : k < N) (hlink : (Cond.fieldLink own index ref (T k).2.1 (T k).2.2.1).before args s = true) (hsame : (T k).1 = ref) {v : Value} (hv : fs[k]? = some v)
    (hdg : decode c0 pc = .ok (.getfield index, 3)) (kk : W p l e R s m args below meth c H locs cells slots Q (F0 m (pc + 3) ls (v :: rest))) : W p l e R s m args below meth c H locs cells slots Q (F0 m pc ls (.ref b :: rest)) :=
  va_get (ref := ref) F.1 F.2.1 F.2.2.2.2 hin F.2.2.2.1 B.1 w.1 q0 he hc k hk hlink (fun x h => by rw [← hsame]; exact h) hv hdg kk
theorem kgetN (F : CallFix p m c c0 nL s args Ts own) (B : Bd D cc ak av A s) (w : Wd D A s.heap H locs w0) {ref C : String} {T : u_T} {N ci : Nat} (hin : ∀ w ∈ u_ws C T N, w ∈ Ts) (q0 : Nat) {fs : List Value} (he : w0[q0]? = some (b, .inr (ci, fs))) (hc : vwCl[ci]? = some (C, T, N)) (k : Nat) (hk : k < N) (hlink : (Cond.fieldLinkNest own index ref (T k).2.1 (T k).2.2.1 host).before args s = true) (hsame : (T k).1 = ref) {v : Value} (hv : fs[k]? = some v)
    (hdg : decode c0 pc = .ok (.getfield index, 3)) (kk : W p l e R s m args below meth c H locs cells slots Q (F0 m (pc + 3) ls (v :: rest))) : W p l e R s m args below meth c H locs cells slots Q (F0 m pc ls (.ref b :: rest)) :=
  va_getN (ref := ref) F.1 F.2.1 F.2.2.2.2 hin F.2.2.2.1 B.1 w.1 q0 he hc k hk hlink (fun x h => by rw [← hsame]; exact h) hv hdg kk
theorem kiald (F : CallFix p m c c0 nL s args Ts own) (B : Bd D cc ak av A s) (w : Wd D A s.heap H locs w0) (q0 : Nat) {N : Nat} {f : Nat → Int32} (ha : w0[q0]? = some (b, .inl (cc 0, N, .inl f))) {i : Int32} (hin : ¬ (i < 0 ∨ N ≤ i.toNatClampNeg)) (hdg : decode c0 pc = .ok (.iaload, 1))
    (kk : W p l e R s m args below meth c H locs cells slots Q (F0 m (pc + 1) ls (.int (f i.toNatClampNeg) :: rest))) : W p l e R s m args below meth c H locs cells slots Q (F0 m pc ls (.int i :: .ref b :: rest)) := va_iald F.1 F.2.1 B.1 w.1 q0 0 ha rfl hin hdg kk
theorem kiast (F : CallFix p m c c0 nL s args Ts own) (B : Bd D cc ak av A s) (w : Wd D A s.heap H locs w0) (q0 : Nat) {N : Nat} {f : Nat → Int32} (ha : w0[q0]? = some (b, .inl (cc 0, N, .inl f))) {i x : Int32} (hin : ¬ (i < 0 ∨ N ≤ i.toNatClampNeg)) (hw : w0.set q0 (b, .inl (cc 0, N, .inl (upd f i.toNatClampNeg x))) = w1) (hdg : decode c0 pc = .ok (.iastore, 1))
    (kk : ∀ (H1 : Heap) (locs1 : List Loc), Wd D A s.heap H1 locs1 w1 → W p l e R s m args below meth c H1 locs1 cells slots Q (F0 m (pc + 1) ls rest)) : W p l e R s m args below meth c H locs cells slots Q (F0 m pc ls (.int x :: .int i :: .ref b :: rest)) := by
  subst hw
  exact va_iast F.1 F.2.1 B.1 w.1 w.2.1 w.2.2 q0 0 ha rfl hin hdg (fun H1 locs1 hP hD hS => kk H1 locs1 ⟨hP, hD, hS⟩)
theorem kbald (F : CallFix p m c c0 nL s args Ts own) (B : Bd D cc ak av A s) (w : Wd D A s.heap H locs w0) (q0 : Nat) {N : Nat} {f : Nat → Int32} (ha : w0[q0]? = some (b, .inl (cc 1, N, .inl f))) {i : Int32} (hin : ¬ (i < 0 ∨ N ≤ i.toNatClampNeg)) (hdg : decode c0 pc = .ok (.baload, 1))
    (kk : W p l e R s m args below meth c H locs cells slots Q (F0 m (pc + 1) ls (.int (f i.toNatClampNeg) :: rest))) : W p l e R s m args below meth c H locs cells slots Q (F0 m pc ls (.int i :: .ref b :: rest)) := va_bald F.1 F.2.1 B.1 w.1 q0 1 ha rfl hin hdg kk
theorem kbast (F : CallFix p m c c0 nL s args Ts own) (B : Bd D cc ak av A s) (w : Wd D A s.heap H locs w0) (q0 : Nat) {N : Nat} {f : Nat → Int32} (ha : w0[q0]? = some (b, .inl (cc 1, N, .inl f))) {i x : Int32} (hin : ¬ (i < 0 ∨ N ≤ i.toNatClampNeg)) (hw : w0.set q0 (b, .inl (cc 1, N, .inl (upd f i.toNatClampNeg (vp_nar .byte x)))) = w1) (hdg : decode c0 pc = .ok (.bastore, 1))
    (kk : ∀ (H1 : Heap) (locs1 : List Loc), Wd D A s.heap H1 locs1 w1 → W p l e R s m args below meth c H1 locs1 cells slots Q (F0 m (pc + 1) ls rest)) : W p l e R s m args below meth c H locs cells slots Q (F0 m pc ls (.int x :: .int i :: .ref b :: rest)) := by
  subst hw
  exact va_bast F.1 F.2.1 B.1 w.1 w.2.1 w.2.2 q0 1 ha rfl hin hdg (fun H1 locs1 hP hD hS => kk H1 locs1 ⟨hP, hD, hS⟩)
theorem kzald (F : CallFix p m c c0 nL s args Ts own) (B : Bd D cc ak av A s) (w : Wd D A s.heap H locs w0) (q0 : Nat) {N : Nat} {f : Nat → Int32} (ha : w0[q0]? = some (b, .inl (cc 2, N, .inl f))) {i : Int32} (hin : ¬ (i < 0 ∨ N ≤ i.toNatClampNeg)) (hdg : decode c0 pc = .ok (.baload, 1))
    (kk : W p l e R s m args below meth c H locs cells slots Q (F0 m (pc + 1) ls (.int (f i.toNatClampNeg) :: rest))) : W p l e R s m args below meth c H locs cells slots Q (F0 m pc ls (.int i :: .ref b :: rest)) := va_zald F.1 F.2.1 B.1 w.1 q0 2 ha rfl hin hdg kk
theorem kzast (F : CallFix p m c c0 nL s args Ts own) (B : Bd D cc ak av A s) (w : Wd D A s.heap H locs w0) (q0 : Nat) {N : Nat} {f : Nat → Int32} (ha : w0[q0]? = some (b, .inl (cc 2, N, .inl f))) {i x : Int32} (hin : ¬ (i < 0 ∨ N ≤ i.toNatClampNeg)) (hw : w0.set q0 (b, .inl (cc 2, N, .inl (upd f i.toNatClampNeg (vp_nar .boolean x)))) = w1) (hdg : decode c0 pc = .ok (.bastore, 1))
    (kk : ∀ (H1 : Heap) (locs1 : List Loc), Wd D A s.heap H1 locs1 w1 → W p l e R s m args below meth c H1 locs1 cells slots Q (F0 m (pc + 1) ls rest)) : W p l e R s m args below meth c H locs cells slots Q (F0 m pc ls (.int x :: .int i :: .ref b :: rest)) := by
  subst hw
  exact va_zast F.1 F.2.1 B.1 w.1 w.2.1 w.2.2 q0 2 ha rfl hin hdg (fun H1 locs1 hP hD hS => kk H1 locs1 ⟨hP, hD, hS⟩)
theorem klald (F : CallFix p m c c0 nL s args Ts own) (B : Bd D cc ak av A s) (w : Wd D A s.heap H locs w0) (q0 : Nat) {N : Nat} {f : Nat → Int64} (ha : w0[q0]? = some (b, .inl (cc 3, N, .inr (.inl f)))) {i : Int32} (hin : ¬ (i < 0 ∨ N ≤ i.toNatClampNeg)) (hdg : decode c0 pc = .ok (.laload, 1))
    (kk : W p l e R s m args below meth c H locs cells slots Q (F0 m (pc + 1) ls (.long (f i.toNatClampNeg) :: rest))) : W p l e R s m args below meth c H locs cells slots Q (F0 m pc ls (.int i :: .ref b :: rest)) := va_lald F.1 F.2.1 B.1 w.1 q0 3 ha rfl hin hdg kk
theorem klast (F : CallFix p m c c0 nL s args Ts own) (B : Bd D cc ak av A s) (w : Wd D A s.heap H locs w0) (q0 : Nat) {N : Nat} {f : Nat → Int64} (ha : w0[q0]? = some (b, .inl (cc 3, N, .inr (.inl f)))) {i : Int32} {x : Int64} (hin : ¬ (i < 0 ∨ N ≤ i.toNatClampNeg)) (hw : w0.set q0 (b, .inl (cc 3, N, .inr (.inl (vp_updL f i.toNatClampNeg x)))) = w1) (hdg : decode c0 pc = .ok (.lastore, 1))
    (kk : ∀ (H1 : Heap) (locs1 : List Loc), Wd D A s.heap H1 locs1 w1 → W p l e R s m args below meth c H1 locs1 cells slots Q (F0 m (pc + 1) ls rest)) : W p l e R s m args below meth c H locs cells slots Q (F0 m pc ls (.long x :: .int i :: .ref b :: rest)) := by
  subst hw
  exact va_last F.1 F.2.1 B.1 w.1 w.2.1 w.2.2 q0 3 ha rfl hin hdg (fun H1 locs1 hP hD hS => kk H1 locs1 ⟨hP, hD, hS⟩)
theorem kalen (F : CallFix p m c c0 nL s args Ts own) (B : Bd D cc ak av A s) (w : Wd D A s.heap H locs w0) (q0 t0 : Nat) {x : vp_A} {ty : FieldType} (ha : w0[q0]? = some (b, .inl (cc t0, x))) (ht : (tyl cc)[t0]? = some (cc t0, ty)) {v : Int32} (hv : Int32.ofNat x.1 = v) (hdg : decode c0 pc = .ok (.arraylength, 1))
    (kk : W p l e R s m args below meth c H locs cells slots Q (F0 m (pc + 1) ls (.int v :: rest))) : W p l e R s m args below meth c H locs cells slots Q (F0 m pc ls (.ref b :: rest)) := va_alen F.1 F.2.1 B.1 w.1 q0 t0 ha ht hv hdg kk
theorem kgald (F : CallFix p m c c0 nL s args Ts own) (B : Bd D cc ak av A s) (w : Wd D A s.heap H locs w0) (q0 : Nat) {N v : Nat} {f : Nat → Option Nat} (ha : w0[q0]? = some (b, .inl (cc 4, N, .inr (.inr (.inr (.inr f)))))) {i : Int32} (hin : ¬ (i < 0 ∨ N ≤ i.toNatClampNeg)) (hv : f i.toNatClampNeg = some v) (hdg : decode c0 pc = .ok (.aaload, 1))
    (kk : W p l e R s m args below meth c H locs cells slots Q (F0 m (pc + 1) ls (.ref v :: rest))) : W p l e R s m args below meth c H locs cells slots Q (F0 m pc ls (.int i :: .ref b :: rest)) := by
  have hlt : i.toNatClampNeg < N := Nat.not_le.mp fun q => hin (Or.inr q)
  exact W.aald (v := .ref v) (ty := .array .int) F.1 F.2.1 (w.1 q0 _ ha) ((B.1.2 4 _ rfl).1 N (fun j => va_rf (f j))) rfl (fun q => by cases q) (by show ¬ (i < 0 ∨ (arrV _ _ _).slots.size ≤ _); rw [arrV_size]; exact hin) (by show (arrV _ _ _).slots[_]? = _; rw [arrV_read _ _ hlt, hv]; rfl) rfl rfl hdg kk
theorem kcopy (F : CallFix p m c c0 nL s args Ts own) (B : Bd D cc ak av A s) (w : Wd D A s.heap H locs w0) (hl : ls.size = nL) (hlink : (Cond.methodLink own index arraycopyName).before args s = true) (hnat : (Cond.native arraycopyName).before args s = true) (hstat : (Cond.static arraycopyName).before args s = true) (hini : (Cond.initialized "java/lang/System").before args s = true) (q0 q1 : Nat) {a0 n0 n1 : Nat} {f g : Nat → Int32} (ha0 : w0[q0]? = some (a0, .inl (cc 0, n0, .inl f))) (ha1 : w0[q1]? = some (b, .inl (cc 0, n1, .inl g)))
    {x : Int32} (h3 : ¬ (x < 0 ∨ n0 < x.toNatClampNeg ∨ n1 < x.toNatClampNeg)) (hframes : 1 ≤ R.frames) (hlocals : (rest.map fun v => v.category).sum + (nativeFrameWords "java/lang/System" "arraycopy" 5 + 11) ≤ R.locals) (hw : w0.set q1 (b, .inl (cc 0, n1, .inl (va_cpy f g 0 0 x.toNatClampNeg))) = w1) (hdg : decode c0 pc = .ok (.invokestatic index, 3))
    (kk : ∀ (H1 : Heap) (locs1 : List Loc), Wd D A s.heap H1 locs1 w1 → W p l e R s m args below meth c H1 locs1 cells slots Q (F0 m (pc + 3) ls rest)) : W p l e R s m args below meth c H locs cells slots Q (F0 m pc ls (.int x :: .int 0 :: .ref b :: .int 0 :: .ref a0 :: rest)) := by
  subst hw
  have h0 : (0 : Int32).toNatClampNeg = 0 := rfl
  refine va_copyi F.1 F.2.1 (by rw [hl]; exact F.2.2.1) F.2.2.2.1 hlink hnat hstat hini B.1 w.1 w.2.1 w.2.2 q0 q1 0 0 ha0 ha1 rfl rfl rfl (by decide) (by decide) (fun q => h3 (Or.inl q)) ?_ ?_ (fun i _ => rfl) hframes hlocals hdg (fun H1 locs1 hP hD hS => kk H1 locs1 ⟨hP, hD, hS⟩)
  · rw [h0]; omega
  · rw [h0]; omega
theorem mkI {ws ws' : List Cond} {rm : Room} (hrc : rm.cells = 0) (hrs : rm.slots = 0) (hy : plainName y.cls = true)  {r : Int32} (hw : ws = Cond.code y c0 nL (some .int) :: ws') (hown : y.cls = own) (hal : (lg_sl As).length ≤ nL)
    (walk : ∀ (p : Program) (e : Env) (s : State) (m : MethodId) (args : Array Value) (below : List Frame) (meth : Method) (c : Code) (A : Nat → Prop) (Q : State → Prop) (ls : Array Slot), CallFix p m c c0 nL s args ws own → Bd D cc ak av A s → RetI p l e rm s m args below meth c D A Q c0 w1 r → lv_has ls nL (lv_args 0 As) → Wd D A s.heap s.heap [] w0 → W p l e rm s m args below meth c s.heap [] 0 0 Q (F0 m 0 ls [])) : CI l y ws rm D cc ak av As w0 w1 r := by
  intro sz
  refine Met.ofW (cc := c0) (maxL := nL) (ret := some .int) hy hw ?_
  intro p e s m args below meth c s₁ B hml hv
  obtain ⟨rfl, hsz, hP, hK, hD0, hN, hY⟩ := hv
  have hx := B.exec
  have hb := B.bytes
  have hr := B.returns
  have hts := atoms_spec (ws := ws) B.pre
  have hown2 : s.vm.findClass own = some m.cls := by rw [← hown]; exact findClass_of_methodNamed B.named
  have hlocks := B.notSynchronized
  subst hsz
  have hl := lv_entry As (n := nL) hal
  rw [lg_entry_eq]
  generalize (lg_sl As ++ List.replicate (nL - (lg_sl As).length) Slot.unset).toArray = ls at hl ⊢
  refine walk p e s m _ below meth c (va_A w0 s.heap.size) _ ls ⟨hx, hb, hml, hown2, hts⟩ ⟨hK, hN, fun q h => Or.inr h, hY⟩ ?_ hl ⟨hP, hD0.self, va_S.rf⟩
  intro pc H locs ls hdg w
  exact W.iret (v := r) hx hb hr (fun t ht hW => ⟨⟨r, (), rfl, rfl, by rw [ht]; exact w.1, w.2.1⟩, w.2.2.F ht⟩) w.2.2.2.2 hdg
theorem mkZ {ws ws' : List Cond} {rm : Room} (hrc : rm.cells = 0) (hrs : rm.slots = 0) (hy : plainName y.cls = true)  {r : Int32} (hw : ws = Cond.code y c0 nL (some .boolean) :: ws') (hown : y.cls = own) (hal : (lg_sl As).length ≤ nL)
    (walk : ∀ (p : Program) (e : Env) (s : State) (m : MethodId) (args : Array Value) (below : List Frame) (meth : Method) (c : Code) (A : Nat → Prop) (Q : State → Prop) (ls : Array Slot), CallFix p m c c0 nL s args ws own → Bd D cc ak av A s → RetZ p l e rm s m args below meth c D A Q c0 w1 r → lv_has ls nL (lv_args 0 As) → Wd D A s.heap s.heap [] w0 → W p l e rm s m args below meth c s.heap [] 0 0 Q (F0 m 0 ls [])) : CI l y ws rm D cc ak av As w0 w1 r := by
  intro sz
  refine Met.ofW (cc := c0) (maxL := nL) (ret := some .boolean) hy hw ?_
  intro p e s m args below meth c s₁ B hml hv
  obtain ⟨rfl, hsz, hP, hK, hD0, hN, hY⟩ := hv
  have hx := B.exec
  have hb := B.bytes
  have hr := B.returns
  have hts := atoms_spec (ws := ws) B.pre
  have hown2 : s.vm.findClass own = some m.cls := by rw [← hown]; exact findClass_of_methodNamed B.named
  have hlocks := B.notSynchronized
  subst hsz
  have hl := lv_entry As (n := nL) hal
  rw [lg_entry_eq]
  generalize (lg_sl As ++ List.replicate (nL - (lg_sl As).length) Slot.unset).toArray = ls at hl ⊢
  refine walk p e s m _ below meth c (va_A w0 s.heap.size) _ ls ⟨hx, hb, hml, hown2, hts⟩ ⟨hK, hN, fun q h => Or.inr h, hY⟩ ?_ hl ⟨hP, hD0.self, va_S.rf⟩
  intro pc H locs ls hdg hnar w
  exact W.zret (v := r) hx hb hr hnar (fun t ht hW => ⟨⟨r, (), rfl, rfl, by rw [ht]; exact w.1, w.2.1⟩, w.2.2.F ht⟩) w.2.2.2.2 hdg
theorem mkN {ws ws' : List Cond} {rm : Room} (hrc : rm.cells = 0) (hrs : rm.slots = 0) (hy : plainName y.cls = true)  {r : Int32} {ty : FieldType} (hw : ws = Cond.code y c0 nL (some ty) :: ws') (hown : y.cls = own) (hal : (lg_sl As).length ≤ nL)
    (walk : ∀ (p : Program) (e : Env) (s : State) (m : MethodId) (args : Array Value) (below : List Frame) (meth : Method) (c : Code) (A : Nat → Prop) (Q : State → Prop) (ls : Array Slot), CallFix p m c c0 nL s args ws own → Bd D cc ak av A s → RetN ty p l e rm s m args below meth c D A Q c0 w1 r → lv_has ls nL (lv_args 0 As) → Wd D A s.heap s.heap [] w0 → W p l e rm s m args below meth c s.heap [] 0 0 Q (F0 m 0 ls [])) : CI l y ws rm D cc ak av As w0 w1 r := by
  intro sz
  refine Met.ofW (cc := c0) (maxL := nL) (ret := some ty) hy hw ?_
  intro p e s m args below meth c s₁ B hml hv
  obtain ⟨rfl, hsz, hP, hK, hD0, hN, hY⟩ := hv
  have hx := B.exec
  have hb := B.bytes
  have hr := B.returns
  have hts := atoms_spec (ws := ws) B.pre
  have hown2 : s.vm.findClass own = some m.cls := by rw [← hown]; exact findClass_of_methodNamed B.named
  have hlocks := B.notSynchronized
  subst hsz
  have hl := lv_entry As (n := nL) hal
  rw [lg_entry_eq]
  generalize (lg_sl As ++ List.replicate (nL - (lg_sl As).length) Slot.unset).toArray = ls at hl ⊢
  refine walk p e s m _ below meth c (va_A w0 s.heap.size) _ ls ⟨hx, hb, hml, hown2, hts⟩ ⟨hK, hN, fun q h => Or.inr h, hY⟩ ?_ hl ⟨hP, hD0.self, va_S.rf⟩
  intro pc H locs ls hdg hnar w
  exact W.zret (v := r) hx hb hr hnar (fun t ht hW => ⟨⟨r, (), rfl, rfl, by rw [ht]; exact w.1, w.2.1⟩, w.2.2.F ht⟩) w.2.2.2.2 hdg
theorem mkJ {ws ws' : List Cond} {rm : Room} (hrc : rm.cells = 0) (hrs : rm.slots = 0) (hy : plainName y.cls = true)  {r : Int64} (hw : ws = Cond.code y c0 nL (some .long) :: ws') (hown : y.cls = own) (hal : (lg_sl As).length ≤ nL)
    (walk : ∀ (p : Program) (e : Env) (s : State) (m : MethodId) (args : Array Value) (below : List Frame) (meth : Method) (c : Code) (A : Nat → Prop) (Q : State → Prop) (ls : Array Slot), CallFix p m c c0 nL s args ws own → Bd D cc ak av A s → RetJ p l e rm s m args below meth c D A Q c0 w1 r → lv_has ls nL (lv_args 0 As) → Wd D A s.heap s.heap [] w0 → W p l e rm s m args below meth c s.heap [] 0 0 Q (F0 m 0 ls [])) : CJ l y ws rm D cc ak av As w0 w1 r := by
  intro sz
  refine Met.ofW (cc := c0) (maxL := nL) (ret := some .long) hy hw ?_
  intro p e s m args below meth c s₁ B hml hv
  obtain ⟨rfl, hsz, hP, hK, hD0, hN, hY⟩ := hv
  have hx := B.exec
  have hb := B.bytes
  have hr := B.returns
  have hts := atoms_spec (ws := ws) B.pre
  have hown2 : s.vm.findClass own = some m.cls := by rw [← hown]; exact findClass_of_methodNamed B.named
  have hlocks := B.notSynchronized
  subst hsz
  have hl := lv_entry As (n := nL) hal
  rw [lg_entry_eq]
  generalize (lg_sl As ++ List.replicate (nL - (lg_sl As).length) Slot.unset).toArray = ls at hl ⊢
  refine walk p e s m _ below meth c (va_A w0 s.heap.size) _ ls ⟨hx, hb, hml, hown2, hts⟩ ⟨hK, hN, fun q h => Or.inr h, hY⟩ ?_ hl ⟨hP, hD0.self, va_S.rf⟩
  intro pc H locs ls hdg w
  exact W.lret (v := r) hx hb hr (fun t ht hW => ⟨⟨r, (), rfl, rfl, by rw [ht]; exact w.1, w.2.1⟩, w.2.2.F ht⟩) w.2.2.2.2 hdg
theorem mkV {ws ws' : List Cond} {rm : Room} (hrc : rm.cells = 0) (hrs : rm.slots = 0) (hy : plainName y.cls = true)  (hw : ws = Cond.code y c0 nL (none) :: ws') (hown : y.cls = own) (hal : (lg_sl As).length ≤ nL)
    (walk : ∀ (p : Program) (e : Env) (s : State) (m : MethodId) (args : Array Value) (below : List Frame) (meth : Method) (c : Code) (A : Nat → Prop) (Q : State → Prop) (ls : Array Slot), CallFix p m c c0 nL s args ws own → Bd D cc ak av A s → RetV p l e rm s m args below meth c D A Q c0 w1 → lv_has ls nL (lv_args 0 As) → Wd D A s.heap s.heap [] w0 → W p l e rm s m args below meth c s.heap [] 0 0 Q (F0 m 0 ls [])) : CV l y ws rm D cc ak av As w0 w1 := by
  intro sz
  refine Met.ofW (cc := c0) (maxL := nL) (ret := none) hy hw ?_
  intro p e s m args below meth c s₁ B hml hv
  obtain ⟨rfl, hsz, hP, hK, hD0, hN, hY⟩ := hv
  have hx := B.exec
  have hb := B.bytes
  have hr := B.returns
  have hts := atoms_spec (ws := ws) B.pre
  have hown2 : s.vm.findClass own = some m.cls := by rw [← hown]; exact findClass_of_methodNamed B.named
  have hlocks := B.notSynchronized
  subst hsz
  have hl := lv_entry As (n := nL) hal
  rw [lg_entry_eq]
  generalize (lg_sl As ++ List.replicate (nL - (lg_sl As).length) Slot.unset).toArray = ls at hl ⊢
  refine walk p e s m _ below meth c (va_A w0 s.heap.size) _ ls ⟨hx, hb, hml, hown2, hts⟩ ⟨hK, hN, fun q h => Or.inr h, hY⟩ ?_ hl ⟨hP, hD0.self, va_S.rf⟩
  intro pc H locs ls hdg w
  exact W.vret hx hb hr (fun t ht hW => ⟨⟨(), rfl, trivial, by rw [ht]; exact w.1, w.2.1⟩, w.2.2.F ht⟩) w.2.2.2.2 hdg
end BASE
