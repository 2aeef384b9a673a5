/-! how many bits -/
def pcF : Nat → Nat → Nat
  | 0, _ => 0
  | k + 1, h => h % 2 + pcF k (h / 2)
theorem pcF_0 : ∀ k, pcF k 0 = 0 := by
  intro k
  induction k with
  | zero => rfl
  | succ k ihk => rw [pcF]; simpa using ihk
theorem pcF_add : ∀ (a b h : Nat), pcF (a + b) h = pcF a (h % 2 ^ a) + pcF b (h / 2 ^ a) := by
  intro a
  induction a with
  | zero => intro b h; rw [pcF, Nat.zero_add, Nat.pow_zero, Nat.div_one, Nat.zero_add]
  | succ a iha =>
    intro b h
    rw [show a + 1 + b = (a + b) + 1 by omega, pcF, pcF, iha b (h / 2), Nat.div_div_eq_div_mul, ← Nat.pow_succ', show h % 2 ^ (a + 1) = h % 2 + 2 * (h / 2 % 2 ^ a) by
        rw [Nat.pow_succ, Nat.mul_comm (2 ^ a) 2, Nat.mod_mul]]
    have e1 : (h % 2 + 2 * (h / 2 % 2 ^ a)) % 2 = h % 2 := by omega
    have e2 : (h % 2 + 2 * (h / 2 % 2 ^ a)) / 2 = h / 2 % 2 ^ a := by omega
    rw [e1, e2]; simp only [Nat.succ_eq_add_one]; omega
theorem pcF_le : ∀ (k h : Nat), pcF k h ≤ k := by
  intro k
  induction k with
  | zero => intro h; exact Nat.le_refl _
  | succ k ihk => intro h; rw [pcF]; have := ihk (h / 2); omega
theorem pcF_pos : ∀ (k h : Nat), h < 2 ^ k → 0 < h → 0 < pcF k h := by
  intro k
  induction k with
  | zero => intro h h1 h2; rw [Nat.pow_zero] at h1; omega
  | succ k ihk =>
    intro h h1 h2
    rw [pcF]
    by_cases e : h % 2 = 0
    · have := ihk (h / 2) (by rw [Nat.pow_succ] at h1; omega) (by omega)
      omega
    · omega
theorem sm8 (s M : Nat) (h0 : ∀ j, j < 8 → 8 ≤ j + s → M.testBit j = false) {a : Nat} (b : Nat) (ha : a < 2 ^ 8) : ((2 ^ 8 * b + a) >>> s) &&& M = 2 ^ 8 * ((b >>> s) &&& (M >>> 8)) + ((a >>> s) &&& (M % 2 ^ 8)) := by
  apply Nat.eq_of_testBit_eq
  intro j
  have hlt : ((a >>> s) &&& (M % 2 ^ 8)) < 2 ^ 8 := Nat.lt_of_le_of_lt Nat.and_le_right (Nat.mod_lt _ (by decide))
  rw [Nat.testBit_two_pow_mul_add _ hlt, Nat.testBit_and, Nat.testBit_shiftRight, Nat.testBit_two_pow_mul_add _ ha, Nat.testBit_and, Nat.testBit_and, Nat.testBit_shiftRight, Nat.testBit_shiftRight, Nat.testBit_shiftRight, Nat.testBit_mod_two_pow]
  by_cases c : j < 8
  · rw [if_pos c]
    by_cases c2 : s + j < 8
    · rw [if_pos c2]; simp [c]
    · rw [if_neg c2, h0 j c (by omega)]; simp
  · rw [if_neg c, if_neg (by omega), show s + j - 8 = s + (j - 8) by omega, show 8 + (j - 8) = j by omega]
theorem nI_and (a b : Nat) : nI a &&& nI b = nI (a &&& b) := by
  apply Int32.toBitVec_inj.mp
  rw [Int32.toBitVec_and]
  exact BitVec.ofNat_and.symm
def u1 (a : Nat) : Nat := a - ((a >>> 1) &&& 0x55)
def u2 (a : Nat) : Nat := (u1 a &&& 0x33) + ((u1 a >>> 2) &&& 0x33)
theorem u_all : ∀ a, a < 256 → ((a >>> 1) &&& 0x55) ≤ a ∧ u1 a < 256 ∧ u2 a ≤ 0x44 ∧ u2 a % 16 ≤ 4 ∧ (u2 a + u2 a / 16) % 16 = pcF 8 a := by decide +kernel
theorem msk (s M M0 M1 M2 M3 : Nat) (a b c d : Nat) (ha : a < 256) (hb : b < 256) (hc : c < 256) (hd : d < 256) (h0 : ∀ j, j < 8 → 8 ≤ j + s → M.testBit j = false) (h1 : ∀ j, j < 8 → 8 ≤ j + s → (M >>> 8).testBit j = false) (h2 : ∀ j, j < 8 → 8 ≤ j + s → (M >>> 8 >>> 8).testBit j = false) (e0 : M % 2 ^ 8 = M0) (e1 : (M >>> 8) % 2 ^ 8 = M1) (e2 : (M >>> 8 >>> 8) % 2 ^ 8 = M2) (e3 : (M >>> 8 >>> 8 >>> 8) = M3) : ((256 * (256 * (256 * d + c) + b) + a) >>> s) &&& M = 256 * (256 * (256 * ((d >>> s) &&& M3) + ((c >>> s) &&& M2)) + ((b >>> s) &&& M1)) + ((a >>> s) &&& M0) := by
  have q0 := sm8 s M h0 (256 * (256 * d + c) + b) ha
  have q1 := sm8 s (M >>> 8) h1 (256 * d + c) hb
  have q2 := sm8 s (M >>> 8 >>> 8) h2 d hc
  rw [e0] at q0; rw [e1] at q1; rw [e2, e3] at q2
  simp only [show (2 : Nat) ^ 8 = 256 from rfl] at q0 q1 q2
  rw [q0, q1, q2]
theorem bitCount_nI {h : Nat} (hh : h < 2 ^ 31) : fJ6_bitCount_0f7a4 (nI h) = some (nI (pcF 32 h)) := by
  have hpc : pcF 32 h = pcF 8 (h % 256) + (pcF 8 (h / 256 % 256) + (pcF 8 (h / 65536 % 256) + pcF 8 (h / 16777216))) := by
    rw [show 32 = 8 + 24 from rfl, pcF_add 8 24, show 24 = 8 + 16 from rfl, pcF_add 8 16, show 16 = 8 + 8 from rfl, pcF_add 8 8]
    simp only [show (2 : Nat) ^ 8 = 256 from rfl, Nat.div_div_eq_div_mul]
  have ha : h % 256 < 256 := Nat.mod_lt _ (by decide)
  have hb : h / 256 % 256 < 256 := Nat.mod_lt _ (by decide)
  have hc : h / 65536 % 256 < 256 := Nat.mod_lt _ (by decide)
  have hd : h / 16777216 < 256 := by omega
  have hh2 : h = 256 * (256 * (256 * (h / 16777216) + h / 65536 % 256) + h / 256 % 256) + h % 256 := by omega
  rw [hpc]
  generalize h % 256 = a at *
  generalize h / 256 % 256 = b at *
  generalize h / 65536 % 256 = c at *
  generalize h / 16777216 = d at *
  subst hh2
  clear hpc
  obtain ⟨a1, a2, a3, a5, a4⟩ := u_all a ha
  obtain ⟨b1, b2, b3, b5, b4⟩ := u_all b hb
  obtain ⟨c1, c2, c3, c5, c4⟩ := u_all c hc
  obtain ⟨d1, d2, d3, d5, d4⟩ := u_all d hd
  have s1 : nI (256 * (256 * (256 * d + c) + b) + a) - (((Int32.toUInt32 (nI (256 * (256 * (256 * d + c) + b) + a)) >>> (Int32.toUInt32 1 &&& Int32.toUInt32 31)).toInt32) &&& 1431655765) = nI (256 * (256 * (256 * u1 d + u1 c) + u1 b) + u1 a) := by
    rw [pk_ushrN (by omega) 1 1 (by decide), show (1431655765 : Int32) = nI 1431655765 from rfl, nI_and, ← Nat.shiftRight_eq_div_pow, msk 1 1431655765 0x55 0x55 0x55 0x55 a b c d ha hb hc hd (by decide) (by decide) (by decide) rfl rfl rfl rfl, pk_sub (by omega)]
    unfold u1
    congr 1
    omega
  have s2 : (nI (256 * (256 * (256 * u1 d + u1 c) + u1 b) + u1 a) &&& 858993459) + (((Int32.toUInt32 (nI (256 * (256 * (256 * u1 d + u1 c) + u1 b) + u1 a)) >>> (Int32.toUInt32 2 &&& Int32.toUInt32 31)).toInt32) &&& 858993459) = nI (256 * (256 * (256 * u2 d + u2 c) + u2 b) + u2 a) := by
    have k0 := msk 0 858993459 0x33 0x33 0x33 0x33 (u1 a) (u1 b) (u1 c) (u1 d) a2 b2 c2 d2 (by decide) (by decide) (by decide) rfl rfl rfl rfl
    simp only [Nat.shiftRight_zero] at k0
    rw [pk_ushrN (by omega) 2 2 (by decide), show (858993459 : Int32) = nI 858993459 from rfl, nI_and, nI_and, ← Nat.shiftRight_eq_div_pow, msk 2 858993459 0x33 0x33 0x33 0x33 (u1 a) (u1 b) (u1 c) (u1 d) a2 b2 c2 d2 (by decide) (by decide) (by decide) rfl rfl rfl rfl, k0, nI_add]
    unfold u2
    congr 1
    omega
  have s3 : (nI (256 * (256 * (256 * u2 d + u2 c) + u2 b) + u2 a) + ((Int32.toUInt32 (nI (256 * (256 * (256 * u2 d + u2 c) + u2 b) + u2 a)) >>> (Int32.toUInt32 4 &&& Int32.toUInt32 31)).toInt32)) &&& 252645135 = nI (256 * (256 * (256 * pcF 8 d + pcF 8 c) + pcF 8 b) + pcF 8 a) := by
    rw [pk_ushrN (by omega) 4 4 (by decide), nI_add, show (252645135 : Int32) = nI 252645135 from rfl, nI_and]
    have e : 256 * (256 * (256 * u2 d + u2 c) + u2 b) + u2 a + (256 * (256 * (256 * u2 d + u2 c) + u2 b) + u2 a) / 2 ^ 4 = 256 * (256 * (256 * (u2 d + u2 d / 16) + (u2 c + u2 c / 16 + 16 * (u2 d % 16))) + (u2 b + u2 b / 16 + 16 * (u2 c % 16))) + (u2 a + u2 a / 16 + 16 * (u2 b % 16)) := by omega
    rw [e]
    have k0 := msk 0 252645135 15 15 15 15 (u2 a + u2 a / 16 + 16 * (u2 b % 16)) (u2 b + u2 b / 16 + 16 * (u2 c % 16)) (u2 c + u2 c / 16 + 16 * (u2 d % 16)) (u2 d + u2 d / 16) (by omega) (by omega) (by omega) (by omega) (by decide) (by decide) (by decide) rfl rfl rfl rfl
    simp only [Nat.shiftRight_zero] at k0
    have m15 : ∀ x : Nat, x &&& 15 = x % 16 := fun x => Nat.and_two_pow_sub_one_eq_mod x 4
    rw [k0, m15, m15, m15, m15, Nat.add_mul_mod_self_left, Nat.add_mul_mod_self_left, Nat.add_mul_mod_self_left, a4, b4, c4, d4]
  have pa := pcF_le 8 a
  have pb := pcF_le 8 b
  have pc := pcF_le 8 c
  have pd := pcF_le 8 d
  have s4 : nI (256 * (256 * (256 * pcF 8 d + pcF 8 c) + pcF 8 b) + pcF 8 a) + ((Int32.toUInt32 (nI (256 * (256 * (256 * pcF 8 d + pcF 8 c) + pcF 8 b) + pcF 8 a)) >>> (Int32.toUInt32 8 &&& Int32.toUInt32 31)).toInt32) = nI (256 * (256 * (256 * pcF 8 d + (pcF 8 c + pcF 8 d)) + (pcF 8 b + pcF 8 c)) + (pcF 8 a + pcF 8 b)) := by
    rw [pk_ushrN (by omega) 8 8 (by decide), nI_add]
    congr 1
    omega
  have s5 : nI (256 * (256 * (256 * pcF 8 d + (pcF 8 c + pcF 8 d)) + (pcF 8 b + pcF 8 c)) + (pcF 8 a + pcF 8 b)) + ((Int32.toUInt32 (nI (256 * (256 * (256 * pcF 8 d + (pcF 8 c + pcF 8 d)) + (pcF 8 b + pcF 8 c)) + (pcF 8 a + pcF 8 b))) >>> (Int32.toUInt32 16 &&& Int32.toUInt32 31)).toInt32) = nI (256 * (256 * (256 * pcF 8 d + (pcF 8 c + pcF 8 d)) + (pcF 8 b + pcF 8 c + pcF 8 d)) + (pcF 8 a + pcF 8 b + pcF 8 c + pcF 8 d)) := by
    rw [pk_ushrN (by omega) 16 16 (by decide), nI_add]
    congr 1
    omega
  unfold fJ6_bitCount_0f7a4
  simp only [lt_]
  rw [s1, s2, s3, s4, s5, pk_andN (by omega) 6 (by decide)]
  congr 2
  omega
theorem bitsL {n : Nat} {k : Int32 → Int32 → Option Int32} : ∀ (m fu h acc : Nat), h < 2 ^ m → m ≤ 31 → m < fu → fX11_bits_L4 n k fu (nI acc) (nI h) = k (nI (acc + pcF m h)) 0 := by
  intro m
  induction m with
  | zero =>
    intro fu h acc hh _ hfu
    obtain ⟨fu, rfl⟩ : ∃ g, fu = g + 1 := ⟨fu - 1, by omega⟩
    have : h = 0 := by rw [Nat.pow_zero] at hh; omega
    subst this
    rw [fX11_bits_L4, if_pos (by decide), pcF]; rfl
  | succ m ihm =>
    intro fu h acc hh hm hfu
    obtain ⟨fu, rfl⟩ : ∃ g, fu = g + 1 := ⟨fu - 1, by omega⟩
    have hm31 : 2 ^ (m + 1) ≤ 2 ^ 31 := Nat.pow_le_pow_right (by omega) hm
    rcases Nat.eq_zero_or_pos h with e | e
    · subst e
      rw [fX11_bits_L4, if_pos (by decide), pcF_0]; rfl
    · rw [fX11_bits_L4, if_neg (nI_nle e (by omega))]
      simp only [lt_]
      rw [pk_andN (by omega) 1 (by decide), nI_add, pk_shrN (by omega) _ 1 (by decide), ihm fu (h / 2 ^ 1) _ (by rw [Nat.pow_succ] at hh; omega) (by omega) (by omega), pcF, Nat.pow_one, Nat.add_assoc]
theorem bits_nI {n h : Nat} (hn : 5000 ≤ n) (hh : h < 2 ^ 31) : fX11_bits n (nI h) = some (nI (pcF 32 h)) := by
  unfold fX11_bits
  rw [show (0 : Int32) = nI 0 from rfl, bitsL 31 n h 0 hh (by omega) (by omega), pcF_add 31 1, Nat.mod_eq_of_lt hh, Nat.div_eq_of_lt hh, pcF_0, Nat.zero_add, Nat.add_zero]
