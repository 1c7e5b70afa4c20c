/-! the JDK's count of bits is the number of keys that a sender may use -/
def popN (m : Nat) : Nat → Nat
  | 0 => 0
  | q + 1 => popN m q + m / 2 ^ q % 2
def bcA (x : Nat) : Nat := x - (x / 2 &&& 1431655765)
def bcB (x : Nat) : Nat := (x &&& 858993459) + (x / 4 &&& 858993459)
def bcC (x : Nat) : Nat := (x + x / 16) &&& 252645135
def bcD (x : Nat) : Nat := x + x / 256
def bcE (x : Nat) : Nat := x + x / 65536
def bcN (x : Nat) : Nat := bcE (bcD (bcC (bcB (bcA x)))) &&& 63
def pop8 (m s : Nat) : Nat := s + m % 2 + m / 2 % 2 + m / 4 % 2 + m / 8 % 2 + m / 16 % 2 + m / 32 % 2 + m / 64 % 2 + m / 128 % 2
def ckB (h : Nat) : Nat → Bool
  | 0 => true
  | l + 1 => Nat.beq (bcN (2 * (256 * h + l))) (pop8 h (pop8 l 0)) && ckB h l
def ckC (a : Nat) : Nat → Bool
  | 0 => true
  | h + 1 => ckB (a + h) 256 && ckC a h
theorem ckc_1 : ckC 0 64 = true := by decide +kernel
theorem ckc_2 : ckC 64 64 = true := by decide +kernel
theorem ckc_3 : ckC 128 64 = true := by decide +kernel
theorem ckc_4 : ckC 192 64 = true := by decide +kernel
theorem ckB_at {h : Nat} : ∀ n, ckB h n = true → ∀ l, l < n → bcN (2 * (256 * h + l)) = pop8 h (pop8 l 0) := by
  intro n
  induction n with
  | zero => intro _ l hl; omega
  | succ n ih =>
    intro hc l hl
    rw [ckB, Bool.and_eq_true] at hc
    by_cases e : l = n
    · subst e; exact Nat.eq_of_beq_eq_true hc.1
    · exact ih hc.2 l (by omega)
theorem ckC_at {a : Nat} : ∀ n, ckC a n = true → ∀ h, h < n → ckB (a + h) 256 = true := by
  intro n
  induction n with
  | zero => intro _ l hl; omega
  | succ n ih =>
    intro hc l hl
    rw [ckC, Bool.and_eq_true] at hc
    by_cases e : l = n
    · subst e; exact hc.1
    · exact ih hc.2 l (by omega)
theorem ckB_256 {h : Nat} (hh : h < 256) : ckB h 256 = true := by
  rcases Nat.lt_or_ge h 64 with g | g
  · have := ckC_at 64 ckc_1 h g; rwa [Nat.zero_add] at this
  rcases Nat.lt_or_ge h 128 with g2 | g2
  · have := ckC_at 64 ckc_2 (h - 64) (by omega); rwa [show 64 + (h - 64) = h by omega] at this
  rcases Nat.lt_or_ge h 192 with g3 | g3
  · have := ckC_at 64 ckc_3 (h - 128) (by omega); rwa [show 128 + (h - 128) = h by omega] at this
  · have := ckC_at 64 ckc_4 (h - 192) (by omega); rwa [show 192 + (h - 192) = h by omega] at this
theorem pop_16 (m : Nat) : popN m 16 = pop8 (m / 256) (pop8 (m % 256) 0) := by
  have a0 : m % 256 % 2 = m % 2 := by omega
  have a1 : m % 256 / 2 % 2 = m / 2 % 2 := by omega
  have c1 : m / 256 / 2 % 2 = m / 512 % 2 := by omega
  have a2 : m % 256 / 4 % 2 = m / 4 % 2 := by omega
  have c2 : m / 256 / 4 % 2 = m / 1024 % 2 := by omega
  have a3 : m % 256 / 8 % 2 = m / 8 % 2 := by omega
  have c3 : m / 256 / 8 % 2 = m / 2048 % 2 := by omega
  have a4 : m % 256 / 16 % 2 = m / 16 % 2 := by omega
  have c4 : m / 256 / 16 % 2 = m / 4096 % 2 := by omega
  have a5 : m % 256 / 32 % 2 = m / 32 % 2 := by omega
  have c5 : m / 256 / 32 % 2 = m / 8192 % 2 := by omega
  have a6 : m % 256 / 64 % 2 = m / 64 % 2 := by omega
  have c6 : m / 256 / 64 % 2 = m / 16384 % 2 := by omega
  have a7 : m % 256 / 128 % 2 = m / 128 % 2 := by omega
  have c7 : m / 256 / 128 % 2 = m / 32768 % 2 := by omega
  simp only [popN, pop8, a0, a1, c1, a2, c2, a3, c3, a4, c4, a5, c5, a6, c6, a7, c7, Nat.reducePow, Nat.div_one]
theorem bcN_ok {m : Nat} (hm : m < 65536) : bcN (2 * m) = popN m 16 := by
  have h := ckB_at 256 (ckB_256 (show m / 256 < 256 by omega)) (m % 256) (by omega)
  rw [show 256 * (m / 256) + m % 256 = m by omega] at h
  rw [h, pop_16]
theorem ush_n {n : Nat} (hn : n < 2 ^ 32) {k : Nat} (hk : k < 32) : ush (nI n) k = nI (n / 2 ^ k) := by
  unfold ush
  exact pk_ushrN hn _ k (s_u k hk)
theorem bc_nI {x : Nat} (hx : x < 131072) : bc (nI x) = nI (bcN x) := by
  unfold bcN
  have l1 : x / 2 &&& 1431655765 ≤ x / 2 := Nat.and_le_left
  have e1 : bc1 (nI x) = nI (bcA x) := by
    unfold bc1 bcA
    rw [ush_n (by omega) (by omega)]
    show nI x - (nI (x / 2 ^ 1) &&& nI 1431655765) = _
    rw [nx_and, Nat.pow_one, pk_sub (by omega)]
  have b1 : bcA x < 131072 := by unfold bcA; omega
  generalize bcA x = a at e1 b1
  have l2 : a &&& 858993459 ≤ a := Nat.and_le_left
  have l3 : a / 4 &&& 858993459 ≤ a / 4 := Nat.and_le_left
  have e2 : bc2 (nI a) = nI (bcB a) := by
    unfold bc2 bcB
    rw [ush_n (by omega) (by omega)]
    show (nI a &&& nI 858993459) + (nI (a / 2 ^ 2) &&& nI 858993459) = _
    rw [nx_and, nx_and, nI_add]
  have b2' : bcB a < 262144 := by unfold bcB; omega
  generalize bcB a = b at e2 b2'
  have l4 : (b + b / 16) &&& 252645135 ≤ b + b / 16 := Nat.and_le_left
  have e3 : bc3 (nI b) = nI (bcC b) := by
    unfold bc3 bcC
    rw [ush_n (by omega) (by omega)]
    show (nI b + nI (b / 2 ^ 4)) &&& nI 252645135 = _
    rw [nI_add, nx_and]
  have b3 : bcC b < 524288 := by unfold bcC; omega
  generalize bcC b = c at e3 b3
  have e4 : bc4 (nI c) = nI (bcD c) := by
    unfold bc4 bcD
    rw [ush_n (by omega) (by omega), nI_add]
  have b4 : bcD c < 1048576 := by unfold bcD; omega
  generalize bcD c = d at e4 b4
  have e5 : bc5 (nI d) = nI (bcE d) := by
    unfold bc5 bcE
    rw [ush_n (by omega) (by omega), nI_add]
  unfold bc
  rw [e1, e2, e3, e4, e5, nx_and]
theorem cn8_pop {m : Nat} (hm : m < 65536) : ∀ q, q ≤ 16 → cn8 (nI (2 * m)) q = popN m q := by
  intro q
  induction q with
  | zero => intro _; rfl
  | succ q ih =>
    intro hq
    rw [cn8, popN, ih (by omega), mayB_bt _ (by omega)]
    congr 1
    have e : bt (nI (2 * m)) (q + 1) = m.testBit q := by
      show (BitVec.ofNat 32 (2 * m)).getLsbD (q + 1) = _
      rw [BitVec.getLsbD_ofNat, decide_eq_true (by omega), Bool.true_and, Nat.testBit_succ, Nat.mul_div_cancel_left _ (by decide)]
    rw [e, Nat.testBit_eq_decide_div_mod_eq]
    have h2 : m / 2 ^ q % 2 = 0 ∨ m / 2 ^ q % 2 = 1 := by omega
    rcases h2 with h | h <;> rw [h] <;> rfl
theorem bc_cn8 {x : Int32} (h : slO x) : bc x = nI (cn8 x 16) := by
  obtain ⟨m, hm, rfl⟩ := h
  rw [bc_nI (by omega), bcN_ok hm, cn8_pop hm 16 (Nat.le_refl _)]
