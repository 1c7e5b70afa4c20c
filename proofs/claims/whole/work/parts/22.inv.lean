/-! the reference's substitutes: the inverse is found by trying one number after the other -/
def xtN (p : Nat) : Nat := if p ≤ 127 then 2 * p else (2 * p - 256) ^^^ 27
def prA : Nat → Nat → Nat → Nat → Nat
  | 0, _, _, s => s
  | k + 1, y, p, s => prA k (y / 2) (xtN p) (if y % 2 = 1 then s ^^^ p else s)
def ivL : List Nat := [0, 1, 141, 246, 203, 82, 123, 209, 232, 79, 41, 192, 176, 225, 229, 199, 116, 180, 170, 75, 153, 43, 96, 95, 88, 63, 253, 204, 255, 64, 238, 178, 58, 110, 90, 241, 85, 77, 168, 201, 193, 10, 152, 21, 48, 68, 162, 194, 44, 69, 146, 108, 243, 57, 102, 66, 242, 53, 32, 111, 119, 187, 89, 25, 29, 254, 55, 103, 45, 49, 245, 105, 167, 100, 171, 19, 84, 37, 233, 9, 237, 92, 5, 202, 76, 36, 135, 191, 24, 62, 34, 240, 81, 236, 97, 23, 22, 94, 175, 211, 73, 166, 54, 67, 244, 71, 145, 223, 51, 147, 33, 59, 121, 183, 151, 133, 16, 181, 186, 60, 182, 112, 208, 6, 161, 250, 129, 130, 131, 126, 127, 128, 150, 115, 190, 86, 155, 158, 149, 217, 247, 2, 185, 164, 222, 106, 50, 109, 216, 138, 132, 114, 42, 20, 159, 136, 249, 220, 137, 154, 251, 124, 46, 195, 143, 184, 101, 72, 38, 200, 18, 74, 206, 231, 210, 98, 12, 224, 31, 239, 17, 117, 120, 113, 165, 142, 118, 61, 189, 188, 134, 87, 11, 40, 47, 163, 218, 212, 228, 15, 169, 39, 83, 4, 27, 252, 172, 230, 122, 7, 174, 99, 197, 219, 226, 234, 148, 139, 196, 213, 157, 248, 144, 107, 177, 13, 214, 235, 198, 14, 207, 173, 8, 78, 215, 227, 93, 80, 30, 179, 91, 35, 56, 52, 104, 70, 3, 140, 221, 156, 125, 160, 205, 26, 65, 28]
def iv (n : Nat) : Nat := ivL.getD n 0
def ckI (n : Nat) : Nat → Bool
  | 0 => true
  | y + 1 => (!(Nat.beq (prA 8 y n 0) 1)) && ckI n y
def ckA (a : Nat) : Nat → Bool
  | 0 => true
  | n + 1 => (Nat.beq (prA 8 (iv (a + n)) (a + n) 0) 1) && (Nat.ble (iv (a + n)) 255 && (ckI (a + n) (iv (a + n)) && ckA a n))
theorem ck_1 : ckA 1 63 = true := by decide +kernel
theorem ck_2 : ckA 64 64 = true := by decide +kernel
theorem ck_3 : ckA 128 64 = true := by decide +kernel
theorem ck_4 : ckA 192 64 = true := by decide +kernel
theorem ckI_at {n : Nat} : ∀ m, ckI n m = true → ∀ y, y < m → prA 8 y n 0 ≠ 1 := by
  intro m
  induction m with
  | zero => intro _ y hy; omega
  | succ m ih =>
    intro h y hy e
    rw [ckI, Bool.and_eq_true, Bool.not_eq_true'] at h
    by_cases hm : y = m
    · subst hm
      rw [e] at h
      exact absurd h.1 (by decide)
    · exact ih h.2 y (by omega) e
theorem ckA_at {a : Nat} : ∀ m, ckA a m = true → ∀ n, n < m → prA 8 (iv (a + n)) (a + n) 0 = 1 ∧ iv (a + n) ≤ 255 ∧ ∀ y, y < iv (a + n) → prA 8 y (a + n) 0 ≠ 1 := by
  intro m
  induction m with
  | zero => intro _ n hn; omega
  | succ m ih =>
    intro h n hn
    rw [ckA, Bool.and_eq_true, Bool.and_eq_true, Bool.and_eq_true] at h
    by_cases hm : n = m
    · subst hm
      exact ⟨Nat.eq_of_beq_eq_true h.1, Nat.le_of_ble_eq_true h.2.1, ckI_at _ h.2.2.1⟩
    · exact ih h.2.2.2 n (by omega)
theorem iv_ok {n : Nat} (h0 : 0 < n) (hn : n < 256) : prA 8 (iv n) n 0 = 1 ∧ iv n ≤ 255 ∧ ∀ y, y < iv n → prA 8 y n 0 ≠ 1 := by
  rcases Nat.lt_or_ge n 64 with h | h
  · have := ckA_at 63 ck_1 (n - 1) (by omega); rwa [show 1 + (n - 1) = n by omega] at this
  rcases Nat.lt_or_ge n 128 with h2 | h2
  · have := ckA_at 64 ck_2 (n - 64) (by omega); rwa [show 64 + (n - 64) = n by omega] at this
  rcases Nat.lt_or_ge n 192 with h3 | h3
  · have := ckA_at 64 ck_3 (n - 128) (by omega); rwa [show 128 + (n - 128) = n by omega] at this
  · have := ckA_at 64 ck_4 (n - 192) (by omega); rwa [show 192 + (n - 192) = n by omega] at this
theorem xtN_lt {p : Nat} (h : p < 256) : xtN p < 256 := by
  unfold xtN
  split
  · omega
  · exact Nat.xor_lt_two_pow (n := 8) (by omega) (by decide)
theorem xt_nI {p : Nat} (h : p < 256) : (if nI p ≤ nI 127 then nI 2 * nI p else (nI 2 * nI p - nI 256) ^^^ nI 27) = nI (xtN p) := by
  unfold xtN
  by_cases h1 : p ≤ 127
  · rw [if_pos ((nI_leI (by omega) (by decide)).mpr h1), if_pos h1, pk_mul]
  · rw [if_neg (fun z => h1 ((nI_leI (by omega) (by decide)).mp z)), if_neg h1, pk_mul, pk_sub (by omega), nx_xor]
theorem bit_nI {y k : Nat} (hy : y < 256) (hk : k < 8) : ((nI y >>> (nI k &&& 31)) &&& nI 1 = nI 1) ↔ y / 2 ^ k % 2 = 1 := by
  rw [pk_shrN (by omega) _ k (by rw [s_l k (by omega)])]
  have hd : y / 2 ^ k < 2 ^ 32 := Nat.lt_of_le_of_lt (Nat.div_le_self _ _) (by omega)
  rw [pk_andN hd 1 (by decide), nI_eq (by omega) (by decide), Nat.pow_one]
theorem prA_prS {x y : Nat} (hx : x < 256) (hy : y < 256) : ∀ k j p s, j + k = 8 → p < 256 → s < 256 → prS (nI x) (nI y) j = (nI s, nI p) → prA k (y / 2 ^ j) p s < 256 ∧ (prS (nI x) (nI y) 8).1 = nI (prA k (y / 2 ^ j) p s) := by
  intro k
  induction k with
  | zero =>
    intro j p s hj hp hs h
    obtain rfl : j = 8 := by omega
    rw [h]
    exact ⟨hs, rfl⟩
  | succ k ih =>
    intro j p s hj hp hs h
    rw [prA, Nat.div_div_eq_div_mul, ← Nat.pow_succ]
    refine ih (j + 1) (xtN p) (if y / 2 ^ j % 2 = 1 then s ^^^ p else s) (by omega) (xtN_lt hp) ?_ ?_
    · split
      · exact Nat.xor_lt_two_pow (n := 8) hs hp
      · exact hs
    · rw [prS, h]
      show (if (nI y >>> (nI j &&& 31)) &&& nI 1 = nI 1 then nI s ^^^ nI p else nI s, if nI p ≤ nI 127 then nI 2 * nI p else (nI 2 * nI p - nI 256) ^^^ nI 27) = _
      rw [xt_nI hp]
      by_cases hb : y / 2 ^ j % 2 = 1
      · rw [if_pos ((bit_nI hy (by omega)).mpr hb), if_pos hb, nx_xor]
      · rw [if_neg (fun z => hb ((bit_nI hy (by omega)).mp z)), if_neg hb]
theorem pr_nI {x y : Nat} (hx : x < 256) (hy : y < 256) : prA 8 y x 0 < 256 ∧ pr (nI x) (nI y) = nI (prA 8 y x 0) := by
  have := prA_prS hx hy 8 0 x 0 rfl hx (by decide) rfl
  rwa [Nat.pow_zero, Nat.div_one] at this
/-- the search stands at y: it isn't the inverse yet, or it is -/
theorem iv_lt {n y : Nat} (h0 : 0 < n) (hn : n < 256) (hy : y ≤ iv n) (h : ¬ pr (nI n) (nI y) = nI 1) : y < iv n := by
  rcases Nat.lt_or_ge y (iv n) with g | g
  · exact g
  · obtain rfl : y = iv n := by omega
    have hk := iv_ok h0 hn
    exact absurd (by rw [(pr_nI hn (by omega)).2, hk.1]) h
theorem iv_eq {n y : Nat} (h0 : 0 < n) (hn : n < 256) (hy : y ≤ iv n) (h : pr (nI n) (nI y) = nI 1) : y = iv n := by
  have hk := iv_ok h0 hn
  rcases Nat.lt_or_ge y (iv n) with g | g
  · have h1 := pr_nI hn (show y < 256 by omega)
    rw [h1.2, nI_eq (by omega) (by decide)] at h
    exact absurd h (hk.2.2 y g)
  · omega
def zS (y : Int32) : Nat → Int32
  | 0 => nI 99
  | k + 1 => zS y k ^^^ (((y <<< (nI k &&& 31)) ||| (y >>> (nI (8 - k) &&& 31))) &&& nI 255)
theorem zS_TB : ∀ n, n < 256 → zS (nI (iv n)) 5 = TB n := by decide +kernel
