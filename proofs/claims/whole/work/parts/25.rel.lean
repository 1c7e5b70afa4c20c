/-! what the reference's rows hold, in the class's words -/
def MK (foc fnx : Nat → Int32) (fis : Nat → Int64) (nk : Nat) (ko : Nat → Nat → Int32) (kn : Nat → Nat) (kc : Nat → Int64) : Prop :=
  (∀ i, i < nk → (∀ j, j < 16 → foc (16 * (i + 1) + j) = ko i j ∧ isO (ko i j)) ∧ fnx (i + 1) = nI (kn i % 16) ∧ fis (i + 1) = kc i) ∧ ∀ i, nk ≤ i → i < 16 → (∀ j, j < 16 → foc (16 * (i + 1) + j) = 0) ∧ fnx (i + 1) = 0 ∧ fis (i + 1) = 0
theorem MK_new {foc fnx : Nat → Int32} {fis : Nat → Int64} {nk : Nat} {ko : Nat → Nat → Int32} {kn : Nat → Nat} {kc : Nat → Int64} (h : MK foc fnx fis nk ko kn kc) (hn : nk < 16) : MK foc fnx fis (nk + 1) (va_up ko nk (fun _ => 0)) (va_up kn nk 0) (va_up kc nk 0) := by
  refine ⟨fun i hi => ?_, fun i h1 h2 => h.2 i (by omega) h2⟩
  by_cases e : i = nk
  · subst e
    obtain ⟨a, b, c⟩ := h.2 i (Nat.le_refl _) hn
    rw [va_up_self, va_up_self, va_up_self]
    exact ⟨fun j hj => ⟨a j hj, isO_n (n := 0) (by decide)⟩, b, c⟩
  · rw [va_up_ne _ _ e, va_up_ne _ _ e, va_up_ne _ _ e]
    exact h.1 i (by omega)
theorem MK_kb {foc fnx : Nat → Int32} {fis : Nat → Int64} {nk : Nat} {ko : Nat → Nat → Int32} {kn : Nat → Nat} {kc : Nat → Int64} (h : MK foc fnx fis nk ko kn kc) {i : Nat} (hi : i < nk) (hn : nk ≤ 16) (b : Int32) :
    MK (upd foc (16 * (i + 1) + kn i % 16) (b &&& nI 255)) (upd fnx (i + 1) (nI ((kn i % 16 + 1) % 16))) fis nk (va_up ko i (upd (ko i) (kn i % 16) (b &&& nI 255))) (va_up kn i (kn i % 16 + 1)) kc := by
  refine ⟨fun q hq => ?_, fun q h1 h2 => ?_⟩
  · by_cases e : q = i
    · subst e
      rw [va_up_self, va_up_self, pk_us]
      refine ⟨fun j hj => ?_, rfl, (h.1 q hq).2.2⟩
      by_cases e2 : j = kn q % 16
      · rw [e2, pk_us, pk_us]
        exact ⟨rfl, isO_and _⟩
      · rw [pk_un (by omega), pk_un e2]
        exact (h.1 q hq).1 j hj
    · rw [va_up_ne _ _ e, va_up_ne _ _ e, pk_un (by omega)]
      refine ⟨fun j hj => ?_, (h.1 q hq).2⟩
      rw [pk_un (by omega)]
      exact (h.1 q hq).1 j hj
  · rw [pk_un (by omega)]
    refine ⟨fun j hj => ?_, (h.2 q h1 h2).2⟩
    rw [pk_un (by omega)]
    exact (h.2 q h1 h2).1 j hj
theorem MK_in {foc foc1 fnx : Nat → Int32} {fis : Nat → Int64} {nk : Nat} {ko : Nat → Nat → Int32} {kn : Nat → Nat} {kc : Nat → Int64} (h : MK foc fnx fis nk ko kn kc) {i : Nat} (hi : i < nk) (K' : Nat → Int32) (c : Int64) (hK : ∀ j, j < 16 → foc1 (16 * (i + 1) + j) = K' j ∧ isO (K' j)) (ho : ∀ p, p < 16 * (i + 1) ∨ 16 * (i + 1) + 16 ≤ p → foc1 p = foc p) :
    MK foc1 (upd fnx (i + 1) (nI 0)) (vp_updL fis (i + 1) c) nk (va_up ko i K') (va_up kn i 0) (va_up kc i c) := by
  refine ⟨fun q hq => ?_, fun q h1 h2 => ?_⟩
  · by_cases e : q = i
    · subst e
      rw [va_up_self, va_up_self, va_up_self, pk_us, pk_uLs]
      exact ⟨hK, rfl, rfl⟩
    · rw [va_up_ne _ _ e, va_up_ne _ _ e, va_up_ne _ _ e, pk_un (by omega), pk_uLn (by omega)]
      refine ⟨fun j hj => ?_, (h.1 q hq).2⟩
      rw [ho _ (by omega)]
      exact (h.1 q hq).1 j hj
  · rw [pk_un (by omega), pk_uLn (by omega)]
    refine ⟨fun j hj => ?_, (h.2 q h1 h2).2⟩
    rw [ho _ (by omega)]
    exact (h.2 q h1 h2).1 j hj
def MS (fco : Nat → Int64) (fbd fmy : Nat → Int32) (sc : Nat → Int64) (sb : Nat → Nat) (sl : Nat → Int32) : Prop := ∀ j, j < 64 → fco (j + 1) = sc j ∧ fbd (j + 1) = nI (sb j) ∧ ∀ i, i < 16 → fmy (17 * (j + 1) + (i + 1)) = b2 (mayB (sl j) (nI (i + 1)))
theorem MS_cb {fco : Nat → Int64} {fbd fmy : Nat → Int32} {sc : Nat → Int64} {sb : Nat → Nat} {sl : Nat → Int32} (h : MS fco fbd fmy sc sb sl) {j : Nat} (c : Int64) (b : Nat) : MS (vp_updL fco (j + 1) c) (upd fbd (j + 1) (nI b)) fmy (va_up sc j c) (va_up sb j b) sl := by
  intro q hq
  by_cases e : q = j
  · subst e
    rw [pk_uLs, pk_us, va_up_self, va_up_self]
    exact ⟨rfl, rfl, (h q hq).2.2⟩
  · rw [pk_uLn (by omega), pk_un (by omega), va_up_ne _ _ e, va_up_ne _ _ e]
    exact h q hq
theorem MS_c {fco : Nat → Int64} {fbd fmy : Nat → Int32} {sc : Nat → Int64} {sb : Nat → Nat} {sl : Nat → Int32} (h : MS fco fbd fmy sc sb sl) {j : Nat} (c : Int64) : MS (vp_updL fco (j + 1) c) fbd fmy (va_up sc j c) sb sl := by
  intro q hq
  by_cases e : q = j
  · subst e
    rw [pk_uLs, va_up_self]
    exact ⟨rfl, (h q hq).2⟩
  · rw [pk_uLn (by omega), va_up_ne _ _ e]
    exact h q hq
theorem l_nle {a b : Int64} (h : ¬ a ≤ b) : b < a := by
  rw [Int64.le_iff_toInt_le] at h
  rw [Int64.lt_iff_toInt_lt]
  omega
theorem l_nlt {a b : Int64} (h : a ≤ b) : ¬ b < a := by
  rw [Int64.le_iff_toInt_le] at h
  rw [Int64.lt_iff_toInt_lt]
  omega
/-! bits of the list of who may -/
theorem b_one {p i : Nat} (hp : p < 32) (hi : i < 32) : bt (nI 1 <<< (nI p &&& 31)) i = decide (i = p) := by
  rw [b_shl p hp _ hi]
  have e : ∀ q, q < 32 → bt (nI 1) q = decide (q = 0) := by decide +kernel
  rw [e (i - p) (by omega)]
  by_cases h : i = p
  · subst h; simp
  · by_cases h2 : p ≤ i
    · rw [decide_eq_true h2, decide_eq_false (by omega), decide_eq_false h]; rfl
    · rw [decide_eq_false h2, decide_eq_false h]; rfl
theorem mayB_bt (al : Int32) {p : Nat} (hp : p < 32) : mayB al (nI p) = bt al p := by
  unfold mayB
  cases hb : bt al p with
  | true =>
    rw [decide_eq_true]
    intro h
    have := congrArg (fun x => bt x p) h
    simp only [b_and, b_one hp hp, hb, b_0] at this
    simp at this
  | false =>
    rw [decide_eq_false]
    intro h
    apply h
    apply b_ext
    intro i hi
    rw [b_and, b_one hp hi, b_0]
    by_cases e : i = p
    · subst e; rw [hb]; rfl
    · rw [decide_eq_false e, Bool.and_false]
theorem alw_bt (al : Int32) {p i : Nat} (on : Bool) (hp : p < 32) (hi : i < 32) : bt (alw al (nI p) on) i = if i = p then on else bt al i := by
  unfold alw
  cases on with
  | true =>
    rw [if_pos rfl, b_or, b_one hp hi]
    by_cases e : i = p
    · rw [decide_eq_true e, if_pos e, Bool.or_true]
    · rw [decide_eq_false e, if_neg e, Bool.or_false]
  | false =>
    rw [if_neg Bool.false_ne_true, b_and, b_xor, b_one hp hi, b_m1 i hi]
    by_cases e : i = p
    · rw [decide_eq_true e, if_pos e]; simp
    · rw [decide_eq_false e, if_neg e]; simp
theorem MS_m {fco : Nat → Int64} {fbd fmy : Nat → Int32} {sc : Nat → Int64} {sb : Nat → Nat} {sl : Nat → Int32} (h : MS fco fbd fmy sc sb sl) {j i : Nat} (hi : i < 16) (on : Bool) : MS fco fbd (upd fmy (17 * (j + 1) + (i + 1)) (b2 on)) sc sb (va_up sl j (alw (sl j) (nI (i + 1)) on)) := by
  intro q hq
  refine ⟨(h q hq).1, (h q hq).2.1, fun p hp => ?_⟩
  by_cases e : q = j
  · subst e
    rw [va_up_self, mayB_bt _ (by omega), alw_bt _ _ (by omega) (by omega)]
    by_cases e2 : p = i
    · subst e2; rw [pk_us, if_pos rfl]
    · rw [pk_un (by omega), if_neg (by omega), (h q hq).2.2 p hp, mayB_bt _ (by omega)]
  · rw [va_up_ne _ _ e, pk_un (by omega)]
    exact (h q hq).2.2 p hp
theorem nar_b2 (b : Bool) : vp_nar .boolean (b2 b) = b2 b := by cases b <;> rfl
/-- how many of the first q keys -/
def cn8 (sl : Int32) : Nat → Nat
  | 0 => 0
  | q + 1 => cn8 sl q + (if mayB sl (nI (q + 1)) then 1 else 0)
theorem cn8_le (sl : Int32) : ∀ q, cn8 sl q ≤ q := by
  intro q
  induction q with
  | zero => exact Nat.le_refl _
  | succ q ih => rw [cn8]; split <;> omega
def slO (x : Int32) : Prop := ∃ m, m < 65536 ∧ x = nI (2 * m)
theorem slO_bt {x : Int32} : slO x ↔ (bt x 0 = false ∧ ∀ i, i < 32 → 17 ≤ i → bt x i = false) := by
  constructor
  · rintro ⟨m, hm, rfl⟩
    have e : ∀ i, i < 32 → bt (nI (2 * m)) i = (2 * m).testBit i := by
      intro i hi
      show (BitVec.ofNat 32 (2 * m)).getLsbD i = _
      rw [BitVec.getLsbD_ofNat, decide_eq_true hi, Bool.true_and]
    refine ⟨?_, fun i hi h => ?_⟩
    · rw [e 0 (by omega), Nat.testBit_zero]; simp
    · rw [e i hi]
      exact Nat.testBit_lt_two_pow (Nat.lt_of_lt_of_le (show 2 * m < 2 ^ 17 by omega) (Nat.pow_le_pow_right (by decide) h))
  · rintro ⟨h0, h⟩
    have hlt : x.toBitVec.toNat < 2 ^ 17 := by
      apply Nat.lt_pow_two_of_testBit
      intro i hi
      rcases Nat.lt_or_ge i 32 with h3 | h3
      · exact h i h3 hi
      · exact Nat.testBit_lt_two_pow (Nat.lt_of_lt_of_le x.toBitVec.isLt (Nat.pow_le_pow_right (by decide) h3))
    have hev : x.toBitVec.toNat % 2 = 0 := by
      have h1 : x.toBitVec.toNat.testBit 0 = false := h0
      rw [Nat.testBit_zero] at h1
      have := of_decide_eq_false h1
      omega
    refine ⟨x.toBitVec.toNat / 2, by omega, ?_⟩
    apply Int32.toBitVec_inj.mp
    apply BitVec.eq_of_toNat_eq
    rw [pk_tn (by omega)]
    omega
theorem alw_slO {al : Int32} (h : slO al) {i : Nat} (hi : i < 16) (on : Bool) : slO (alw al (nI (i + 1)) on) := by
  rw [slO_bt] at h ⊢
  refine ⟨?_, fun q hq h2 => ?_⟩
  · rw [alw_bt _ _ (by omega) (by omega), if_neg (by omega)]; exact h.1
  · rw [alw_bt _ _ (by omega) hq, if_neg (by omega)]; exact h.2 q hq h2
