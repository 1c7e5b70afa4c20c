/-! ===== Int32 by its bits: bt x i ===== -/
def bt (x : Int32) (i : Nat) : Bool := x.toBitVec.getLsbD i
theorem b_ext {x y : Int32} (h : ∀ i, i < 32 → bt x i = bt y i) : x = y := Int32.toBitVec_inj.mp (BitVec.eq_of_getLsbD_eq (fun i hi => h i hi))
theorem b_or (x y : Int32) (i : Nat) : bt (x ||| y) i = (bt x i || bt y i) := by unfold bt; rw [Int32.toBitVec_or, BitVec.getLsbD_or]
theorem b_and (x y : Int32) (i : Nat) : bt (x &&& y) i = (bt x i && bt y i) := by unfold bt; rw [Int32.toBitVec_and, BitVec.getLsbD_and]
theorem b_xor (x y : Int32) (i : Nat) : bt (x ^^^ y) i = (bt x i ^^ bt y i) := by unfold bt; rw [Int32.toBitVec_xor, BitVec.getLsbD_xor]
theorem b_big {x : Int32} {i : Nat} (h : 32 ≤ i) : bt x i = false := BitVec.getLsbD_of_ge _ _ h
theorem b_255 (i : Nat) : bt 255 i = decide (i < 8) := by
  rcases Nat.lt_or_ge i 32 with h | h
  · exact (by decide +kernel : ∀ i, i < 32 → bt 255 i = decide (i < 8)) i h
  · rw [b_big h, decide_eq_false (by omega)]
theorem b_65535 (i : Nat) : bt 65535 i = decide (i < 16) := by
  rcases Nat.lt_or_ge i 32 with h | h
  · exact (by decide +kernel : ∀ i, i < 32 → bt 65535 i = decide (i < 16)) i h
  · rw [b_big h, decide_eq_false (by omega)]
theorem b_m1 : ∀ i, i < 32 → bt (-1) i = true := by decide +kernel
theorem b_0 (i : Nat) : bt 0 i = false := BitVec.getLsbD_zero
theorem s_l : ∀ n, n < 32 → ((nI n &&& 31).toBitVec.smod 32).toNat = n := by decide +kernel
theorem s_u : ∀ n, n < 32 → (((nI n).toUInt32 &&& Int32.toUInt32 31).toBitVec % 32).toNat = n := by decide +kernel
theorem b_shl (n : Nat) (hn : n < 32) (x : Int32) {i : Nat} (hi : i < 32) : bt (x <<< (nI n &&& 31)) i = (decide (n ≤ i) && bt x (i - n)) := by
  unfold bt
  rw [Int32.toBitVec_shiftLeft]
  show (x.toBitVec <<< ((nI n &&& 31).toBitVec.smod 32).toNat).getLsbD i = _
  rw [s_l n hn, BitVec.getLsbD_shiftLeft]
  rcases Nat.lt_or_ge i n with h | h
  · simp [h, Nat.not_le.mpr h]
  · simp [hi, h, Nat.not_lt.mpr h]
theorem b_ushr (n : Nat) (hn : n < 32) (x : Int32) (i : Nat) : bt ((x.toUInt32 >>> ((nI n).toUInt32 &&& Int32.toUInt32 31)).toInt32) i = bt x (n + i) := by
  show (x.toUInt32 >>> ((nI n).toUInt32 &&& Int32.toUInt32 31)).toBitVec.getLsbD i = x.toUInt32.toBitVec.getLsbD (n + i)
  rw [UInt32.toBitVec_shiftRight]
  show (x.toUInt32.toBitVec >>> (((nI n).toUInt32 &&& Int32.toUInt32 31).toBitVec % 32).toNat).getLsbD i = _
  rw [s_u n hn, BitVec.getLsbD_ushiftRight]
theorem b_sshr (n : Nat) (hn : n < 32) (x : Int32) {i : Nat} (hi : i < 32) : bt (x >>> (nI n &&& 31)) i = if n + i < 32 then bt x (n + i) else bt x 31 := by
  unfold bt
  rw [Int32.toBitVec_shiftRight]
  show (x.toBitVec.sshiftRight ((nI n &&& 31).toBitVec.smod 32).toNat).getLsbD i = _
  rw [s_l n hn, BitVec.getLsbD_sshiftRight, BitVec.msb_eq_getLsbD_last]
  simp [hi]
theorem b_shl8 (x : Int32) {i : Nat} (hi : i < 32) : bt (x <<< ((8 : Int32) &&& 31)) i = (decide (8 ≤ i) && bt x (i - 8)) := b_shl 8 (by omega) x hi
theorem b_shl16 (x : Int32) {i : Nat} (hi : i < 32) : bt (x <<< ((16 : Int32) &&& 31)) i = (decide (16 ≤ i) && bt x (i - 16)) := b_shl 16 (by omega) x hi
theorem b_shl24 (x : Int32) {i : Nat} (hi : i < 32) : bt (x <<< ((24 : Int32) &&& 31)) i = (decide (24 ≤ i) && bt x (i - 24)) := b_shl 24 (by omega) x hi
theorem b_sshr8 (x : Int32) {i : Nat} (hi : i < 32) : bt (x >>> ((8 : Int32) &&& 31)) i = if 8 + i < 32 then bt x (8 + i) else bt x 31 := b_sshr 8 (by omega) x hi
/-! ===== nI under and, xor, >>>, one bit, 65535 ===== -/
theorem nx_and (a b : Nat) : nI a &&& nI b = nI (a &&& b) := by
  apply Int32.toBitVec_inj.1
  show BitVec.ofNat 32 a &&& BitVec.ofNat 32 b = BitVec.ofNat 32 (a &&& b)
  apply BitVec.eq_of_getLsbD_eq
  intro i hi
  simp [hi]
theorem nx_xor (a b : Nat) : nI a ^^^ nI b = nI (a ^^^ b) := by
  apply Int32.toBitVec_inj.1
  show BitVec.ofNat 32 a ^^^ BitVec.ofNat 32 b = BitVec.ofNat 32 (a ^^^ b)
  apply BitVec.eq_of_getLsbD_eq
  intro i hi
  simp [hi]
/-! cells that hold the same are the same -/
theorem vc_i {cA : ClassId} {n : Nat} {f f' : Nat → Int32} (h : ∀ j, j < n → f j = f' j) : vp_cell cA (n, .inl f) = vp_cell cA (n, .inl f') := by
  rw [vp_cell_i, vp_cell_i]
  unfold arrV
  congr 2
  funext j
  show _ = _
  dsimp only
  rw [h j.val j.isLt]
theorem vc_l {cA : ClassId} {n : Nat} {f f' : Nat → Int64} (h : ∀ j, j < n → f j = f' j) : vp_cell cA (n, .inr (.inl f)) = vp_cell cA (n, .inr (.inl f')) := by
  rw [vp_cell_l, vp_cell_l]
  unfold arrV
  congr 2
  funext j
  show _ = _
  dsimp only
  rw [h j.val j.isLt]
theorem vc_q {cA : ClassId} {n : Nat} {f f' : Nat → Option Nat} (h : ∀ j, j < n → f j = f' j) : vp_cell cA (n, .inr (.inr (.inr (.inr f)))) = vp_cell cA (n, .inr (.inr (.inr (.inr f')))) := by
  rw [vp_cell_q, vp_cell_q]
  unfold arrV
  congr 2
  funext j
  show _ = _
  dsimp only
  rw [h j.val j.isLt]
section
variable {g : Gm} {u : Mu} {E : Ev} {A : Nat → Prop} {ce sl : Nat} {Q : State → Prop} {X : va_W} {L : List Nat} {F : Nat → va_E} {pc : Nat} {lv : List (Nat × Value)} {st : List Value}
theorem g_cgA (q : Nat) {a : Nat} {cA : ClassId} {x y : vp_A} (he : X[q]? = some (a, .inl (cA, x))) (h : vp_cell cA x = vp_cell cA y) {X' : va_W} (hX : X.set q (a, .inl (cA, y)) = X') (k : G g u E A ce sl Q X' L F pc lv st) : G g u E A ce sl Q X L F pc lv st := fun H locs ls hw hl => by
  refine k H locs ls ?_ hl
  rw [← hX, ← xS he]
  refine ⟨hw.1.set hw.2.1 (xL he) (e := .inl (cA, y)) ?_ (fun _ _ => rfl), hw.2.1.set (xL he), hw.2.2⟩
  show H[a]? = some (vp_cell cA y)
  rw [← h]
  exact hw.1 q _ (xL he)
/-- what a row holds is written otherwise -/
theorem g_cgI (q : Nat) {a n : Nat} {f f' : Nat → Int32} (he : X[q]? = some (a, aI E n f)) (h : ∀ j, j < n → f j = f' j) {X' : va_W} (hX : X.set q (a, aI E n f') = X') (k : G g u E A ce sl Q X' L F pc lv st) : G g u E A ce sl Q X L F pc lv st := g_cgA q he (vc_i h) hX k
theorem g_cgJ (q : Nat) {a n : Nat} {f f' : Nat → Int64} (he : X[q]? = some (a, aJ E n f)) (h : ∀ j, j < n → f j = f' j) {X' : va_W} (hX : X.set q (a, aJ E n f') = X') (k : G g u E A ce sl Q X' L F pc lv st) : G g u E A ce sl Q X L F pc lv st := g_cgA q he (vc_l h) hX k
theorem g_cgZ (q : Nat) {a n : Nat} {f f' : Nat → Int32} (he : X[q]? = some (a, aZ E n f)) (h : ∀ j, j < n → f j = f' j) {X' : va_W} (hX : X.set q (a, aZ E n f') = X') (k : G g u E A ce sl Q X' L F pc lv st) : G g u E A ce sl Q X L F pc lv st := g_cgA q he (vc_i h) hX k
/-- the pool's rows, likewise -/
theorem g_cgP {a : Nat} (ha : a ∈ L) {cA : ClassId} {x y : vp_A} (he : F a = .inl (cA, x)) (h : vp_cell cA x = vp_cell cA y) (k : G g u E A ce sl Q X L (va_up F a (.inl (cA, y))) pc lv st) : G g u E A ce sl Q X L F pc lv st := fun H locs ls hw hl => by
  obtain ⟨q, hq⟩ := va_pl_get (X := X) (f := F) ha
  refine k H locs ls ?_ hl
  rw [← va_pl_set hw.2.1 ha hq]
  have hq2 := hq
  rw [he] at hq2
  refine ⟨hw.1.set hw.2.1 hq2 (e := .inl (cA, y)) ?_ (fun _ _ => rfl), hw.2.1.set hq2, hw.2.2⟩
  show H[a]? = some (vp_cell cA y)
  rw [← h]
  exact hw.1 q _ hq2
/-- the pool's function is written otherwise -/
theorem g_cgF {F' : Nat → va_E} (h : ∀ a ∈ L, F a = F' a) (k : G g u E A ce sl Q X L F' pc lv st) : G g u E A ce sl Q X L F pc lv st := fun H locs ls hw hl => by
  have e : va_pl L F = va_pl L F' := List.map_congr_left (fun a ha => by rw [h a ha])
  refine k H locs ls ?_ hl
  rw [← e]
  exact hw
end
/-! what a loop has done so far -/
def mpF (f v f0 : Nat → Int32) (i n : Nat) : Prop := ∀ j, j < n → f j = if j < i then v j else f0 j
theorem mp0 {v f0 : Nat → Int32} {n : Nat} : mpF f0 v f0 0 n := fun j _ => by rw [if_neg (Nat.not_lt_zero j)]
theorem mpS {f v f0 : Nat → Int32} {i n : Nat} {x : Int32} (h : mpF f v f0 i n) (hx : x = v i) : mpF (upd f i x) v f0 (i + 1) n := by
  intro j hj
  by_cases e : j = i
  · subst e
    rw [pk_us, if_pos (Nat.lt_succ_self j)]
    exact hx
  · rw [pk_un e, h j hj]
    by_cases h1 : j < i
    · rw [if_pos h1, if_pos (by omega)]
    · rw [if_neg h1, if_neg (by omega)]
theorem mpR {f v f0 : Nat → Int32} {i n j : Nat} (h : mpF f v f0 i n) (hj : j < n) (hi : i ≤ j) : f j = f0 j := by rw [h j hj, if_neg (by omega)]
theorem mpL {f v f0 : Nat → Int32} {i n j : Nat} (h : mpF f v f0 i n) (hj : j < n) (hi : j < i) : f j = v j := by rw [h j hj, if_pos hi]
theorem mpE {f v f0 : Nat → Int32} {i n : Nat} (h : mpF f v f0 i n) (hi : n ≤ i) : ∀ j, j < n → f j = v j := fun j hj => mpL h hj (by omega)
def pfx (f v : Nat → Int32) (i : Nat) : Prop := ∀ j, j < i → f j = v j
theorem pf0 {f v : Nat → Int32} : pfx f v 0 := fun j h => absurd h (Nat.not_lt_zero j)
theorem pfS {f v : Nat → Int32} {i : Nat} {x : Int32} (h : pfx f v i) (hx : x = v i) : pfx (upd f i x) v (i + 1) := by
  intro j hj
  by_cases e : j = i
  · subst e
    rw [pk_us]
    exact hx
  · rw [pk_un e]
    exact h j (by omega)
/-! ===== the cipher of the document, over ints ===== -/
/-- an octet times t -/
def tT (x : Int32) : Int32 := if x &&& nI 128 = 0 then (x <<< (nI 1 &&& 31)) &&& nI 255 else ((x <<< (nI 1 &&& 31)) ^^^ nI 27) &&& nI 255
/-- S of the octet in an int's lowest bits -/
def sb (x : Int32) : Int32 := TB (x &&& nI 255).toNatClampNeg
/-- the next round key out of the one before, by octets -/
def nw (p : Nat → Int32) (c : Int32) : Nat → Int32
  | 0 => (p 0 ^^^ sb (p 13)) ^^^ c
  | 1 => p 1 ^^^ sb (p 14)
  | 2 => p 2 ^^^ sb (p 15)
  | 3 => p 3 ^^^ sb (p 12)
  | i + 4 => p (i + 4) ^^^ nw p c i
def pwT : Nat → Int32
  | 0 => nI 1
  | t + 1 => tT (pwT t)
def rkB (K : Nat → Int32) : Nat → Nat → Int32
  | 0 => K
  | t + 1 => nw (rkB K t) (pwT t)
/-- octet k of the round keys -/
def rk (K : Nat → Int32) (k : Nat) : Int32 := rkB K (k / 16) (k % 16)
def SR (X : Nat → Int32) (i : Nat) : Int32 := sb (X ((i + 4 * (i % 4)) % 16))
def MC (Y : Nat → Int32) (i : Nat) : Int32 := ((tT (Y i) ^^^ (tT (Y (i - i % 4 + (i % 4 + 1) % 4)) ^^^ Y (i - i % 4 + (i % 4 + 1) % 4))) ^^^ Y (i - i % 4 + (i % 4 + 2) % 4)) ^^^ Y (i - i % 4 + (i % 4 + 3) % 4)
def rnd (K : Nat → Int32) (j : Nat) (X : Nat → Int32) (i : Nat) : Int32 := (if j < 10 then MC (SR X) i else SR X i) ^^^ rk K (16 * j + i)
def encN (K X : Nat → Int32) : Nat → Nat → Int32
  | 0 => fun i => X i ^^^ rk K i
  | j + 1 => rnd K (j + 1) (encN K X j)
/-- E(K, X) -/
def ENC (K X : Nat → Int32) : Nat → Int32 := encN K X 10
theorem b_nI {m : Int32} {k : Nat} (h : m = nI k) (i : Nat) : bt m i = bt (nI k) i := by rw [h]
theorem b_n255 (i : Nat) : bt (nI 255) i = decide (i < 8) := b_255 i
theorem b_n128 {x : Int32} : x &&& nI 128 = 0 ↔ bt x 7 = false := by
  constructor
  · intro h
    have e := b_and x (nI 128) 7
    rw [h, b_0] at e
    rw [show bt (nI 128) 7 = true by decide] at e
    simpa using e.symm
  · intro h
    apply b_ext
    intro i hi
    rw [b_and, b_0]
    have e : bt (nI 128) i = decide (i = 7) := (by decide +kernel : ∀ i, i < 32 → bt (nI 128) i = decide (i = 7)) i hi
    rw [e]
    by_cases h7 : i = 7
    · subst h7; rw [h]; rfl
    · simp [h7]
theorem tT_bt (x : Int32) {i : Nat} (hi : i < 32) : bt (tT x) i = (decide (i < 8) && ((decide (1 ≤ i) && bt x (i - 1)) ^^ (bt x 7 && bt (nI 27) i))) := by
  unfold tT
  by_cases h : x &&& nI 128 = 0
  · rw [if_pos h, b_and, b_n255, b_shl 1 (by omega) x hi, b_n128.mp h]
    simp [Bool.and_comm]
  · rw [if_neg h, b_and, b_xor, b_n255, b_shl 1 (by omega) x hi]
    have h7 : bt x 7 = true := by
      cases e : bt x 7 with
      | true => rfl
      | false => exact absurd (b_n128.mpr e) h
    rw [h7]
    simp [Bool.and_comm]
theorem tT_xor (a b : Int32) : tT (a ^^^ b) = tT a ^^^ tT b := by
  apply b_ext
  intro i hi
  rw [b_xor, tT_bt _ hi, tT_bt _ hi, tT_bt _ hi, b_xor, b_xor]
  cases bt a (i - 1) <;> cases bt b (i - 1) <;> cases bt a 7 <;> cases bt b 7 <;> cases bt (nI 27) i <;> cases decide (i < 8) <;> cases decide (1 ≤ i) <;> rfl
theorem mc_row (a b c d : Int32) : (a ^^^ (((a ^^^ b) ^^^ c) ^^^ d)) ^^^ tT (a ^^^ b) = ((tT a ^^^ (tT b ^^^ b)) ^^^ c) ^^^ d := by
  rw [tT_xor]
  generalize tT a = p
  generalize tT b = q
  apply b_ext
  intro i _
  simp only [b_xor]
  cases bt a i <;> cases bt b i <;> cases bt c i <;> cases bt d i <;> cases bt p i <;> cases bt q i <;> rfl
theorem mc_row2 (a b c d : Int32) : (b ^^^ (((a ^^^ b) ^^^ c) ^^^ d)) ^^^ tT (b ^^^ c) = ((tT b ^^^ (tT c ^^^ c)) ^^^ d) ^^^ a := by
  rw [tT_xor]
  generalize tT b = p
  generalize tT c = q
  apply b_ext
  intro i _
  simp only [b_xor]
  cases bt a i <;> cases bt b i <;> cases bt c i <;> cases bt d i <;> cases bt p i <;> cases bt q i <;> rfl
theorem mc_row3 (a b c d : Int32) : (c ^^^ (((a ^^^ b) ^^^ c) ^^^ d)) ^^^ tT (c ^^^ d) = ((tT c ^^^ (tT d ^^^ d)) ^^^ a) ^^^ b := by
  rw [tT_xor]
  generalize tT c = p
  generalize tT d = q
  apply b_ext
  intro i _
  simp only [b_xor]
  cases bt a i <;> cases bt b i <;> cases bt c i <;> cases bt d i <;> cases bt p i <;> cases bt q i <;> rfl
theorem mc_row4 (a b c d : Int32) : (d ^^^ (((a ^^^ b) ^^^ c) ^^^ d)) ^^^ tT (d ^^^ a) = ((tT d ^^^ (tT a ^^^ a)) ^^^ b) ^^^ c := by
  rw [tT_xor]
  generalize tT d = p
  generalize tT a = q
  apply b_ext
  intro i _
  simp only [b_xor]
  cases bt a i <;> cases bt b i <;> cases bt c i <;> cases bt d i <;> cases bt p i <;> cases bt q i <;> rfl
theorem rk_0 (K : Nat → Int32) {k : Nat} (h : k < 16) : rk K k = K k := by
  unfold rk
  rw [Nat.div_eq_of_lt h, Nat.mod_eq_of_lt h]
  rfl
theorem rk_at (K : Nat → Int32) {t i : Nat} (hi : i < 16) : rk K (16 * t + i) = rkB K t i := by
  unfold rk
  rw [show (16 * t + i) / 16 = t by omega, show (16 * t + i) % 16 = i by omega]
theorem nw_4 (p : Nat → Int32) (c : Int32) (i : Nat) : nw p c (i + 4) = p (i + 4) ^^^ nw p c i := by rw [nw]
theorem nw_congr {p q : Nat → Int32} (c : Int32) (h : ∀ i, i < 16 → p i = q i) : ∀ i, i < 16 → nw p c i = nw q c i := by
  have h0 : ∀ i, i < 4 → nw p c i = nw q c i := by
    intro i hi
    match i, hi with
    | 0, _ => rw [nw, nw, h 0 (by omega), h 13 (by omega)]
    | 1, _ => rw [nw, nw, h 1 (by omega), h 14 (by omega)]
    | 2, _ => rw [nw, nw, h 2 (by omega), h 15 (by omega)]
    | 3, _ => rw [nw, nw, h 3 (by omega), h 12 (by omega)]
  have h1 : ∀ i, i < 4 → nw p c (i + 4) = nw q c (i + 4) := fun i hi => by rw [nw_4, nw_4, h0 i hi, h _ (by omega)]
  have h2 : ∀ i, i < 4 → nw p c (i + 4 + 4) = nw q c (i + 4 + 4) := fun i hi => by rw [nw_4, nw_4 q, h1 i hi, h _ (by omega)]
  have h3 : ∀ i, i < 4 → nw p c (i + 4 + 4 + 4) = nw q c (i + 4 + 4 + 4) := fun i hi => by rw [nw_4, nw_4 q, h2 i hi, h _ (by omega)]
  intro i hi
  rcases Nat.lt_or_ge i 4 with g | g
  · exact h0 i g
  rcases Nat.lt_or_ge i 8 with g' | g'
  · have := h1 (i - 4) (by omega); rwa [show i - 4 + 4 = i by omega] at this
  rcases Nat.lt_or_ge i 12 with g'' | g''
  · have := h2 (i - 8) (by omega); rwa [show i - 8 + 4 + 4 = i by omega] at this
  · have := h3 (i - 12) (by omega); rwa [show i - 12 + 4 + 4 + 4 = i by omega] at this
