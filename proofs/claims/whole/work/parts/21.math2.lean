/-! octets, and what the reference's arithmetic is on them -/
def isO (x : Int32) : Prop := x &&& nI 255 = x
theorem isO_n {n : Nat} (h : n < 256) : isO (nI n) := by
  unfold isO
  rw [pk_andN (by omega) 8 (by decide), Nat.mod_eq_of_lt h]
theorem isO_of {x : Int32} (h : isO x) : ∃ n, n < 256 ∧ x = nI n := by
  obtain ⟨j, hj, e⟩ := pk_andE x (m := nI 255) 8 (by decide)
  exact ⟨j, hj, by rw [← e]; exact h.symm⟩
theorem isO_and (x : Int32) : isO (x &&& nI 255) := by
  obtain ⟨j, hj, e⟩ := pk_andE x (m := nI 255) 8 (by decide)
  rw [e]
  exact isO_n hj
theorem isO_bt {x : Int32} : isO x ↔ ∀ i, i < 32 → 8 ≤ i → bt x i = false := by
  constructor
  · intro h i hi h8
    rw [← h, b_and, b_n255, decide_eq_false (by omega), Bool.and_false]
  · intro h
    apply b_ext
    intro i hi
    rw [b_and, b_n255]
    rcases Nat.lt_or_ge i 8 with h8 | h8
    · rw [decide_eq_true h8, Bool.and_true]
    · rw [h i hi h8, Bool.false_and]
theorem isO_xor {x y : Int32} (hx : isO x) (hy : isO y) : isO (x ^^^ y) := isO_bt.mpr (fun i hi h8 => by rw [b_xor, isO_bt.mp hx i hi h8, isO_bt.mp hy i hi h8]; rfl)
theorem isO_in {x : Int32} (h : isO x) : vp_in x 256 := by
  obtain ⟨n, hn, rfl⟩ := isO_of h
  exact vp_in_nI hn (by decide)
theorem TB_O : ∀ j, j < 256 → isO (TB j) := by
  unfold isO
  decide +kernel
theorem sb_O (x : Int32) : isO (sb x) := by
  obtain ⟨j, hj, e⟩ := pk_andE x (m := nI 255) 8 (by decide)
  unfold sb
  rw [e, nI_clamp (by omega)]
  exact TB_O j hj
theorem tT_O (x : Int32) : isO (tT x) := by
  unfold tT
  split <;> exact isO_and _
theorem pw_O (t : Nat) : isO (pwT t) := by
  cases t with
  | zero => exact isO_n (by decide)
  | succ t => exact tT_O _
theorem nw_O {p : Nat → Int32} {c : Int32} (hp : ∀ i, i < 16 → isO (p i)) (hc : isO c) : ∀ i, i < 16 → isO (nw p c i) := by
  have h0 : ∀ i, i < 4 → isO (nw p c i) := by
    intro i hi
    match i, hi with
    | 0, _ => exact isO_xor (isO_xor (hp 0 (by omega)) (sb_O _)) hc
    | 1, _ => exact isO_xor (hp 1 (by omega)) (sb_O _)
    | 2, _ => exact isO_xor (hp 2 (by omega)) (sb_O _)
    | 3, _ => exact isO_xor (hp 3 (by omega)) (sb_O _)
  have h1 : ∀ i, i < 4 → isO (nw p c (i + 4)) := fun i hi => by rw [nw_4]; exact isO_xor (hp _ (by omega)) (h0 i hi)
  have h2 : ∀ i, i < 4 → isO (nw p c (i + 4 + 4)) := fun i hi => by rw [nw_4]; exact isO_xor (hp _ (by omega)) (h1 i hi)
  have h3 : ∀ i, i < 4 → isO (nw p c (i + 4 + 4 + 4)) := fun i hi => by rw [nw_4]; exact isO_xor (hp _ (by omega)) (h2 i hi)
  intro i hi
  rcases Nat.lt_or_ge i 4 with g | g
  · exact h0 i g
  rcases Nat.lt_or_ge i 8 with g' | g'
  · have := h1 (i - 4) (by omega); rwa [show i - 4 + 4 = i by omega] at this
  rcases Nat.lt_or_ge i 12 with g'' | g''
  · have := h2 (i - 8) (by omega); rwa [show i - 8 + 4 + 4 = i by omega] at this
  · have := h3 (i - 12) (by omega); rwa [show i - 12 + 4 + 4 + 4 = i by omega] at this
theorem rkB_O {K : Nat → Int32} (hK : ∀ i, i < 16 → isO (K i)) : ∀ t i, i < 16 → isO (rkB K t i) := by
  intro t
  induction t with
  | zero => exact hK
  | succ t ih => exact nw_O ih (pw_O t)
theorem rk_O {K : Nat → Int32} (hK : ∀ i, i < 16 → isO (K i)) (k : Nat) : isO (rk K k) := rkB_O hK _ _ (Nat.mod_lt _ (by decide))
theorem SR_O (X : Nat → Int32) (i : Nat) : isO (SR X i) := sb_O _
theorem MC_O {Y : Nat → Int32} (hY : ∀ i, isO (Y i)) (i : Nat) : isO (MC Y i) := isO_xor (isO_xor (isO_xor (tT_O _) (isO_xor (tT_O _) (hY _))) (hY _)) (hY _)
theorem encN_O {K X : Nat → Int32} (hK : ∀ i, i < 16 → isO (K i)) (hX : ∀ i, i < 16 → isO (X i)) : ∀ j i, i < 16 → isO (encN K X j i) := by
  intro j
  cases j with
  | zero => exact fun i hi => isO_xor (hX i hi) (rk_O hK i)
  | succ j =>
    intro i _
    show isO (rnd K (j + 1) (encN K X j) i)
    unfold rnd
    refine isO_xor ?_ (rk_O hK _)
    split
    · exact MC_O (SR_O _) i
    · exact SR_O _ i
theorem ENC_O {K X : Nat → Int32} (hK : ∀ i, i < 16 → isO (K i)) (hX : ∀ i, i < 16 → isO (X i)) : ∀ i, i < 16 → isO (ENC K X i) := encN_O hK hX 10
theorem pr2_n : ∀ n, n < 256 → pr (nI n) (nI 2) = tT (nI n) := by decide +kernel
theorem pr3_n : ∀ n, n < 256 → pr (nI n) (nI 3) = tT (nI n) ^^^ nI n := by decide +kernel
theorem pr_2 {x : Int32} (h : isO x) : pr x (nI 2) = tT x := by
  obtain ⟨n, hn, rfl⟩ := isO_of h
  exact pr2_n n hn
theorem pr_3 {x : Int32} (h : isO x) : pr x (nI 3) = tT x ^^^ x := by
  obtain ⟨n, hn, rfl⟩ := isO_of h
  exact pr3_n n hn
