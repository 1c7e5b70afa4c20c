theorem sub_sb {x : Int32} (h : isO x) : TB x.toNatClampNeg = sb x := by unfold sb; rw [h]
theorem kf_n1 {nk : Nat} {k : Int32} (h1 : ¬ k < nI 1) (h2 : k ≤ nI nk) : kf nk k = some (k - nI 1).toNatClampNeg := by
  unfold kf
  rw [if_neg h1, if_neg (fun z => by rw [Int32.lt_iff_toInt_lt] at z; rw [Int32.le_iff_toInt_le] at h2; omega)]
theorem kf_n2 {nk : Nat} {k : Int32} (h1 : ¬ k < nI 1) (h2 : ¬ k ≤ nI nk) : kf nk k = none := by
  unfold kf
  rw [if_neg h1, if_pos (by rw [Int32.lt_iff_toInt_lt]; rw [Int32.le_iff_toInt_le] at h2; omega)]
section
variable {K f : Nat → Int32} {k : Nat}
theorem rkS_p (h1 : 16 ≤ k) (h : pfx f (rk K) k) : ∀ i, i < 16 → f (16 * (k / 16 - 1) + i) = rkB K (k / 16 - 1) i := fun i hi => by
  rw [h _ (by omega)]
  exact rk_at K hi
theorem rkS_k (h1 : 16 ≤ k) : rk K k = nw (rkB K (k / 16 - 1)) (pwT (k / 16 - 1)) (k % 16) := by
  obtain ⟨t, ht⟩ : ∃ t, k / 16 = t + 1 := ⟨k / 16 - 1, by omega⟩
  unfold rk
  rw [ht]
  rfl
theorem rkS0 (h1 : 16 ≤ k) (h : pfx f (rk K) k) (h0 : k % 16 = 0) : f (k - 16) ^^^ (sb (f (((k - 4) - k % 4) + (k % 4 + 1) % 4)) ^^^ pwT ((k + 15) / 16 - 1)) = rk K k := by
  rw [rkS_k h1, h0]
  have e := rkS_p h1 h
  have e0 := e 0 (by omega)
  have e13 := e 13 (by omega)
  rw [show 16 * (k / 16 - 1) + 0 = k - 16 by omega] at e0
  rw [show 16 * (k / 16 - 1) + 13 = ((k - 4) - k % 4) + (k % 4 + 1) % 4 by omega] at e13
  rw [e0, e13, show (k + 15) / 16 - 1 = k / 16 - 1 by omega]
  show _ = (rkB K (k / 16 - 1) 0 ^^^ sb (rkB K (k / 16 - 1) 13)) ^^^ pwT (k / 16 - 1)
  rw [Int32.xor_assoc]
theorem rkS1 (h1 : 16 ≤ k) (h : pfx f (rk K) k) (h4 : k % 16 < 4) (h0 : ¬ k % 4 = 0) : f (k - 16) ^^^ sb (f (((k - 4) - k % 4) + (k % 4 + 1) % 4)) = rk K k := by
  rw [rkS_k h1]
  have e := rkS_p h1 h
  have e0 := e (k % 16) (by omega)
  have e1 := e (12 + (k % 4 + 1) % 4) (by omega)
  rw [show 16 * (k / 16 - 1) + k % 16 = k - 16 by omega] at e0
  rw [show 16 * (k / 16 - 1) + (12 + (k % 4 + 1) % 4) = ((k - 4) - k % 4) + (k % 4 + 1) % 4 by omega] at e1
  rw [e0, e1]
  obtain h5 | h5 | h5 : k % 16 = 1 ∨ k % 16 = 2 ∨ k % 16 = 3 := by omega
  · rw [h5, show k % 4 = 1 by omega]; rfl
  · rw [h5, show k % 4 = 2 by omega]; rfl
  · rw [h5, show k % 4 = 3 by omega]; rfl
theorem rkS2 (h1 : 16 ≤ k) (h : pfx f (rk K) k) (h4 : 4 ≤ k % 16) : f (k - 16) ^^^ f (k - 4) = rk K k := by
  have e := rkS_p h1 h
  have e0 := e (k % 16) (by omega)
  rw [show 16 * (k / 16 - 1) + k % 16 = k - 16 by omega] at e0
  have e1 : f (k - 4) = nw (rkB K (k / 16 - 1)) (pwT (k / 16 - 1)) (k % 16 - 4) := by
    rw [h _ (by omega), show k - 4 = 16 * (k / 16 - 1 + 1) + (k % 16 - 4) by omega]
    exact rk_at K (by omega)
  rw [rkS_k h1, e0, e1]
  obtain ⟨q, hq⟩ : ∃ q, k % 16 = q + 4 := ⟨k % 16 - 4, by omega⟩
  rw [hq, nw_4, show q + 4 - 4 = q by omega]
end
theorem SR_at (X : Nat → Int32) {c r : Nat} (hc : c < 4) (hr : r < 4) : sb (X (4 * ((c + r) % 4) + r)) = SR X (4 * c + r) := by
  unfold SR
  rw [show (4 * c + r + 4 * ((4 * c + r) % 4)) % 16 = 4 * ((c + r) % 4) + r by omega]
theorem MC_at (Y : Nat → Int32) {c r : Nat} (hr : r < 4) : ((tT (Y (4 * c + r)) ^^^ (tT (Y (4 * c + (r + 1) % 4)) ^^^ Y (4 * c + (r + 1) % 4))) ^^^ Y (4 * c + (r + 2) % 4)) ^^^ Y (4 * c + (r + 3) % 4) = MC Y (4 * c + r) := by
  unfold MC
  rw [show (4 * c + r) % 4 = r by omega, show 4 * c + r - r = 4 * c by omega]
theorem rnd_1 (K X : Nat → Int32) {j c r : Nat} (hj : j + 1 < 10) : MC (SR (encN K X j)) (4 * c + r) ^^^ rk K ((16 * (j + 1) + 4 * c) + r) = encN K X (j + 1) (4 * c + r) := by
  show _ = rnd K (j + 1) (encN K X j) (4 * c + r)
  unfold rnd
  rw [if_pos hj, Nat.add_assoc (16 * (j + 1))]
theorem rnd_2 (K X : Nat → Int32) {j c r : Nat} (hj : 10 ≤ j + 1) : SR (encN K X j) (4 * c + r) ^^^ rk K ((16 * (j + 1) + 4 * c) + r) = encN K X (j + 1) (4 * c + r) := by
  show _ = rnd K (j + 1) (encN K X j) (4 * c + r)
  unfold rnd
  rw [if_neg (by omega), Nat.add_assoc (16 * (j + 1))]
theorem enc_00 (K X : Nat → Int32) {i : Nat} : X i ^^^ rk K i = encN K X 0 i := rfl
/-! doubling -/
def cyv (s : Nat → Int32) (i : Nat) : Int32 := if i < 16 then s i >>> (nI 7 &&& 31) else nI 0
def dv (s : Nat → Int32) (i : Nat) : Int32 := (nI 2 * s i + cyv s (i + 1)) &&& nI 255
theorem sh7_n : ∀ n, n < 256 → nI n >>> (nI 7 &&& 31) = nI 0 ∨ nI n >>> (nI 7 &&& 31) = nI 1 := by decide +kernel
theorem cyv_01 {s : Nat → Int32} (hs : ∀ i, i < 16 → isO (s i)) (i : Nat) : cyv s i = nI 0 ∨ cyv s i = nI 1 := by
  unfold cyv
  split
  · rename_i h
    obtain ⟨n, hn, e⟩ := isO_of (hs i h)
    rw [e]
    exact sh7_n n hn
  · exact Or.inl rfl
theorem dbl_c0 : ∀ n, n < 256 → (nI 2 * nI n + nI 0) >>> (nI 8 &&& 31) = nI n >>> (nI 7 &&& 31) ∧ (nI 2 * nI n + nI 1) >>> (nI 8 &&& 31) = nI n >>> (nI 7 &&& 31) := by decide +kernel
theorem dbl_v0 : ∀ n, n < 256 → (nI 2 * nI n + nI 0) &&& nI 255 = ((nI n <<< (nI 1 &&& 31)) ||| nI 0) &&& nI 255 ∧ (nI 2 * nI n + nI 1) &&& nI 255 = ((nI n <<< (nI 1 &&& 31)) ||| nI 1) &&& nI 255 := by decide +kernel
theorem dbl_v15 : ∀ n, n < 256 → (nI 2 * nI n + nI 0) &&& nI 255 = (nI n <<< (nI 1 &&& 31)) &&& nI 255 := by decide +kernel
theorem dbl_cr : ∀ n, n < 256 → nI 135 * (nI n >>> (nI 7 &&& 31)) = if nI n &&& nI 128 = 0 then nI 0 else nI 135 := by decide +kernel
theorem dbl_cy {s : Nat → Int32} (hs : ∀ i, i < 16 → isO (s i)) {i : Nat} (hi : i < 16) : (nI 2 * s i + cyv s (i + 1)) >>> (nI 8 &&& 31) = cyv s i := by
  obtain ⟨n, hn, e⟩ := isO_of (hs i hi)
  have h : cyv s i = nI n >>> (nI 7 &&& 31) := by unfold cyv; rw [if_pos hi, e]
  rw [h, e]
  rcases cyv_01 hs (i + 1) with h1 | h1 <;> rw [h1]
  · exact (dbl_c0 n hn).1
  · exact (dbl_c0 n hn).2
theorem dv_dbl {s : Nat → Int32} (hs : ∀ i, i < 16 → isO (s i)) {i : Nat} (hi : i < 15) : dv s i = dblF s i := by
  obtain ⟨n, hn, e⟩ := isO_of (hs i (by omega))
  unfold dv dblF
  rw [if_pos hi]
  have h : s (i + 1) >>> (nI 7 &&& 31) = cyv s (i + 1) := by unfold cyv; rw [if_pos (by omega)]
  rw [h, e]
  rcases cyv_01 hs (i + 1) with h1 | h1 <;> rw [h1]
  · exact (dbl_v0 n hn).1
  · exact (dbl_v0 n hn).2
theorem dv_15 {s f : Nat → Int32} (hs : ∀ i, i < 16 → isO (s i)) {j : Nat} (hj : j = 16) (hf : ∀ i, i < 16 → f i = if 16 ≤ i + j then dv s i else s i) : f 15 ^^^ (nI 135 * cyv s (16 - j)) = dblF s 15 := by
  subst hj
  rw [hf 15 (by omega), if_pos (by omega)]
  unfold dv dblF cr
  rw [if_neg (by omega)]
  obtain ⟨n, hn, e⟩ := isO_of (hs 15 (by omega))
  obtain ⟨m, hm, e0⟩ := isO_of (hs 0 (by omega))
  have h : cyv s (16 - 16) = nI m >>> (nI 7 &&& 31) := by unfold cyv; rw [if_pos (by omega), ← e0]
  have h2 : cyv s (15 + 1) = nI 0 := by unfold cyv; rw [if_neg (by omega)]
  rw [h, h2, e, e0, dbl_v15 n hn, dbl_cr m hm]
theorem dbS {s f : Nat → Int32} {j : Nat} (hj : j < 16) (hf : ∀ i, i < 16 → f i = if 16 ≤ i + j then dv s i else s i) : ∀ i, i < 16 → upd f (16 - j - 1) ((nI 2 * f (16 - j - 1) + cyv s (16 - j)) &&& nI 255) i = if 16 ≤ i + (j + 1) then dv s i else s i := by
  intro i hi
  by_cases e : i = 16 - j - 1
  · rw [e, pk_us, if_pos (by omega), hf _ (by omega), if_neg (by omega)]
    unfold dv
    rw [show 16 - j - 1 + 1 = 16 - j by omega]
  · rw [pk_un e, hf i hi]
    by_cases h : 16 ≤ i + j
    · rw [if_pos h, if_pos (by omega)]
    · rw [if_neg h, if_neg (by omega)]
theorem dbC {s f : Nat → Int32} (hs : ∀ i, i < 16 → isO (s i)) {j : Nat} (hj : j < 16) (hf : ∀ i, i < 16 → f i = if 16 ≤ i + j then dv s i else s i) : (nI 2 * f (16 - j - 1) + cyv s (16 - j)) >>> (nI 8 &&& 31) = cyv s (16 - (j + 1)) := by
  rw [hf _ (by omega), if_neg (by omega)]
  have := dbl_cy hs (i := 16 - j - 1) (by omega)
  rwa [show 16 - j - 1 + 1 = 16 - j by omega, show 16 - j - 1 = 16 - (j + 1) by omega] at this
theorem dbE {s f : Nat → Int32} (hs : ∀ i, i < 16 → isO (s i)) {j : Nat} (hj : j = 16) (hf : ∀ i, i < 16 → f i = if 16 ≤ i + j then dv s i else s i) : ∀ i, i < 16 → upd f 15 (dblF s 15) i = dblF s i := by
  intro i hi
  by_cases e : i = 15
  · rw [e, pk_us]
  · rw [pk_un e, hf i hi, if_pos (by omega)]
    exact dv_dbl hs (by omega)
theorem nm_lt2 {k j : Nat} (hk : k ≤ 16) (hj : j ≤ k) (c : ¬ (nI (k - j) - nI 1 : Int32) < 0) : j < k := by
  rcases Nat.lt_or_ge j k with h | h
  · exact h
  · exact absurd (by rw [show k - j = 0 by omega]; decide) c
theorem nm_ge2 {k j : Nat} (hk : k ≤ 16) (c : (nI (k - j) - nI 1 : Int32) < 0) : k ≤ j := by
  rcases Nat.lt_or_ge j k with h | h
  · rw [pk_sub (by omega)] at c
    exact absurd c (nI_pos (by omega))
  · exact h
theorem dblF_O (s : Nat → Int32) : ∀ i, i < 16 → isO (dblF s i) := by
  intro i _
  unfold dblF cr
  split
  · exact isO_and _
  · refine isO_xor (isO_and _) ?_
    split <;> exact isO_n (by decide)
abbrev muX5_substitute : Mu := (cX5_substitute, 2, RX5, (some .int), "substitute", 0, 0, 0, 0)
theorem hd_X5_substitute : yX5_substitute.cls = RX5 ∧ yX5_substitute.cls ≠ "java/lang/invoke/MethodHandle" ∧ yX5_substitute.cls ≠ "java/lang/invoke/VarHandle" ∧ (parseMethodDescriptor yX5_substitute.desc).map (fun d => d.parameters.length) = some 1 := by decide +kernel
set_option maxHeartbeats 4000000 in
set_option maxRecDepth 100000 in
theorem k_X5_substitute (l : Launch) (E : Ev) (mm oc nx ia ms ot my co bd bk oh rd mk rw ss : Nat) (cd : Int32) (nk ln os : Nat) (tp : Int64) (x : Int32) (L : List Nat) (F : Nat → va_E) (hx : isO x) : KC l E yX5_substitute muX5_substitute [.ref mm, .int (x)] [(mm, .inr (7, [.int (cd), .int (nI (nk)), .ref oc, .ref nx, .ref ia, .ref ms, .int (nI (ln)), .int (nI (os)), .ref ot, .long (tp), .ref my, .ref co, .ref bd, .ref bk, .ref oh, .ref rd, .ref mk, .ref rw, .ref ss])), (ss, aI E 256 (TB))] L F (fun r8 cx8 L8 F8 => r8 = some (.int (sb x)) ∧ cx8 = [(mm, .inr (7, [.int (cd), .int (nI (nk)), .ref oc, .ref nx, .ref ia, .ref ms, .int (nI (ln)), .int (nI (os)), .ref ot, .long (tp), .ref my, .ref co, .ref bd, .ref bk, .ref oh, .ref rd, .ref mk, .ref rw, .ref ss])), (ss, aI E 256 (TB))] ∧ L = L8 ∧ F = F8 ∧ (True)) := by
  refine K_start (by decide) rfl rfl (Nat.le_of_ble_eq_true rfl) (fun g A Q hgl C r => ?_)
  subst hgl
  show G g muX5_substitute E A 0 0 Q [(mm, .inr (7, [.int (cd), .int (nI (nk)), .ref oc, .ref nx, .ref ia, .ref ms, .int (nI (ln)), .int (nI (os)), .ref ot, .long (tp), .ref my, .ref co, .ref bd, .ref bk, .ref oh, .ref rd, .ref mk, .ref rw, .ref ss])), (ss, aI E 256 (TB))] L F 0 [(0, .ref mm), (1, .int (x))] []
  refine g_aload_n C dX5_substitute_0 rfl 0 rfl ?_
  refine g_getX C 0 rfl rfl inX5 18 (by decide) m_438 rfl dX5_substitute_1 ?_
  refine g_iload_n C dX5_substitute_4 rfl 1 rfl ?_
  refine g_iaload C 1 rfl (isO_in hx) dX5_substitute_5 ?_
  refine g_asi (show (TB (x).toNatClampNeg) = (sb x) from sub_sb hx) ?_
  exact g_iret C r rfl ⟨rfl, rfl, rfl, rfl, trivial⟩ rfl nN dX5_substitute_6
abbrev muX5_thrown : Mu := (cX5_thrown, 1, RX5, (some .int), "thrown", 0, 0, 0, 0)
theorem hd_X5_thrown : yX5_thrown.cls = RX5 ∧ yX5_thrown.cls ≠ "java/lang/invoke/MethodHandle" ∧ yX5_thrown.cls ≠ "java/lang/invoke/VarHandle" ∧ (parseMethodDescriptor yX5_thrown.desc).map (fun d => d.parameters.length) = some 0 := by decide +kernel
set_option maxHeartbeats 4000000 in
set_option maxRecDepth 100000 in
theorem k_X5_thrown (l : Launch) (E : Ev) (mm oc nx ia ms ot my co bd bk oh rd mk rw ss : Nat) (cd : Int32) (nk ln os : Nat) (tp : Int64) (L : List Nat) (F : Nat → va_E)  : KC l E yX5_thrown muX5_thrown [.ref mm] [(mm, .inr (7, [.int (cd), .int (nI (nk)), .ref oc, .ref nx, .ref ia, .ref ms, .int (nI (ln)), .int (nI (os)), .ref ot, .long (tp), .ref my, .ref co, .ref bd, .ref bk, .ref oh, .ref rd, .ref mk, .ref rw, .ref ss]))] L F (fun r8 cx8 L8 F8 => r8 = some (.int (cd)) ∧ cx8 = [(mm, .inr (7, [.int (cd), .int (nI (nk)), .ref oc, .ref nx, .ref ia, .ref ms, .int (nI (ln)), .int (nI (os)), .ref ot, .long (tp), .ref my, .ref co, .ref bd, .ref bk, .ref oh, .ref rd, .ref mk, .ref rw, .ref ss]))] ∧ L = L8 ∧ F = F8 ∧ (True)) := by
  refine K_start (by decide) rfl rfl (Nat.le_of_ble_eq_true rfl) (fun g A Q hgl C r => ?_)
  subst hgl
  show G g muX5_thrown E A 0 0 Q [(mm, .inr (7, [.int (cd), .int (nI (nk)), .ref oc, .ref nx, .ref ia, .ref ms, .int (nI (ln)), .int (nI (os)), .ref ot, .long (tp), .ref my, .ref co, .ref bd, .ref bk, .ref oh, .ref rd, .ref mk, .ref rw, .ref ss]))] L F 0 [(0, .ref mm)] []
  refine g_aload_n C dX5_thrown_0 rfl 0 rfl ?_
  refine g_getX C 0 rfl rfl inX5 0 (by decide) m_420 rfl dX5_thrown_1 ?_
  exact g_iret C r rfl ⟨rfl, rfl, rfl, rfl, trivial⟩ rfl nN dX5_thrown_4
abbrev muX5_noKey : Mu := (cX5_noKey, 2, RX5, (some .boolean), "noKey", 0, 0, 0, 0)
theorem hd_X5_noKey : yX5_noKey.cls = RX5 ∧ yX5_noKey.cls ≠ "java/lang/invoke/MethodHandle" ∧ yX5_noKey.cls ≠ "java/lang/invoke/VarHandle" ∧ (parseMethodDescriptor yX5_noKey.desc).map (fun d => d.parameters.length) = some 1 := by decide +kernel
set_option maxHeartbeats 4000000 in
set_option maxRecDepth 100000 in
theorem k_X5_noKey (l : Launch) (E : Ev) (mm oc nx ia ms ot my co bd bk oh rd mk rw ss : Nat) (cd : Int32) (nk ln os : Nat) (tp : Int64) (k : Int32) (L : List Nat) (F : Nat → va_E)  : KC l E yX5_noKey muX5_noKey [.ref mm, .int (k)] [(mm, .inr (7, [.int (cd), .int (nI (nk)), .ref oc, .ref nx, .ref ia, .ref ms, .int (nI (ln)), .int (nI (os)), .ref ot, .long (tp), .ref my, .ref co, .ref bd, .ref bk, .ref oh, .ref rd, .ref mk, .ref rw, .ref ss]))] L F (fun r8 cx8 L8 F8 => r8 = some (.int (b2 (kf nk k).isNone)) ∧ cx8 = [(mm, .inr (7, [.int (nI 0), .int (nI (nk)), .ref oc, .ref nx, .ref ia, .ref ms, .int (nI (ln)), .int (nI (os)), .ref ot, .long (tp), .ref my, .ref co, .ref bd, .ref bk, .ref oh, .ref rd, .ref mk, .ref rw, .ref ss]))] ∧ L = L8 ∧ F = F8 ∧ (True)) := by
  refine K_start (by decide) rfl rfl (Nat.le_of_ble_eq_true rfl) (fun g A Q hgl C r => ?_)
  subst hgl
  show G g muX5_noKey E A 0 0 Q [(mm, .inr (7, [.int (cd), .int (nI (nk)), .ref oc, .ref nx, .ref ia, .ref ms, .int (nI (ln)), .int (nI (os)), .ref ot, .long (tp), .ref my, .ref co, .ref bd, .ref bk, .ref oh, .ref rd, .ref mk, .ref rw, .ref ss]))] L F 0 [(0, .ref mm), (1, .int (k))] []
  refine g_aload_n C dX5_noKey_0 rfl 0 rfl ?_
  refine g_iconst (v := nI (0)) C dX5_noKey_1 (by decide) ?_
  refine g_putX (X' := [(mm, .inr (7, [.int (nI (0)), .int (nI (nk)), .ref oc, .ref nx, .ref ia, .ref ms, .int (nI (ln)), .int (nI (os)), .ref ot, .long (tp), .ref my, .ref co, .ref bd, .ref bk, .ref oh, .ref rd, .ref mk, .ref rw, .ref ss]))]) C 0 rfl rfl inX5 tyX5 tyX5_ok nmX5 0 (by decide) m_420 rfl rfl rfl (Nat.le_of_ble_eq_true rfl) rfl dX5_noKey_2 ?_
  refine g_iload_n C dX5_noKey_5 rfl 1 rfl ?_
  refine g_iconst (v := nI (1)) C dX5_noKey_6 (by decide) ?_
  refine g_icmp_lt (tgt := 18) C dX5_noKey_7 (by decide) (fun c7 => ?_) (fun c7 => ?_)
  · skip
    refine g_iconst (v := nI (1)) C dX5_noKey_18 (by decide) ?_
    refine g_asi (show (nI (1)) = (b2 (kf nk k).isNone) from (by unfold kf; rw [if_pos c7]; rfl)) ?_
    refine g_goto (tgt := 23) C dX5_noKey_19 (by decide) ?_
    exact g_zret C r rfl (b2_nar _) ⟨rfl, rfl, rfl, rfl, trivial⟩ rfl nN dX5_noKey_23
  · skip
    refine g_iload_n C dX5_noKey_10 rfl 1 rfl ?_
    refine g_aload_n C dX5_noKey_11 rfl 0 rfl ?_
    refine g_getX C 0 rfl rfl inX5 1 (by decide) m_421 rfl dX5_noKey_12 ?_
    refine g_icmp_le (tgt := 22) C dX5_noKey_15 (by decide) (fun c15 => ?_) (fun c15 => ?_)
    · skip
      refine g_iconst (v := nI (0)) C dX5_noKey_22 (by decide) ?_
      refine g_asi (show (nI (0)) = (b2 (kf nk k).isNone) from (by rw [kf_n1 c7 c15]; rfl)) ?_
      exact g_zret C r rfl (b2_nar _) ⟨rfl, rfl, rfl, rfl, trivial⟩ rfl nN dX5_noKey_23
    · skip
      refine g_iconst (v := nI (1)) C dX5_noKey_18 (by decide) ?_
      refine g_asi (show (nI (1)) = (b2 (kf nk k).isNone) from (by rw [kf_n2 c7 c15]; rfl)) ?_
      refine g_goto (tgt := 23) C dX5_noKey_19 (by decide) ?_
      exact g_zret C r rfl (b2_nar _) ⟨rfl, rfl, rfl, rfl, trivial⟩ rfl nN dX5_noKey_23
abbrev muX5_substituteOf : Mu := (cX5_substituteOf, 4, RX5, (some .int), "substituteOf", 1, 0, 0, 24)
theorem hd_X5_substituteOf : yX5_substituteOf.cls = RX5 ∧ yX5_substituteOf.cls ≠ "java/lang/invoke/MethodHandle" ∧ yX5_substituteOf.cls ≠ "java/lang/invoke/VarHandle" ∧ (parseMethodDescriptor yX5_substituteOf.desc).map (fun d => d.parameters.length) = some 1 := by decide +kernel
set_option maxHeartbeats 4000000 in
set_option maxRecDepth 100000 in
theorem k_X5_substituteOf (l : Launch) (E : Ev) (n : Nat) (L : List Nat) (F : Nat → va_E) (hn : n < 256) : KC l E yX5_substituteOf muX5_substituteOf [.int (nI (n))] [] L F (fun r8 cx8 L8 F8 => r8 = some (.int (TB n)) ∧ cx8 = [] ∧ L = L8 ∧ F = F8 ∧ (True)) := by
  refine K_start (by decide) rfl rfl (Nat.le_of_ble_eq_true rfl) (fun g A Q hgl C r => ?_)
  subst hgl
  show G g muX5_substituteOf E A 0 0 Q [] L F 0 [(0, .int (nI (n)))] []
  have hiv : iv n ≤ 255 := by
    rcases Nat.eq_zero_or_pos n with h | h
    · rw [h]; decide
    · exact (iv_ok h hn).2.1
  refine g_iconst (v := nI (0)) C dX5_substituteOf_0 (by decide) ?_
  refine g_istore_n (lv' := [(1, .int (nI (0))), (0, .int (nI (n)))]) C dX5_substituteOf_1 rfl (by decide) rfl ?_
  have lp2 : ∀ (n2 : Nat) (y : Nat), (y ≤ iv n) → iv n + 1 ≤ y + n2 → G g muX5_substituteOf E A 0 0 Q [] L F 2 [(0, .int (nI (n))), (1, .int (nI (y)))] [] := by
    intro n2
    induction n2 with
    | zero => intro y hy hfu2; exact absurd hfu2 (by omega)
    | succ n2 ih2 =>
      intro y hy hfu2
      refine g_iload_n C dX5_substituteOf_2 rfl 0 rfl ?_
      refine g_nif_le (tgt := 21) C dX5_substituteOf_3 (by decide) (by omega) (fun c3 => ?_) (fun c3 => ?_)
      · skip
        have hye : y = iv n := by
          have e : iv 0 = 0 := rfl
          rw [c3] at hy ⊢
          omega
        refine g_bipush (v := nI (99)) C dX5_substituteOf_21 (by decide) ?_
        refine g_istore_n (lv' := [(2, .int (nI (99))), (0, .int (nI (n))), (1, .int (nI (y)))]) C dX5_substituteOf_23 rfl (by decide) rfl ?_
        refine g_iconst (v := nI (0)) C dX5_substituteOf_24 (by decide) ?_
        refine g_istore_n (lv' := [(3, .int (nI (0))), (2, .int (nI (99))), (0, .int (nI (n))), (1, .int (nI (y)))]) C dX5_substituteOf_25 rfl (by decide) rfl ?_
        have lp26 : ∀ (n26 : Nat) (k : Nat) (z : Int32), (k ≤ 5) → (z = zS (nI y) k) → 6 ≤ k + n26 → G g muX5_substituteOf E A 0 0 Q [] L F 26 [(1, .int (nI (y))), (2, .int (z)), (3, .int (nI (k)))] [] := by
          intro n26
          induction n26 with
          | zero => intro k z hk hz hfu26; exact absurd hfu26 (by omega)
          | succ n26 ih26 =>
            intro k z hk hz hfu26
            refine g_iload_n C dX5_substituteOf_26 rfl 2 rfl ?_
            refine g_iconst (v := nI (5)) C dX5_substituteOf_27 (by decide) ?_
            refine g_nicmp_ge (tgt := 54) C dX5_substituteOf_28 (by decide) (by omega) (by omega) (fun c28 => ?_) (fun c28 => ?_)
            · skip
              refine g_iload_n C dX5_substituteOf_54 rfl 1 rfl ?_
              refine g_asi (show (z) = (TB n) from (by rw [hz, show k = 5 by omega, hye]; exact zS_TB n hn)) ?_
              exact g_iret C r rfl ⟨rfl, rfl, rfl, rfl, trivial⟩ rfl nN dX5_substituteOf_55
            · skip
              refine g_iload_n C dX5_substituteOf_31 rfl 1 rfl ?_
              refine g_iload_n C dX5_substituteOf_32 rfl 0 rfl ?_
              refine g_iload_n C dX5_substituteOf_33 rfl 2 rfl ?_
              refine g_ishl C dX5_substituteOf_34 ?_
              refine g_iload_n C dX5_substituteOf_35 rfl 0 rfl ?_
              refine g_bipush (v := nI (8)) C dX5_substituteOf_36 (by decide) ?_
              refine g_iload_n C dX5_substituteOf_38 rfl 2 rfl ?_
              refine g_isub C dX5_substituteOf_39 ?_
              refine g_asi (pk_sub (by omega)) ?_
              refine g_ishr C dX5_substituteOf_40 ?_
              refine g_ior C dX5_substituteOf_41 ?_
              refine g_sipush (v := nI (255)) C dX5_substituteOf_42 (by decide) ?_
              refine g_iand C dX5_substituteOf_45 ?_
              refine g_ixor C dX5_substituteOf_46 ?_
              refine g_istore_n (lv' := [(2, .int (z ^^^ ((((nI (y)) <<< ((nI (k)) &&& 31)) ||| ((nI (y)) >>> ((nI (8 - k)) &&& 31))) &&& (nI (255))))), (1, .int (nI (y))), (3, .int (nI (k)))]) C dX5_substituteOf_47 rfl (by decide) rfl ?_
              refine g_iinc (v := nI (k + 1)) (lv' := [(3, .int (nI (k + 1))), (2, .int (z ^^^ ((((nI (y)) <<< ((nI (k)) &&& 31)) ||| ((nI (y)) >>> ((nI (8 - k)) &&& 31))) &&& (nI (255))))), (1, .int (nI (y)))]) C dX5_substituteOf_48 2 rfl (nI_inc _ 1) (by decide) rfl ?_
              refine g_goto (tgt := 26) C dX5_substituteOf_51 (by decide) ?_
              refine g_lv [2, 1, 0] rfl ?_
              exact ih26 (k + 1) (z ^^^ ((((nI (y)) <<< ((nI (k)) &&& 31)) ||| ((nI (y)) >>> ((nI (8 - k)) &&& 31))) &&& (nI (255)))) (by omega) (by rw [hz]; rfl) (by omega)
        refine g_lv [3, 1, 0] rfl ?_
        exact lp26 6 0 (nI 99) (by omega) rfl (by omega)
      · skip
        refine g_iload_n C dX5_substituteOf_6 rfl 0 rfl ?_
        refine g_iload_n C dX5_substituteOf_7 rfl 1 rfl ?_
        refine g_callS (v := muX5_product) (cx := []) C (k_X5_product (gl g) E (nI (n)) (nI (y)) L F ) [] rfl (by decide) gi_X5_65 hd_X5_product.2 ⟨Nat.le_of_ble_eq_true rfl, Nat.le_of_ble_eq_true rfl⟩ rfl rfl (Nat.le_of_ble_eq_true rfl) ⟨Nat.le_of_ble_eq_true rfl, Nat.le_of_ble_eq_true rfl⟩ dX5_substituteOf_8 (fun r9 cx9 L9 F9 hp9 hf9 hN9 => ?_)
        obtain ⟨rfl, rfl, rfl, rfl, -⟩ := hp9
        show G g muX5_substituteOf E A 0 0 Q [] L F 11 [(0, .int (nI (n))), (1, .int (nI (y)))] [.int (pr (nI (n)) (nI (y)))]
        refine g_iconst (v := nI (1)) C dX5_substituteOf_11 (by decide) ?_
        refine g_icmp_eq (tgt := 21) C dX5_substituteOf_12 (by decide) (fun c12 => ?_) (fun c12 => ?_)
        · skip
          have hye := iv_eq c3 hn hy c12
          refine g_bipush (v := nI (99)) C dX5_substituteOf_21 (by decide) ?_
          refine g_istore_n (lv' := [(2, .int (nI (99))), (0, .int (nI (n))), (1, .int (nI (y)))]) C dX5_substituteOf_23 rfl (by decide) rfl ?_
          refine g_iconst (v := nI (0)) C dX5_substituteOf_24 (by decide) ?_
          refine g_istore_n (lv' := [(3, .int (nI (0))), (2, .int (nI (99))), (0, .int (nI (n))), (1, .int (nI (y)))]) C dX5_substituteOf_25 rfl (by decide) rfl ?_
          have lp26 : ∀ (n26 : Nat) (k : Nat) (z : Int32), (k ≤ 5) → (z = zS (nI y) k) → 6 ≤ k + n26 → G g muX5_substituteOf E A 0 0 Q [] L F 26 [(1, .int (nI (y))), (2, .int (z)), (3, .int (nI (k)))] [] := by
            intro n26
            induction n26 with
            | zero => intro k z hk hz hfu26; exact absurd hfu26 (by omega)
            | succ n26 ih26 =>
              intro k z hk hz hfu26
              refine g_iload_n C dX5_substituteOf_26 rfl 2 rfl ?_
              refine g_iconst (v := nI (5)) C dX5_substituteOf_27 (by decide) ?_
              refine g_nicmp_ge (tgt := 54) C dX5_substituteOf_28 (by decide) (by omega) (by omega) (fun c28 => ?_) (fun c28 => ?_)
              · skip
                refine g_iload_n C dX5_substituteOf_54 rfl 1 rfl ?_
                refine g_asi (show (z) = (TB n) from (by rw [hz, show k = 5 by omega, hye]; exact zS_TB n hn)) ?_
                exact g_iret C r rfl ⟨rfl, rfl, rfl, rfl, trivial⟩ rfl nN dX5_substituteOf_55
              · skip
                refine g_iload_n C dX5_substituteOf_31 rfl 1 rfl ?_
                refine g_iload_n C dX5_substituteOf_32 rfl 0 rfl ?_
                refine g_iload_n C dX5_substituteOf_33 rfl 2 rfl ?_
                refine g_ishl C dX5_substituteOf_34 ?_
                refine g_iload_n C dX5_substituteOf_35 rfl 0 rfl ?_
                refine g_bipush (v := nI (8)) C dX5_substituteOf_36 (by decide) ?_
                refine g_iload_n C dX5_substituteOf_38 rfl 2 rfl ?_
                refine g_isub C dX5_substituteOf_39 ?_
                refine g_asi (pk_sub (by omega)) ?_
                refine g_ishr C dX5_substituteOf_40 ?_
                refine g_ior C dX5_substituteOf_41 ?_
                refine g_sipush (v := nI (255)) C dX5_substituteOf_42 (by decide) ?_
                refine g_iand C dX5_substituteOf_45 ?_
                refine g_ixor C dX5_substituteOf_46 ?_
                refine g_istore_n (lv' := [(2, .int (z ^^^ ((((nI (y)) <<< ((nI (k)) &&& 31)) ||| ((nI (y)) >>> ((nI (8 - k)) &&& 31))) &&& (nI (255))))), (1, .int (nI (y))), (3, .int (nI (k)))]) C dX5_substituteOf_47 rfl (by decide) rfl ?_
                refine g_iinc (v := nI (k + 1)) (lv' := [(3, .int (nI (k + 1))), (2, .int (z ^^^ ((((nI (y)) <<< ((nI (k)) &&& 31)) ||| ((nI (y)) >>> ((nI (8 - k)) &&& 31))) &&& (nI (255))))), (1, .int (nI (y)))]) C dX5_substituteOf_48 2 rfl (nI_inc _ 1) (by decide) rfl ?_
                refine g_goto (tgt := 26) C dX5_substituteOf_51 (by decide) ?_
                refine g_lv [2, 1, 0] rfl ?_
                exact ih26 (k + 1) (z ^^^ ((((nI (y)) <<< ((nI (k)) &&& 31)) ||| ((nI (y)) >>> ((nI (8 - k)) &&& 31))) &&& (nI (255)))) (by omega) (by rw [hz]; rfl) (by omega)
          refine g_lv [3, 1, 0] rfl ?_
          exact lp26 6 0 (nI 99) (by omega) rfl (by omega)
        · skip
          refine g_iinc (v := nI (y + 1)) (lv' := [(1, .int (nI (y + 1))), (0, .int (nI (n)))]) C dX5_substituteOf_15 1 rfl (nI_inc _ 1) (by decide) rfl ?_
          refine g_goto (tgt := 2) C dX5_substituteOf_18 (by decide) ?_
          refine g_lv [1, 0] rfl ?_
          exact ih2 (y + 1) (iv_lt c3 hn hy c12) (by omega)
  refine g_lv [1, 0] rfl ?_
  exact lp2 (iv n + 1) 0 (Nat.zero_le _) (by omega)
abbrev muX5_makeRound : Mu := (cX5_makeRound, 7, RX5, none, "makeRound", 1, 0, 0, 24)
theorem hd_X5_makeRound : yX5_makeRound.cls = RX5 ∧ yX5_makeRound.cls ≠ "java/lang/invoke/MethodHandle" ∧ yX5_makeRound.cls ≠ "java/lang/invoke/VarHandle" ∧ (parseMethodDescriptor yX5_makeRound.desc).map (fun d => d.parameters.length) = some 1 := by decide +kernel
set_option maxHeartbeats 4000000 in
set_option maxRecDepth 100000 in
theorem k_X5_makeRound (l : Launch) (E : Ev) (mm oc nx ia ms ot my co bd bk oh rd mk rw ss : Nat) (cd : Int32) (nk ln os : Nat) (tp : Int64) (foc frd K : Nat → Int32) (bs : Nat) (L : List Nat) (F : Nat → va_E) (hbs : bs + 16 ≤ 272) (hfc : ∀ i, i < 16 → foc (bs + i) = K i) (hK : ∀ i, i < 16 → isO (K i)) : KC l E yX5_makeRound muX5_makeRound [.ref mm, .int (nI (bs))] [(mm, .inr (7, [.int (cd), .int (nI (nk)), .ref oc, .ref nx, .ref ia, .ref ms, .int (nI (ln)), .int (nI (os)), .ref ot, .long (tp), .ref my, .ref co, .ref bd, .ref bk, .ref oh, .ref rd, .ref mk, .ref rw, .ref ss])), (oc, aI E 272 (foc)), (rd, aI E 176 (frd)), (ss, aI E 256 (TB))] L F (fun r8 cx8 L8 F8 => r8 = none ∧ cx8 = [(mm, .inr (7, [.int (cd), .int (nI (nk)), .ref oc, .ref nx, .ref ia, .ref ms, .int (nI (ln)), .int (nI (os)), .ref ot, .long (tp), .ref my, .ref co, .ref bd, .ref bk, .ref oh, .ref rd, .ref mk, .ref rw, .ref ss])), (oc, aI E 272 (foc)), (rd, aI E 176 (rk K)), (ss, aI E 256 (TB))] ∧ L = L8 ∧ F = F8 ∧ (True)) := by
  refine K_start (by decide) rfl rfl (Nat.le_of_ble_eq_true rfl) (fun g A Q hgl C r => ?_)
  subst hgl
  show G g muX5_makeRound E A 0 0 Q [(mm, .inr (7, [.int (cd), .int (nI (nk)), .ref oc, .ref nx, .ref ia, .ref ms, .int (nI (ln)), .int (nI (os)), .ref ot, .long (tp), .ref my, .ref co, .ref bd, .ref bk, .ref oh, .ref rd, .ref mk, .ref rw, .ref ss])), (oc, aI E 272 (foc)), (rd, aI E 176 (frd)), (ss, aI E 256 (TB))] L F 0 [(0, .ref mm), (1, .int (nI (bs)))] []
  refine g_iconst (v := nI (0)) C dX5_makeRound_0 (by decide) ?_
  refine g_istore_n (lv' := [(2, .int (nI (0))), (0, .ref mm), (1, .int (nI (bs)))]) C dX5_makeRound_1 rfl (by decide) rfl ?_
  have lp2 : ∀ (n2 : Nat) (i : Nat) (f1 : Nat → Int32), (i ≤ 16) → (pfx f1 (rk K) i) → 17 ≤ i + n2 → G g muX5_makeRound E A 0 0 Q [(mm, .inr (7, [.int (cd), .int (nI (nk)), .ref oc, .ref nx, .ref ia, .ref ms, .int (nI (ln)), .int (nI (os)), .ref ot, .long (tp), .ref my, .ref co, .ref bd, .ref bk, .ref oh, .ref rd, .ref mk, .ref rw, .ref ss])), (oc, aI E 272 (foc)), (rd, aI E 176 (f1)), (ss, aI E 256 (TB))] L F 2 [(0, .ref mm), (1, .int (nI (bs))), (2, .int (nI (i)))] [] := by
    intro n2
    induction n2 with
    | zero => intro i f1 hi hf hfu2; exact absurd hfu2 (by omega)
    | succ n2 ih2 =>
      intro i f1 hi hf hfu2
      refine g_iload_n C dX5_makeRound_2 rfl 2 rfl ?_
      refine g_bipush (v := nI (16)) C dX5_makeRound_3 (by decide) ?_
      refine g_nicmp_ge (tgt := 28) C dX5_makeRound_5 (by decide) (by omega) (by omega) (fun c5 => ?_) (fun c5 => ?_)
      · skip
        refine g_iconst (v := nI (1)) C dX5_makeRound_28 (by decide) ?_
        refine g_istore_n (lv' := [(2, .int (nI (1))), (0, .ref mm), (1, .int (nI (bs)))]) C dX5_makeRound_29 rfl (by decide) rfl ?_
        refine g_bipush (v := nI (16)) C dX5_makeRound_30 (by decide) ?_
        refine g_istore_n (lv' := [(3, .int (nI (16))), (2, .int (nI (1))), (0, .ref mm), (1, .int (nI (bs)))]) C dX5_makeRound_32 rfl (by decide) rfl ?_
        have lp33 : ∀ (n33 : Nat) (k : Nat) (f2 : Nat → Int32), (16 ≤ k) → (k ≤ 176) → (pfx f2 (rk K) k) → 177 ≤ k + n33 → G g muX5_makeRound E A 0 0 Q [(mm, .inr (7, [.int (cd), .int (nI (nk)), .ref oc, .ref nx, .ref ia, .ref ms, .int (nI (ln)), .int (nI (os)), .ref ot, .long (tp), .ref my, .ref co, .ref bd, .ref bk, .ref oh, .ref rd, .ref mk, .ref rw, .ref ss])), (oc, aI E 272 (foc)), (rd, aI E 176 (f2)), (ss, aI E 256 (TB))] L F 33 [(0, .ref mm), (1, .int (nI (bs))), (2, .int (pwT ((k + 15) / 16 - 1))), (3, .int (nI (k)))] [] := by
          intro n33
          induction n33 with
          | zero => intro k f2 hk1 hk2 hf2 hfu33; exact absurd hfu33 (by omega)
          | succ n33 ih33 =>
            intro k f2 hk1 hk2 hf2 hfu33
            refine g_iload_n C dX5_makeRound_33 rfl 3 rfl ?_
            refine g_sipush (v := nI (176)) C dX5_makeRound_34 (by decide) ?_
            refine g_nicmp_ge (tgt := 165) C dX5_makeRound_37 (by decide) (by omega) (by omega) (fun c37 => ?_) (fun c37 => ?_)
            · skip
              refine g_cgI (f' := rk K) (X' := [(mm, .inr (7, [.int (cd), .int (nI (nk)), .ref oc, .ref nx, .ref ia, .ref ms, .int (nI (ln)), .int (nI (os)), .ref ot, .long (tp), .ref my, .ref co, .ref bd, .ref bk, .ref oh, .ref rd, .ref mk, .ref rw, .ref ss])), (oc, aI E 272 (foc)), (rd, aI E 176 (rk K)), (ss, aI E 256 (TB))]) 2 rfl (fun j hj => hf2 j (by omega)) rfl ?_
              exact g_vret C r rfl ⟨rfl, rfl, rfl, rfl, trivial⟩ rfl nN dX5_makeRound_165
            · skip
              refine g_iload_n C dX5_makeRound_40 rfl 3 rfl ?_
              refine g_iconst (v := nI (4)) C dX5_makeRound_41 (by decide) ?_
              refine g_irem C dX5_makeRound_42 (by decide) ?_
              refine g_asi (pk_rem (by omega) (by decide) (by decide)) ?_
              refine g_istore (lv' := [(4, .int (nI (k % 4))), (0, .ref mm), (1, .int (nI (bs))), (2, .int (pwT ((k + 15) / 16 - 1))), (3, .int (nI (k)))]) C dX5_makeRound_43 (by decide) rfl ?_
              refine g_iload_n C dX5_makeRound_45 rfl 4 rfl ?_
              refine g_bipush (v := nI (16)) C dX5_makeRound_46 (by decide) ?_
              refine g_irem C dX5_makeRound_48 (by decide) ?_
              refine g_asi (pk_rem (by omega) (by decide) (by decide)) ?_
              refine g_iconst (v := nI (4)) C dX5_makeRound_49 (by decide) ?_
              refine g_nicmp_ge (tgt := 57) C dX5_makeRound_50 (by decide) (by omega) (by omega) (fun c50 => ?_) (fun c50 => ?_)
              · skip
                refine g_iconst (v := nI (0)) C dX5_makeRound_57 (by decide) ?_
                refine g_istore (lv' := [(5, .int (nI (0))), (4, .int (nI (k % 4))), (0, .ref mm), (1, .int (nI (bs))), (2, .int (pwT ((k + 15) / 16 - 1))), (3, .int (nI (k)))]) C dX5_makeRound_58 (by decide) rfl ?_
                refine g_iload C dX5_makeRound_60 0 rfl ?_
                refine g_nif_eq (tgt := 90) C dX5_makeRound_62 (by decide) (by omega) (fun c62 => ?_) (fun c62 => ?_)
                · skip
                  refine g_aload_n C dX5_makeRound_90 rfl 2 rfl ?_
                  refine g_getX C 0 rfl rfl inX5 15 (by decide) m_435 rfl dX5_makeRound_91 ?_
                  refine g_iload_n C dX5_makeRound_94 rfl 5 rfl ?_
                  refine g_iconst (v := nI (4)) C dX5_makeRound_95 (by decide) ?_
                  refine g_isub C dX5_makeRound_96 ?_
                  refine g_asi (pk_sub (by omega)) ?_
                  refine g_iald C 2 rfl (by omega) (by decide) dX5_makeRound_97 ?_
                  refine g_istore (lv' := [(6, .int (f2 (k - 4))), (5, .int (nI (0))), (4, .int (nI (k % 4))), (0, .ref mm), (1, .int (nI (bs))), (2, .int (pwT ((k + 15) / 16 - 1))), (3, .int (nI (k)))]) C dX5_makeRound_98 (by decide) rfl ?_
                  refine g_iload C dX5_makeRound_100 1 rfl ?_
                  refine g_nif_eq (tgt := 117) C dX5_makeRound_102 (by decide) (by omega) (fun c102 => ?_) (fun c102 => ?_)
                  · skip
                    refine g_iload C dX5_makeRound_117 0 rfl ?_
                    refine g_istore (lv' := [(6, .int (f2 (k - 4))), (5, .int (nI (0))), (4, .int (nI (k % 4))), (0, .ref mm), (1, .int (nI (bs))), (2, .int (pwT ((k + 15) / 16 - 1))), (3, .int (nI (k)))]) C dX5_makeRound_119 (by decide) rfl ?_
                    refine g_iload C dX5_makeRound_121 1 rfl ?_
                    refine g_nif_eq (tgt := 139) C dX5_makeRound_123 (by decide) (by omega) (fun c123 => ?_) (fun c123 => ?_)
                    · skip
                      refine g_iload_n C dX5_makeRound_139 rfl 5 rfl ?_
                      refine g_asi (show (pwT ((k + 15) / 16 - 1)) = (pwT ((k + 1 + 15) / 16 - 1)) from (by rw [show (k + 1 + 15) / 16 - 1 = (k + 15) / 16 - 1 by omega])) ?_
                      refine g_istore_n (lv' := [(2, .int (pwT ((k + 1 + 15) / 16 - 1))), (6, .int (f2 (k - 4))), (5, .int (nI (0))), (4, .int (nI (k % 4))), (0, .ref mm), (1, .int (nI (bs))), (3, .int (nI (k)))]) C dX5_makeRound_140 rfl (by decide) rfl ?_
                      refine g_aload_n C dX5_makeRound_141 rfl 4 rfl ?_
                      refine g_getX C 0 rfl rfl inX5 15 (by decide) m_435 rfl dX5_makeRound_142 ?_
                      refine g_iload_n C dX5_makeRound_145 rfl 6 rfl ?_
                      refine g_aload_n C dX5_makeRound_146 rfl 4 rfl ?_
                      refine g_getX C 0 rfl rfl inX5 15 (by decide) m_435 rfl dX5_makeRound_147 ?_
                      refine g_iload_n C dX5_makeRound_150 rfl 6 rfl ?_
                      refine g_bipush (v := nI (16)) C dX5_makeRound_151 (by decide) ?_
                      refine g_isub C dX5_makeRound_153 ?_
                      refine g_asi (pk_sub (by omega)) ?_
                      refine g_iald C 2 rfl (by omega) (by decide) dX5_makeRound_154 ?_
                      refine g_iload C dX5_makeRound_155 1 rfl ?_
                      refine g_ixor C dX5_makeRound_157 ?_
                      refine g_asi (show ((f2 (k - 16)) ^^^ (f2 (k - 4))) = (rk K k) from rkS2 hk1 hf2 c50) ?_
                      refine g_iast (X' := [(mm, .inr (7, [.int (cd), .int (nI (nk)), .ref oc, .ref nx, .ref ia, .ref ms, .int (nI (ln)), .int (nI (os)), .ref ot, .long (tp), .ref my, .ref co, .ref bd, .ref bk, .ref oh, .ref rd, .ref mk, .ref rw, .ref ss])), (oc, aI E 272 (foc)), (rd, aI E 176 (upd f2 k (rk K k))), (ss, aI E 256 (TB))]) C 2 rfl (by omega) (by decide) rfl dX5_makeRound_158 ?_
                      refine g_iinc (v := nI (k + 1)) (lv' := [(3, .int (nI (k + 1))), (2, .int (pwT ((k + 1 + 15) / 16 - 1))), (6, .int (f2 (k - 4))), (5, .int (nI (0))), (4, .int (nI (k % 4))), (0, .ref mm), (1, .int (nI (bs)))]) C dX5_makeRound_159 6 rfl (nI_inc _ 1) (by decide) rfl ?_
                      refine g_goto (tgt := 33) C dX5_makeRound_162 (by decide) ?_
                      refine g_lv [5, 6, 1, 0] rfl ?_
                      exact ih33 (k + 1) (upd f2 k (rk K k)) (by omega) (by omega) (pfS hf2 rfl) (by omega)
                    · skip
                      exact absurd rfl c123
                  · skip
                    exact absurd rfl c102
                · skip
                  exact absurd rfl c62
              · skip
                refine g_iconst (v := nI (1)) C dX5_makeRound_53 (by decide) ?_
                refine g_goto (tgt := 58) C dX5_makeRound_54 (by decide) ?_
                refine g_istore (lv' := [(5, .int (nI (1))), (4, .int (nI (k % 4))), (0, .ref mm), (1, .int (nI (bs))), (2, .int (pwT ((k + 15) / 16 - 1))), (3, .int (nI (k)))]) C dX5_makeRound_58 (by decide) rfl ?_
                refine g_iload C dX5_makeRound_60 0 rfl ?_
                refine g_nif_eq (tgt := 90) C dX5_makeRound_62 (by decide) (by omega) (fun c62 => ?_) (fun c62 => ?_)
                · skip
                  exact absurd c62 (by omega)
                · skip
                  refine g_aload_n C dX5_makeRound_65 rfl 2 rfl ?_
                  refine g_aload_n C dX5_makeRound_66 rfl 2 rfl ?_
                  refine g_getX C 0 rfl rfl inX5 15 (by decide) m_435 rfl dX5_makeRound_67 ?_
                  refine g_iload_n C dX5_makeRound_70 rfl 5 rfl ?_
                  refine g_iconst (v := nI (4)) C dX5_makeRound_71 (by decide) ?_
                  refine g_isub C dX5_makeRound_72 ?_
                  refine g_asi (pk_sub (by omega)) ?_
                  refine g_iload C dX5_makeRound_73 1 rfl ?_
                  refine g_isub C dX5_makeRound_75 ?_
                  refine g_asi (pk_sub (by omega)) ?_
                  refine g_iload C dX5_makeRound_76 1 rfl ?_
                  refine g_iconst (v := nI (1)) C dX5_makeRound_78 (by decide) ?_
                  refine g_iadd C dX5_makeRound_79 ?_
                  refine g_asi (nI_add _ _) ?_
                  refine g_iconst (v := nI (4)) C dX5_makeRound_80 (by decide) ?_
                  refine g_irem C dX5_makeRound_81 (by decide) ?_
                  refine g_asi (pk_rem (by omega) (by decide) (by decide)) ?_
                  refine g_iadd C dX5_makeRound_82 ?_
                  refine g_asi (nI_add _ _) ?_
                  refine g_iald C 2 rfl (by omega) (by decide) dX5_makeRound_83 ?_
                  refine g_callV (v := muX5_substitute) (cx := [(mm, .inr (7, [.int (cd), .int (nI (nk)), .ref oc, .ref nx, .ref ia, .ref ms, .int (nI (ln)), .int (nI (os)), .ref ot, .long (tp), .ref my, .ref co, .ref bd, .ref bk, .ref oh, .ref rd, .ref mk, .ref rw, .ref ss])), (ss, aI E 256 (TB))]) C (k_X5_substitute (gl g) E mm oc nx ia ms ot my co bd bk oh rd mk rw ss cd nk ln os tp (f2 (((k - 4) - (k % 4)) + (((k % 4) + 1) % 4))) L F (by rw [hf2 _ (by omega)]; exact rk_O hK _)) [0, 3] rfl (by decide) 0 rfl rfl gi_X5_69 hd_X5_substitute ⟨Nat.le_of_ble_eq_true rfl, Nat.le_of_ble_eq_true rfl⟩ rfl rfl (Nat.le_of_ble_eq_true rfl) ⟨Nat.le_of_ble_eq_true rfl, Nat.le_of_ble_eq_true rfl⟩ dX5_makeRound_84 (fun r9 cx9 L9 F9 hp9 hf9 hN9 => ?_)
                  obtain ⟨rfl, rfl, rfl, rfl, -⟩ := hp9
                  show G g muX5_makeRound E A 0 0 Q [(mm, .inr (7, [.int (cd), .int (nI (nk)), .ref oc, .ref nx, .ref ia, .ref ms, .int (nI (ln)), .int (nI (os)), .ref ot, .long (tp), .ref my, .ref co, .ref bd, .ref bk, .ref oh, .ref rd, .ref mk, .ref rw, .ref ss])), (oc, aI E 272 (foc)), (rd, aI E 176 (f2)), (ss, aI E 256 (TB))] L F 87 [(5, .int (nI (1))), (4, .int (nI (k % 4))), (0, .ref mm), (1, .int (nI (bs))), (2, .int (pwT ((k + 15) / 16 - 1))), (3, .int (nI (k)))] [.int (sb (f2 (((k - 4) - (k % 4)) + (((k % 4) + 1) % 4))))]
                  refine g_goto (tgt := 98) C dX5_makeRound_87 (by decide) ?_
                  refine g_istore (lv' := [(6, .int (sb (f2 (((k - 4) - (k % 4)) + (((k % 4) + 1) % 4))))), (5, .int (nI (1))), (4, .int (nI (k % 4))), (0, .ref mm), (1, .int (nI (bs))), (2, .int (pwT ((k + 15) / 16 - 1))), (3, .int (nI (k)))]) C dX5_makeRound_98 (by decide) rfl ?_
                  refine g_iload C dX5_makeRound_100 1 rfl ?_
                  refine g_nif_eq (tgt := 117) C dX5_makeRound_102 (by decide) (by omega) (fun c102 => ?_) (fun c102 => ?_)
                  · skip
                    exact absurd c102 (by omega)
                  · skip
                    refine g_iload C dX5_makeRound_105 2 rfl ?_
                    refine g_nif_ne (tgt := 117) C dX5_makeRound_107 (by decide) (by omega) (fun c107 => ?_) (fun c107 => ?_)
                    · skip
                      refine g_iload C dX5_makeRound_117 0 rfl ?_
                      refine g_istore (lv' := [(6, .int (sb (f2 (((k - 4) - (k % 4)) + (((k % 4) + 1) % 4))))), (5, .int (nI (1))), (4, .int (nI (k % 4))), (0, .ref mm), (1, .int (nI (bs))), (2, .int (pwT ((k + 15) / 16 - 1))), (3, .int (nI (k)))]) C dX5_makeRound_119 (by decide) rfl ?_
                      refine g_iload C dX5_makeRound_121 1 rfl ?_
                      refine g_nif_eq (tgt := 139) C dX5_makeRound_123 (by decide) (by omega) (fun c123 => ?_) (fun c123 => ?_)
                      · skip
                        exact absurd c123 (by omega)
                      · skip
                        refine g_iload C dX5_makeRound_126 2 rfl ?_
                        refine g_nif_ne (tgt := 139) C dX5_makeRound_128 (by decide) (by omega) (fun c128 => ?_) (fun c128 => ?_)
                        · skip
                          refine g_iload_n C dX5_makeRound_139 rfl 5 rfl ?_
                          refine g_asi (show (pwT ((k + 15) / 16 - 1)) = (pwT ((k + 1 + 15) / 16 - 1)) from (by rw [show (k + 1 + 15) / 16 - 1 = (k + 15) / 16 - 1 by omega])) ?_
                          refine g_istore_n (lv' := [(2, .int (pwT ((k + 1 + 15) / 16 - 1))), (6, .int (sb (f2 (((k - 4) - (k % 4)) + (((k % 4) + 1) % 4))))), (5, .int (nI (1))), (4, .int (nI (k % 4))), (0, .ref mm), (1, .int (nI (bs))), (3, .int (nI (k)))]) C dX5_makeRound_140 rfl (by decide) rfl ?_
                          refine g_aload_n C dX5_makeRound_141 rfl 4 rfl ?_
                          refine g_getX C 0 rfl rfl inX5 15 (by decide) m_435 rfl dX5_makeRound_142 ?_
                          refine g_iload_n C dX5_makeRound_145 rfl 6 rfl ?_
                          refine g_aload_n C dX5_makeRound_146 rfl 4 rfl ?_
                          refine g_getX C 0 rfl rfl inX5 15 (by decide) m_435 rfl dX5_makeRound_147 ?_
                          refine g_iload_n C dX5_makeRound_150 rfl 6 rfl ?_
                          refine g_bipush (v := nI (16)) C dX5_makeRound_151 (by decide) ?_
                          refine g_isub C dX5_makeRound_153 ?_
                          refine g_asi (pk_sub (by omega)) ?_
                          refine g_iald C 2 rfl (by omega) (by decide) dX5_makeRound_154 ?_
                          refine g_iload C dX5_makeRound_155 1 rfl ?_
                          refine g_ixor C dX5_makeRound_157 ?_
                          refine g_asi (show ((f2 (k - 16)) ^^^ (sb (f2 (((k - 4) - (k % 4)) + (((k % 4) + 1) % 4))))) = (rk K k) from rkS1 hk1 hf2 c50 c107) ?_
                          refine g_iast (X' := [(mm, .inr (7, [.int (cd), .int (nI (nk)), .ref oc, .ref nx, .ref ia, .ref ms, .int (nI (ln)), .int (nI (os)), .ref ot, .long (tp), .ref my, .ref co, .ref bd, .ref bk, .ref oh, .ref rd, .ref mk, .ref rw, .ref ss])), (oc, aI E 272 (foc)), (rd, aI E 176 (upd f2 k (rk K k))), (ss, aI E 256 (TB))]) C 2 rfl (by omega) (by decide) rfl dX5_makeRound_158 ?_
                          refine g_iinc (v := nI (k + 1)) (lv' := [(3, .int (nI (k + 1))), (2, .int (pwT ((k + 1 + 15) / 16 - 1))), (6, .int (sb (f2 (((k - 4) - (k % 4)) + (((k % 4) + 1) % 4))))), (5, .int (nI (1))), (4, .int (nI (k % 4))), (0, .ref mm), (1, .int (nI (bs)))]) C dX5_makeRound_159 6 rfl (nI_inc _ 1) (by decide) rfl ?_
                          refine g_goto (tgt := 33) C dX5_makeRound_162 (by decide) ?_
                          refine g_lv [5, 6, 1, 0] rfl ?_
                          exact ih33 (k + 1) (upd f2 k (rk K k)) (by omega) (by omega) (pfS hf2 rfl) (by omega)
                        · skip
                          exact absurd c128 c107
                    · skip
                      refine g_iload C dX5_makeRound_110 0 rfl ?_
                      refine g_iload_n C dX5_makeRound_112 rfl 5 rfl ?_
                      refine g_ixor C dX5_makeRound_113 ?_
                      refine g_goto (tgt := 119) C dX5_makeRound_114 (by decide) ?_
                      refine g_istore (lv' := [(6, .int ((sb (f2 (((k - 4) - (k % 4)) + (((k % 4) + 1) % 4)))) ^^^ (pwT ((k + 15) / 16 - 1)))), (5, .int (nI (1))), (4, .int (nI (k % 4))), (0, .ref mm), (1, .int (nI (bs))), (2, .int (pwT ((k + 15) / 16 - 1))), (3, .int (nI (k)))]) C dX5_makeRound_119 (by decide) rfl ?_
                      refine g_iload C dX5_makeRound_121 1 rfl ?_
                      refine g_nif_eq (tgt := 139) C dX5_makeRound_123 (by decide) (by omega) (fun c123 => ?_) (fun c123 => ?_)
                      · skip
                        exact absurd c123 (by omega)
                      · skip
                        refine g_iload C dX5_makeRound_126 2 rfl ?_
                        refine g_nif_ne (tgt := 139) C dX5_makeRound_128 (by decide) (by omega) (fun c128 => ?_) (fun c128 => ?_)
                        · skip
                          exact absurd c107 c128
                        · skip
                          refine g_iload_n C dX5_makeRound_131 rfl 5 rfl ?_
                          refine g_iconst (v := nI (2)) C dX5_makeRound_132 (by decide) ?_
                          refine g_callS (v := muX5_product) (cx := []) C (k_X5_product (gl g) E (pwT ((k + 15) / 16 - 1)) (nI (2)) L F ) [] rfl (by decide) gi_X5_65 hd_X5_product.2 ⟨Nat.le_of_ble_eq_true rfl, Nat.le_of_ble_eq_true rfl⟩ rfl rfl (Nat.le_of_ble_eq_true rfl) ⟨Nat.le_of_ble_eq_true rfl, Nat.le_of_ble_eq_true rfl⟩ dX5_makeRound_133 (fun r9 cx9 L9 F9 hp9 hf9 hN9 => ?_)
                          obtain ⟨rfl, rfl, rfl, rfl, -⟩ := hp9
                          show G g muX5_makeRound E A 0 0 Q [(mm, .inr (7, [.int (cd), .int (nI (nk)), .ref oc, .ref nx, .ref ia, .ref ms, .int (nI (ln)), .int (nI (os)), .ref ot, .long (tp), .ref my, .ref co, .ref bd, .ref bk, .ref oh, .ref rd, .ref mk, .ref rw, .ref ss])), (oc, aI E 272 (foc)), (rd, aI E 176 (f2)), (ss, aI E 256 (TB))] L F 136 [(6, .int ((sb (f2 (((k - 4) - (k % 4)) + (((k % 4) + 1) % 4)))) ^^^ (pwT ((k + 15) / 16 - 1)))), (5, .int (nI (1))), (4, .int (nI (k % 4))), (0, .ref mm), (1, .int (nI (bs))), (2, .int (pwT ((k + 15) / 16 - 1))), (3, .int (nI (k)))] [.int (pr (pwT ((k + 15) / 16 - 1)) (nI (2)))]
                          refine g_asi (show (pr (pwT ((k + 15) / 16 - 1)) (nI (2))) = (pwT ((k + 1 + 15) / 16 - 1)) from (by rw [pr_2 (pw_O _), show (k + 1 + 15) / 16 - 1 = (k + 15) / 16 - 1 + 1 by omega]; rfl)) ?_
                          refine g_goto (tgt := 140) C dX5_makeRound_136 (by decide) ?_
                          refine g_istore_n (lv' := [(2, .int (pwT ((k + 1 + 15) / 16 - 1))), (6, .int ((sb (f2 (((k - 4) - (k % 4)) + (((k % 4) + 1) % 4)))) ^^^ (pwT ((k + 15) / 16 - 1)))), (5, .int (nI (1))), (4, .int (nI (k % 4))), (0, .ref mm), (1, .int (nI (bs))), (3, .int (nI (k)))]) C dX5_makeRound_140 rfl (by decide) rfl ?_
                          refine g_aload_n C dX5_makeRound_141 rfl 4 rfl ?_
                          refine g_getX C 0 rfl rfl inX5 15 (by decide) m_435 rfl dX5_makeRound_142 ?_
                          refine g_iload_n C dX5_makeRound_145 rfl 6 rfl ?_
                          refine g_aload_n C dX5_makeRound_146 rfl 4 rfl ?_
                          refine g_getX C 0 rfl rfl inX5 15 (by decide) m_435 rfl dX5_makeRound_147 ?_
                          refine g_iload_n C dX5_makeRound_150 rfl 6 rfl ?_
                          refine g_bipush (v := nI (16)) C dX5_makeRound_151 (by decide) ?_
                          refine g_isub C dX5_makeRound_153 ?_
                          refine g_asi (pk_sub (by omega)) ?_
                          refine g_iald C 2 rfl (by omega) (by decide) dX5_makeRound_154 ?_
                          refine g_iload C dX5_makeRound_155 1 rfl ?_
                          refine g_ixor C dX5_makeRound_157 ?_
                          refine g_asi (show ((f2 (k - 16)) ^^^ ((sb (f2 (((k - 4) - (k % 4)) + (((k % 4) + 1) % 4)))) ^^^ (pwT ((k + 15) / 16 - 1)))) = (rk K k) from rkS0 hk1 hf2 (by omega)) ?_
                          refine g_iast (X' := [(mm, .inr (7, [.int (cd), .int (nI (nk)), .ref oc, .ref nx, .ref ia, .ref ms, .int (nI (ln)), .int (nI (os)), .ref ot, .long (tp), .ref my, .ref co, .ref bd, .ref bk, .ref oh, .ref rd, .ref mk, .ref rw, .ref ss])), (oc, aI E 272 (foc)), (rd, aI E 176 (upd f2 k (rk K k))), (ss, aI E 256 (TB))]) C 2 rfl (by omega) (by decide) rfl dX5_makeRound_158 ?_
                          refine g_iinc (v := nI (k + 1)) (lv' := [(3, .int (nI (k + 1))), (2, .int (pwT ((k + 1 + 15) / 16 - 1))), (6, .int ((sb (f2 (((k - 4) - (k % 4)) + (((k % 4) + 1) % 4)))) ^^^ (pwT ((k + 15) / 16 - 1)))), (5, .int (nI (1))), (4, .int (nI (k % 4))), (0, .ref mm), (1, .int (nI (bs)))]) C dX5_makeRound_159 6 rfl (nI_inc _ 1) (by decide) rfl ?_
                          refine g_goto (tgt := 33) C dX5_makeRound_162 (by decide) ?_
                          refine g_lv [5, 6, 1, 0] rfl ?_
                          exact ih33 (k + 1) (upd f2 k (rk K k)) (by omega) (by omega) (pfS hf2 rfl) (by omega)
        refine g_lv [2, 3, 1, 0] rfl ?_
        exact lp33 177 16 f1 (Nat.le_refl _) (by omega) (fun j hj => hf j (by omega)) (by omega)
      · skip
        refine g_aload_n C dX5_makeRound_8 rfl 0 rfl ?_
        refine g_getX C 0 rfl rfl inX5 15 (by decide) m_435 rfl dX5_makeRound_9 ?_
        refine g_iload_n C dX5_makeRound_12 rfl 2 rfl ?_
        refine g_aload_n C dX5_makeRound_13 rfl 0 rfl ?_
        refine g_getX C 0 rfl rfl inX5 2 (by decide) m_422 rfl dX5_makeRound_14 ?_
        refine g_iload_n C dX5_makeRound_17 rfl 1 rfl ?_
        refine g_iload_n C dX5_makeRound_18 rfl 2 rfl ?_
        refine g_iadd C dX5_makeRound_19 ?_
        refine g_asi (nI_add _ _) ?_
        refine g_iald C 1 rfl (by omega) (by decide) dX5_makeRound_20 ?_
        refine g_iast (X' := [(mm, .inr (7, [.int (cd), .int (nI (nk)), .ref oc, .ref nx, .ref ia, .ref ms, .int (nI (ln)), .int (nI (os)), .ref ot, .long (tp), .ref my, .ref co, .ref bd, .ref bk, .ref oh, .ref rd, .ref mk, .ref rw, .ref ss])), (oc, aI E 272 (foc)), (rd, aI E 176 (upd f1 i (foc (bs + i)))), (ss, aI E 256 (TB))]) C 2 rfl (by omega) (by decide) rfl dX5_makeRound_21 ?_
        refine g_iinc (v := nI (i + 1)) (lv' := [(2, .int (nI (i + 1))), (0, .ref mm), (1, .int (nI (bs)))]) C dX5_makeRound_22 2 rfl (nI_inc _ 1) (by decide) rfl ?_
        refine g_goto (tgt := 2) C dX5_makeRound_25 (by decide) ?_
        refine g_lv [1, 2, 0] rfl ?_
        exact ih2 (i + 1) (upd f1 i (foc (bs + i))) (by omega) (pfS hf ((hfc i c5).trans (rk_0 K c5).symm)) (by omega)
  refine g_lv [1, 2, 0] rfl ?_
  exact lp2 17 0 frd (Nat.zero_le _) pf0 (by omega)
abbrev muX5_cipher : Mu := (cX5_cipher, 6, RX5, none, "cipher", 2, 0, 0, 50)
theorem hd_X5_cipher : yX5_cipher.cls = RX5 ∧ yX5_cipher.cls ≠ "java/lang/invoke/MethodHandle" ∧ yX5_cipher.cls ≠ "java/lang/invoke/VarHandle" ∧ (parseMethodDescriptor yX5_cipher.desc).map (fun d => d.parameters.length) = some 1 := by decide +kernel
set_option maxHeartbeats 4000000 in
set_option maxRecDepth 100000 in
theorem k_X5_cipher (l : Launch) (E : Ev) (mm oc nx ia ms ot my co bd bk oh rd mk rw ss : Nat) (cd : Int32) (nk ln os : Nat) (tp : Int64) (foc frd fbk foh K : Nat → Int32) (bs : Nat) (L : List Nat) (F : Nat → va_E) (hbs : bs + 16 ≤ 272) (hfc : ∀ i, i < 16 → foc (bs + i) = K i) (hK : ∀ i, i < 16 → isO (K i)) (hX : ∀ i, i < 16 → isO (fbk i)) : KC l E yX5_cipher muX5_cipher [.ref mm, .int (nI (bs))] [(mm, .inr (7, [.int (cd), .int (nI (nk)), .ref oc, .ref nx, .ref ia, .ref ms, .int (nI (ln)), .int (nI (os)), .ref ot, .long (tp), .ref my, .ref co, .ref bd, .ref bk, .ref oh, .ref rd, .ref mk, .ref rw, .ref ss])), (oc, aI E 272 (foc)), (rd, aI E 176 (frd)), (ss, aI E 256 (TB)), (bk, aI E 16 (fbk)), (oh, aI E 16 (foh))] L F (fun r8 cx8 L8 F8 => ∃ (foh1 : Nat → Int32), r8 = none ∧ cx8 = [(mm, .inr (7, [.int (cd), .int (nI (nk)), .ref oc, .ref nx, .ref ia, .ref ms, .int (nI (ln)), .int (nI (os)), .ref ot, .long (tp), .ref my, .ref co, .ref bd, .ref bk, .ref oh, .ref rd, .ref mk, .ref rw, .ref ss])), (oc, aI E 272 (foc)), (rd, aI E 176 (rk K)), (ss, aI E 256 (TB)), (bk, aI E 16 (ENC K fbk)), (oh, aI E 16 (foh1))] ∧ L = L8 ∧ F = F8 ∧ (True)) := by
  refine K_start (by decide) rfl rfl (Nat.le_of_ble_eq_true rfl) (fun g A Q hgl C r => ?_)
  subst hgl
  show G g muX5_cipher E A 0 0 Q [(mm, .inr (7, [.int (cd), .int (nI (nk)), .ref oc, .ref nx, .ref ia, .ref ms, .int (nI (ln)), .int (nI (os)), .ref ot, .long (tp), .ref my, .ref co, .ref bd, .ref bk, .ref oh, .ref rd, .ref mk, .ref rw, .ref ss])), (oc, aI E 272 (foc)), (rd, aI E 176 (frd)), (ss, aI E 256 (TB)), (bk, aI E 16 (fbk)), (oh, aI E 16 (foh))] L F 0 [(0, .ref mm), (1, .int (nI (bs)))] []
  refine g_aload_n C dX5_cipher_0 rfl 0 rfl ?_
  refine g_iload_n C dX5_cipher_1 rfl 1 rfl ?_
  refine g_callV (v := muX5_makeRound) (cx := [(mm, .inr (7, [.int (cd), .int (nI (nk)), .ref oc, .ref nx, .ref ia, .ref ms, .int (nI (ln)), .int (nI (os)), .ref ot, .long (tp), .ref my, .ref co, .ref bd, .ref bk, .ref oh, .ref rd, .ref mk, .ref rw, .ref ss])), (oc, aI E 272 (foc)), (rd, aI E 176 (frd)), (ss, aI E 256 (TB))]) C (k_X5_makeRound (gl g) E mm oc nx ia ms ot my co bd bk oh rd mk rw ss cd nk ln os tp foc frd K bs L F hbs hfc hK) [0, 1, 2, 3] rfl (by decide) 0 rfl rfl gi_X5_72 hd_X5_makeRound ⟨Nat.le_of_ble_eq_true rfl, Nat.le_of_ble_eq_true rfl⟩ rfl rfl (Nat.le_of_ble_eq_true rfl) ⟨Nat.le_of_ble_eq_true rfl, Nat.le_of_ble_eq_true rfl⟩ dX5_cipher_2 (fun r9 cx9 L9 F9 hp9 hf9 hN9 => ?_)
  obtain ⟨rfl, rfl, rfl, rfl, -⟩ := hp9
  show G g muX5_cipher E A 0 0 Q [(mm, .inr (7, [.int (cd), .int (nI (nk)), .ref oc, .ref nx, .ref ia, .ref ms, .int (nI (ln)), .int (nI (os)), .ref ot, .long (tp), .ref my, .ref co, .ref bd, .ref bk, .ref oh, .ref rd, .ref mk, .ref rw, .ref ss])), (oc, aI E 272 (foc)), (rd, aI E 176 (rk K)), (ss, aI E 256 (TB)), (bk, aI E 16 (fbk)), (oh, aI E 16 (foh))] L F 5 [(0, .ref mm), (1, .int (nI (bs)))] []
  refine g_iconst (v := nI (0)) C dX5_cipher_5 (by decide) ?_
  refine g_istore_n (lv' := [(2, .int (nI (0))), (0, .ref mm), (1, .int (nI (bs)))]) C dX5_cipher_6 rfl (by decide) rfl ?_
  have lp7 : ∀ (n7 : Nat) (i : Nat) (f1 : Nat → Int32), (i ≤ 16) → (mpF f1 (encN K fbk 0) fbk i 16) → 17 ≤ i + n7 → G g muX5_cipher E A 0 0 Q [(mm, .inr (7, [.int (cd), .int (nI (nk)), .ref oc, .ref nx, .ref ia, .ref ms, .int (nI (ln)), .int (nI (os)), .ref ot, .long (tp), .ref my, .ref co, .ref bd, .ref bk, .ref oh, .ref rd, .ref mk, .ref rw, .ref ss])), (oc, aI E 272 (foc)), (rd, aI E 176 (rk K)), (ss, aI E 256 (TB)), (bk, aI E 16 (f1)), (oh, aI E 16 (foh))] L F 7 [(0, .ref mm), (1, .int (nI (bs))), (2, .int (nI (i)))] [] := by
    intro n7
    induction n7 with
    | zero => intro i f1 hi hf hfu7; exact absurd hfu7 (by omega)
    | succ n7 ih7 =>
      intro i f1 hi hf hfu7
      refine g_iload_n C dX5_cipher_7 rfl 2 rfl ?_
      refine g_bipush (v := nI (16)) C dX5_cipher_8 (by decide) ?_
      refine g_nicmp_ge (tgt := 38) C dX5_cipher_10 (by decide) (by omega) (by omega) (fun c10 => ?_) (fun c10 => ?_)
      · skip
        refine g_cgI (f' := encN K fbk 0) (X' := [(mm, .inr (7, [.int (cd), .int (nI (nk)), .ref oc, .ref nx, .ref ia, .ref ms, .int (nI (ln)), .int (nI (os)), .ref ot, .long (tp), .ref my, .ref co, .ref bd, .ref bk, .ref oh, .ref rd, .ref mk, .ref rw, .ref ss])), (oc, aI E 272 (foc)), (rd, aI E 176 (rk K)), (ss, aI E 256 (TB)), (bk, aI E 16 (encN K fbk 0)), (oh, aI E 16 (foh))]) 4 rfl (mpE hf c10) rfl ?_
        refine g_iconst (v := nI (1)) C dX5_cipher_38 (by decide) ?_
        refine g_istore_n (lv' := [(2, .int (nI (1))), (0, .ref mm), (1, .int (nI (bs)))]) C dX5_cipher_39 rfl (by decide) rfl ?_
        have lp40 : ∀ (n40 : Nat) (j : Nat) (fo : Nat → Int32), (j ≤ 10) → 11 ≤ j + n40 → G g muX5_cipher E A 0 0 Q [(mm, .inr (7, [.int (cd), .int (nI (nk)), .ref oc, .ref nx, .ref ia, .ref ms, .int (nI (ln)), .int (nI (os)), .ref ot, .long (tp), .ref my, .ref co, .ref bd, .ref bk, .ref oh, .ref rd, .ref mk, .ref rw, .ref ss])), (oc, aI E 272 (foc)), (rd, aI E 176 (rk K)), (ss, aI E 256 (TB)), (bk, aI E 16 (encN K fbk j)), (oh, aI E 16 (fo))] L F 40 [(0, .ref mm), (1, .int (nI (bs))), (2, .int (nI (j + 1)))] [] := by
          intro n40
          induction n40 with
          | zero => intro j fo hj hfu40; exact absurd hfu40 (by omega)
          | succ n40 ih40 =>
            intro j fo hj hfu40
            refine g_iload_n C dX5_cipher_40 rfl 2 rfl ?_
            refine g_bipush (v := nI (11)) C dX5_cipher_41 (by decide) ?_
            refine g_nicmp_ge (tgt := 248) C dX5_cipher_43 (by decide) (by omega) (by omega) (fun c43 => ?_) (fun c43 => ?_)
            · skip
              obtain rfl : j = 10 := by omega
              exact g_vret C r rfl ⟨fo, rfl, rfl, rfl, rfl, trivial⟩ rfl nN dX5_cipher_248
            · skip
              refine g_iconst (v := nI (0)) C dX5_cipher_46 (by decide) ?_
              refine g_istore_n (lv' := [(3, .int (nI (0))), (0, .ref mm), (1, .int (nI (bs))), (2, .int (nI (j + 1)))]) C dX5_cipher_47 rfl (by decide) rfl ?_
              have lp48 : ∀ (n48 : Nat) (c : Nat) (fo1 : Nat → Int32), (c ≤ 4) → (pfx fo1 (SR (encN K fbk j)) (4 * c)) → 5 ≤ c + n48 → G g muX5_cipher E A 0 0 Q [(mm, .inr (7, [.int (cd), .int (nI (nk)), .ref oc, .ref nx, .ref ia, .ref ms, .int (nI (ln)), .int (nI (os)), .ref ot, .long (tp), .ref my, .ref co, .ref bd, .ref bk, .ref oh, .ref rd, .ref mk, .ref rw, .ref ss])), (oc, aI E 272 (foc)), (rd, aI E 176 (rk K)), (ss, aI E 256 (TB)), (bk, aI E 16 (encN K fbk j)), (oh, aI E 16 (fo1))] L F 48 [(0, .ref mm), (1, .int (nI (bs))), (2, .int (nI (j + 1))), (3, .int (nI (c)))] [] := by
                intro n48
                induction n48 with
                | zero => intro c fo1 hc hf hfu48; exact absurd hfu48 (by omega)
                | succ n48 ih48 =>
                  intro c fo1 hc hf hfu48
                  refine g_iload_n C dX5_cipher_48 rfl 3 rfl ?_
                  refine g_iconst (v := nI (4)) C dX5_cipher_49 (by decide) ?_
                  refine g_nicmp_ge (tgt := 105) C dX5_cipher_50 (by decide) (by omega) (by omega) (fun c50 => ?_) (fun c50 => ?_)
                  · skip
                    refine g_cgI (f' := SR (encN K fbk j)) (X' := [(mm, .inr (7, [.int (cd), .int (nI (nk)), .ref oc, .ref nx, .ref ia, .ref ms, .int (nI (ln)), .int (nI (os)), .ref ot, .long (tp), .ref my, .ref co, .ref bd, .ref bk, .ref oh, .ref rd, .ref mk, .ref rw, .ref ss])), (oc, aI E 272 (foc)), (rd, aI E 176 (rk K)), (ss, aI E 256 (TB)), (bk, aI E 16 (encN K fbk j)), (oh, aI E 16 (SR (encN K fbk j)))]) 5 rfl (fun q hq => hf q (by omega)) rfl ?_
                    refine g_iconst (v := nI (0)) C dX5_cipher_105 (by decide) ?_
                    refine g_istore_n (lv' := [(3, .int (nI (0))), (0, .ref mm), (1, .int (nI (bs))), (2, .int (nI (j + 1)))]) C dX5_cipher_106 rfl (by decide) rfl ?_
                    have lp107 : ∀ (n107 : Nat) (c : Nat) (fb1 : Nat → Int32), (c ≤ 4) → (pfx fb1 (encN K fbk (j + 1)) (4 * c)) → 5 ≤ c + n107 → G g muX5_cipher E A 0 0 Q [(mm, .inr (7, [.int (cd), .int (nI (nk)), .ref oc, .ref nx, .ref ia, .ref ms, .int (nI (ln)), .int (nI (os)), .ref ot, .long (tp), .ref my, .ref co, .ref bd, .ref bk, .ref oh, .ref rd, .ref mk, .ref rw, .ref ss])), (oc, aI E 272 (foc)), (rd, aI E 176 (rk K)), (ss, aI E 256 (TB)), (bk, aI E 16 (fb1)), (oh, aI E 16 (SR (encN K fbk j)))] L F 107 [(0, .ref mm), (1, .int (nI (bs))), (2, .int (nI (j + 1))), (3, .int (nI (c)))] [] := by
                      intro n107
                      induction n107 with
                      | zero => intro c fb1 hc hf hfu107; exact absurd hfu107 (by omega)
                      | succ n107 ih107 =>
                        intro c fb1 hc hf hfu107
                        refine g_iload_n C dX5_cipher_107 rfl 3 rfl ?_
                        refine g_iconst (v := nI (4)) C dX5_cipher_108 (by decide) ?_
                        refine g_nicmp_ge (tgt := 242) C dX5_cipher_109 (by decide) (by omega) (by omega) (fun c109 => ?_) (fun c109 => ?_)
                        · skip
                          refine g_cgI (f' := encN K fbk (j + 1)) (X' := [(mm, .inr (7, [.int (cd), .int (nI (nk)), .ref oc, .ref nx, .ref ia, .ref ms, .int (nI (ln)), .int (nI (os)), .ref ot, .long (tp), .ref my, .ref co, .ref bd, .ref bk, .ref oh, .ref rd, .ref mk, .ref rw, .ref ss])), (oc, aI E 272 (foc)), (rd, aI E 176 (rk K)), (ss, aI E 256 (TB)), (bk, aI E 16 (encN K fbk (j + 1))), (oh, aI E 16 (SR (encN K fbk j)))]) 4 rfl (fun q hq => hf q (by omega)) rfl ?_
                          refine g_iinc (v := nI (j + 1 + 1)) (lv' := [(2, .int (nI (j + 1 + 1))), (0, .ref mm), (1, .int (nI (bs))), (3, .int (nI (c)))]) C dX5_cipher_242 2 rfl (nI_inc _ 1) (by decide) rfl ?_
                          refine g_goto (tgt := 40) C dX5_cipher_245 (by decide) ?_
                          refine g_lv [1, 2, 0] rfl ?_
                          exact ih40 (j + 1) (SR (encN K fbk j)) (by omega) (by omega)
                        · skip
                          refine g_iconst (v := nI (0)) C dX5_cipher_112 (by decide) ?_
                          refine g_istore (lv' := [(4, .int (nI (0))), (0, .ref mm), (1, .int (nI (bs))), (2, .int (nI (j + 1))), (3, .int (nI (c)))]) C dX5_cipher_113 (by decide) rfl ?_
                          have lp115 : ∀ (n115 : Nat) (r : Nat) (fb2 : Nat → Int32), (r ≤ 4) → (pfx fb2 (encN K fbk (j + 1)) (4 * c + r)) → 5 ≤ r + n115 → G g muX5_cipher E A 0 0 Q [(mm, .inr (7, [.int (cd), .int (nI (nk)), .ref oc, .ref nx, .ref ia, .ref ms, .int (nI (ln)), .int (nI (os)), .ref ot, .long (tp), .ref my, .ref co, .ref bd, .ref bk, .ref oh, .ref rd, .ref mk, .ref rw, .ref ss])), (oc, aI E 272 (foc)), (rd, aI E 176 (rk K)), (ss, aI E 256 (TB)), (bk, aI E 16 (fb2)), (oh, aI E 16 (SR (encN K fbk j)))] L F 115 [(0, .ref mm), (1, .int (nI (bs))), (2, .int (nI (j + 1))), (3, .int (nI (c))), (4, .int (nI (r)))] [] := by
                            intro n115
                            induction n115 with
                            | zero => intro r fb2 hr hf2 hfu115; exact absurd hfu115 (by omega)
                            | succ n115 ih115 =>
                              intro r fb2 hr hf2 hfu115
                              refine g_iload C dX5_cipher_115 4 rfl ?_
                              refine g_iconst (v := nI (4)) C dX5_cipher_117 (by decide) ?_
                              refine g_nicmp_ge (tgt := 236) C dX5_cipher_118 (by decide) (by omega) (by omega) (fun c118 => ?_) (fun c118 => ?_)
                              · skip
                                refine g_iinc (v := nI (c + 1)) (lv' := [(3, .int (nI (c + 1))), (0, .ref mm), (1, .int (nI (bs))), (2, .int (nI (j + 1))), (4, .int (nI (r)))]) C dX5_cipher_236 3 rfl (nI_inc _ 1) (by decide) rfl ?_
                                refine g_goto (tgt := 107) C dX5_cipher_239 (by decide) ?_
                                refine g_lv [1, 2, 3, 0] rfl ?_
                                exact ih107 (c + 1) fb2 (by omega) (fun q hq => hf2 q (by omega)) (by omega)
                              · skip
                                refine g_aload_n C dX5_cipher_121 rfl 0 rfl ?_
                                refine g_getX C 0 rfl rfl inX5 14 (by decide) m_434 rfl dX5_cipher_122 ?_
                                refine g_iconst (v := nI (4)) C dX5_cipher_125 (by decide) ?_
                                refine g_iload_n C dX5_cipher_126 rfl 3 rfl ?_
                                refine g_imul C dX5_cipher_127 ?_
                                refine g_asi (pk_mul _ _) ?_
                                refine g_iload C dX5_cipher_128 4 rfl ?_
                                refine g_iadd C dX5_cipher_130 ?_
                                refine g_asi (nI_add _ _) ?_
                                refine g_iald C 5 rfl (by omega) (by decide) dX5_cipher_131 ?_
                                refine g_istore (lv' := [(5, .int ((SR (encN K fbk j)) ((4 * c) + r))), (0, .ref mm), (1, .int (nI (bs))), (2, .int (nI (j + 1))), (3, .int (nI (c))), (4, .int (nI (r)))]) C dX5_cipher_132 (by decide) rfl ?_
                                refine g_iload_n C dX5_cipher_134 rfl 3 rfl ?_
                                refine g_bipush (v := nI (10)) C dX5_cipher_135 (by decide) ?_
                                refine g_nicmp_ge (tgt := 200) C dX5_cipher_137 (by decide) (by omega) (by omega) (fun c137 => ?_) (fun c137 => ?_)
                                · skip
                                  refine g_aload_n C dX5_cipher_200 rfl 1 rfl ?_
                                  refine g_getX C 0 rfl rfl inX5 13 (by decide) m_433 rfl dX5_cipher_201 ?_
                                  refine g_iconst (v := nI (4)) C dX5_cipher_204 (by decide) ?_
                                  refine g_iload_n C dX5_cipher_205 rfl 4 rfl ?_
                                  refine g_imul C dX5_cipher_206 ?_
                                  refine g_asi (pk_mul _ _) ?_
                                  refine g_iload C dX5_cipher_207 5 rfl ?_
                                  refine g_iadd C dX5_cipher_209 ?_
                                  refine g_asi (nI_add _ _) ?_
                                  refine g_iload C dX5_cipher_210 0 rfl ?_
                                  refine g_aload_n C dX5_cipher_212 rfl 1 rfl ?_
                                  refine g_getX C 0 rfl rfl inX5 15 (by decide) m_435 rfl dX5_cipher_213 ?_
                                  refine g_bipush (v := nI (16)) C dX5_cipher_216 (by decide) ?_
                                  refine g_iload_n C dX5_cipher_218 rfl 3 rfl ?_
                                  refine g_imul C dX5_cipher_219 ?_
                                  refine g_asi (pk_mul _ _) ?_
                                  refine g_iconst (v := nI (4)) C dX5_cipher_220 (by decide) ?_
                                  refine g_iload_n C dX5_cipher_221 rfl 4 rfl ?_
                                  refine g_imul C dX5_cipher_222 ?_
                                  refine g_asi (pk_mul _ _) ?_
                                  refine g_iadd C dX5_cipher_223 ?_
                                  refine g_asi (nI_add _ _) ?_
                                  refine g_iload C dX5_cipher_224 5 rfl ?_
                                  refine g_iadd C dX5_cipher_226 ?_
                                  refine g_asi (nI_add _ _) ?_
                                  refine g_iald C 2 rfl (by omega) (by decide) dX5_cipher_227 ?_
                                  refine g_ixor C dX5_cipher_228 ?_
                                  refine g_asi (show (((SR (encN K fbk j)) ((4 * c) + r)) ^^^ ((rk K) (((16 * (j + 1)) + (4 * c)) + r))) = (encN K fbk (j + 1) (4 * c + r)) from rnd_2 _ _ (by omega)) ?_
                                  refine g_iast (X' := [(mm, .inr (7, [.int (cd), .int (nI (nk)), .ref oc, .ref nx, .ref ia, .ref ms, .int (nI (ln)), .int (nI (os)), .ref ot, .long (tp), .ref my, .ref co, .ref bd, .ref bk, .ref oh, .ref rd, .ref mk, .ref rw, .ref ss])), (oc, aI E 272 (foc)), (rd, aI E 176 (rk K)), (ss, aI E 256 (TB)), (bk, aI E 16 (upd fb2 ((4 * c) + r) (encN K fbk (j + 1) (4 * c + r)))), (oh, aI E 16 (SR (encN K fbk j)))]) C 4 rfl (by omega) (by decide) rfl dX5_cipher_229 ?_
                                  refine g_iinc (v := nI (r + 1)) (lv' := [(4, .int (nI (r + 1))), (5, .int ((SR (encN K fbk j)) ((4 * c) + r))), (0, .ref mm), (1, .int (nI (bs))), (2, .int (nI (j + 1))), (3, .int (nI (c)))]) C dX5_cipher_230 5 rfl (nI_inc _ 1) (by decide) rfl ?_
                                  refine g_goto (tgt := 115) C dX5_cipher_233 (by decide) ?_
                                  refine g_lv [2, 3, 4, 5, 0] rfl ?_
                                  exact ih115 (r + 1) (upd fb2 ((4 * c) + r) (encN K fbk (j + 1) (4 * c + r))) (by omega) (pfS hf2 rfl) (by omega)
                                · skip
                                  refine g_iload C dX5_cipher_140 0 rfl ?_
                                  refine g_iconst (v := nI (2)) C dX5_cipher_142 (by decide) ?_
                                  refine g_callS (v := muX5_product) (cx := []) C (k_X5_product (gl g) E ((SR (encN K fbk j)) ((4 * c) + r)) (nI (2)) L F ) [] rfl (by decide) gi_X5_65 hd_X5_product.2 ⟨Nat.le_of_ble_eq_true rfl, Nat.le_of_ble_eq_true rfl⟩ rfl rfl (Nat.le_of_ble_eq_true rfl) ⟨Nat.le_of_ble_eq_true rfl, Nat.le_of_ble_eq_true rfl⟩ dX5_cipher_143 (fun r9 cx9 L9 F9 hp9 hf9 hN9 => ?_)
                                  obtain ⟨rfl, rfl, rfl, rfl, -⟩ := hp9
                                  show G g muX5_cipher E A 0 0 Q [(mm, .inr (7, [.int (cd), .int (nI (nk)), .ref oc, .ref nx, .ref ia, .ref ms, .int (nI (ln)), .int (nI (os)), .ref ot, .long (tp), .ref my, .ref co, .ref bd, .ref bk, .ref oh, .ref rd, .ref mk, .ref rw, .ref ss])), (oc, aI E 272 (foc)), (rd, aI E 176 (rk K)), (ss, aI E 256 (TB)), (bk, aI E 16 (fb2)), (oh, aI E 16 (SR (encN K fbk j)))] L F 146 [(5, .int ((SR (encN K fbk j)) ((4 * c) + r))), (0, .ref mm), (1, .int (nI (bs))), (2, .int (nI (j + 1))), (3, .int (nI (c))), (4, .int (nI (r)))] [.int (pr ((SR (encN K fbk j)) ((4 * c) + r)) (nI (2)))]
                                  refine g_asi (show (pr ((SR (encN K fbk j)) ((4 * c) + r)) (nI (2))) = (tT (SR (encN K fbk j) (4 * c + r))) from pr_2 (SR_O _ _)) ?_
                                  refine g_aload_n C dX5_cipher_146 rfl 1 rfl ?_
                                  refine g_getX C 0 rfl rfl inX5 14 (by decide) m_434 rfl dX5_cipher_147 ?_
                                  refine g_iconst (v := nI (4)) C dX5_cipher_150 (by decide) ?_
                                  refine g_iload_n C dX5_cipher_151 rfl 4 rfl ?_
                                  refine g_imul C dX5_cipher_152 ?_
                                  refine g_asi (pk_mul _ _) ?_
                                  refine g_iload C dX5_cipher_153 5 rfl ?_
                                  refine g_iconst (v := nI (1)) C dX5_cipher_155 (by decide) ?_
                                  refine g_iadd C dX5_cipher_156 ?_
                                  refine g_asi (nI_add _ _) ?_
                                  refine g_iconst (v := nI (4)) C dX5_cipher_157 (by decide) ?_
                                  refine g_irem C dX5_cipher_158 (by decide) ?_
                                  refine g_asi (pk_rem (by omega) (by decide) (by decide)) ?_
                                  refine g_iadd C dX5_cipher_159 ?_
                                  refine g_asi (nI_add _ _) ?_
                                  refine g_iald C 5 rfl (by omega) (by decide) dX5_cipher_160 ?_
                                  refine g_iconst (v := nI (3)) C dX5_cipher_161 (by decide) ?_
                                  refine g_callS (v := muX5_product) (cx := []) C (k_X5_product (gl g) E ((SR (encN K fbk j)) ((4 * c) + ((r + 1) % 4))) (nI (3)) L F ) [] rfl (by decide) gi_X5_65 hd_X5_product.2 ⟨Nat.le_of_ble_eq_true rfl, Nat.le_of_ble_eq_true rfl⟩ rfl rfl (Nat.le_of_ble_eq_true rfl) ⟨Nat.le_of_ble_eq_true rfl, Nat.le_of_ble_eq_true rfl⟩ dX5_cipher_162 (fun r9 cx9 L9 F9 hp9 hf9 hN9 => ?_)
                                  obtain ⟨rfl, rfl, rfl, rfl, -⟩ := hp9
                                  show G g muX5_cipher E A 0 0 Q [(mm, .inr (7, [.int (cd), .int (nI (nk)), .ref oc, .ref nx, .ref ia, .ref ms, .int (nI (ln)), .int (nI (os)), .ref ot, .long (tp), .ref my, .ref co, .ref bd, .ref bk, .ref oh, .ref rd, .ref mk, .ref rw, .ref ss])), (oc, aI E 272 (foc)), (rd, aI E 176 (rk K)), (ss, aI E 256 (TB)), (bk, aI E 16 (fb2)), (oh, aI E 16 (SR (encN K fbk j)))] L F 165 [(5, .int ((SR (encN K fbk j)) ((4 * c) + r))), (0, .ref mm), (1, .int (nI (bs))), (2, .int (nI (j + 1))), (3, .int (nI (c))), (4, .int (nI (r)))] [.int (pr ((SR (encN K fbk j)) ((4 * c) + ((r + 1) % 4))) (nI (3))), .int (tT (SR (encN K fbk j) (4 * c + r)))]
                                  refine g_asi (show (pr ((SR (encN K fbk j)) ((4 * c) + ((r + 1) % 4))) (nI (3))) = (tT (SR (encN K fbk j) (4 * c + (r + 1) % 4)) ^^^ SR (encN K fbk j) (4 * c + (r + 1) % 4)) from pr_3 (SR_O _ _)) ?_
                                  refine g_ixor C dX5_cipher_165 ?_
                                  refine g_aload_n C dX5_cipher_166 rfl 1 rfl ?_
                                  refine g_getX C 0 rfl rfl inX5 14 (by decide) m_434 rfl dX5_cipher_167 ?_
                                  refine g_iconst (v := nI (4)) C dX5_cipher_170 (by decide) ?_
                                  refine g_iload_n C dX5_cipher_171 rfl 4 rfl ?_
                                  refine g_imul C dX5_cipher_172 ?_
                                  refine g_asi (pk_mul _ _) ?_
                                  refine g_iload C dX5_cipher_173 5 rfl ?_
                                  refine g_iconst (v := nI (2)) C dX5_cipher_175 (by decide) ?_
                                  refine g_iadd C dX5_cipher_176 ?_
                                  refine g_asi (nI_add _ _) ?_
                                  refine g_iconst (v := nI (4)) C dX5_cipher_177 (by decide) ?_
                                  refine g_irem C dX5_cipher_178 (by decide) ?_
                                  refine g_asi (pk_rem (by omega) (by decide) (by decide)) ?_
                                  refine g_iadd C dX5_cipher_179 ?_
                                  refine g_asi (nI_add _ _) ?_
                                  refine g_iald C 5 rfl (by omega) (by decide) dX5_cipher_180 ?_
                                  refine g_ixor C dX5_cipher_181 ?_
                                  refine g_aload_n C dX5_cipher_182 rfl 1 rfl ?_
                                  refine g_getX C 0 rfl rfl inX5 14 (by decide) m_434 rfl dX5_cipher_183 ?_
                                  refine g_iconst (v := nI (4)) C dX5_cipher_186 (by decide) ?_
                                  refine g_iload_n C dX5_cipher_187 rfl 4 rfl ?_
                                  refine g_imul C dX5_cipher_188 ?_
                                  refine g_asi (pk_mul _ _) ?_
                                  refine g_iload C dX5_cipher_189 5 rfl ?_
                                  refine g_iconst (v := nI (3)) C dX5_cipher_191 (by decide) ?_
                                  refine g_iadd C dX5_cipher_192 ?_
                                  refine g_asi (nI_add _ _) ?_
                                  refine g_iconst (v := nI (4)) C dX5_cipher_193 (by decide) ?_
                                  refine g_irem C dX5_cipher_194 (by decide) ?_
                                  refine g_asi (pk_rem (by omega) (by decide) (by decide)) ?_
                                  refine g_iadd C dX5_cipher_195 ?_
                                  refine g_asi (nI_add _ _) ?_
                                  refine g_iald C 5 rfl (by omega) (by decide) dX5_cipher_196 ?_
                                  refine g_ixor C dX5_cipher_197 ?_
                                  refine g_asi (show ((((tT (SR (encN K fbk j) (4 * c + r))) ^^^ (tT (SR (encN K fbk j) (4 * c + (r + 1) % 4)) ^^^ SR (encN K fbk j) (4 * c + (r + 1) % 4))) ^^^ ((SR (encN K fbk j)) ((4 * c) + ((r + 2) % 4)))) ^^^ ((SR (encN K fbk j)) ((4 * c) + ((r + 3) % 4)))) = (MC (SR (encN K fbk j)) (4 * c + r)) from MC_at _ (by omega)) ?_
                                  refine g_istore (lv' := [(5, .int (MC (SR (encN K fbk j)) (4 * c + r))), (0, .ref mm), (1, .int (nI (bs))), (2, .int (nI (j + 1))), (3, .int (nI (c))), (4, .int (nI (r)))]) C dX5_cipher_198 (by decide) rfl ?_
                                  refine g_aload_n C dX5_cipher_200 rfl 1 rfl ?_
                                  refine g_getX C 0 rfl rfl inX5 13 (by decide) m_433 rfl dX5_cipher_201 ?_
                                  refine g_iconst (v := nI (4)) C dX5_cipher_204 (by decide) ?_
                                  refine g_iload_n C dX5_cipher_205 rfl 4 rfl ?_
                                  refine g_imul C dX5_cipher_206 ?_
                                  refine g_asi (pk_mul _ _) ?_
                                  refine g_iload C dX5_cipher_207 5 rfl ?_
                                  refine g_iadd C dX5_cipher_209 ?_
                                  refine g_asi (nI_add _ _) ?_
                                  refine g_iload C dX5_cipher_210 0 rfl ?_
                                  refine g_aload_n C dX5_cipher_212 rfl 1 rfl ?_
                                  refine g_getX C 0 rfl rfl inX5 15 (by decide) m_435 rfl dX5_cipher_213 ?_
                                  refine g_bipush (v := nI (16)) C dX5_cipher_216 (by decide) ?_
                                  refine g_iload_n C dX5_cipher_218 rfl 3 rfl ?_
                                  refine g_imul C dX5_cipher_219 ?_
                                  refine g_asi (pk_mul _ _) ?_
                                  refine g_iconst (v := nI (4)) C dX5_cipher_220 (by decide) ?_
                                  refine g_iload_n C dX5_cipher_221 rfl 4 rfl ?_
                                  refine g_imul C dX5_cipher_222 ?_
                                  refine g_asi (pk_mul _ _) ?_
                                  refine g_iadd C dX5_cipher_223 ?_
                                  refine g_asi (nI_add _ _) ?_
                                  refine g_iload C dX5_cipher_224 5 rfl ?_
                                  refine g_iadd C dX5_cipher_226 ?_
                                  refine g_asi (nI_add _ _) ?_
                                  refine g_iald C 2 rfl (by omega) (by decide) dX5_cipher_227 ?_
                                  refine g_ixor C dX5_cipher_228 ?_
                                  refine g_asi (show ((MC (SR (encN K fbk j)) (4 * c + r)) ^^^ ((rk K) (((16 * (j + 1)) + (4 * c)) + r))) = (encN K fbk (j + 1) (4 * c + r)) from rnd_1 _ _ (by omega)) ?_
                                  refine g_iast (X' := [(mm, .inr (7, [.int (cd), .int (nI (nk)), .ref oc, .ref nx, .ref ia, .ref ms, .int (nI (ln)), .int (nI (os)), .ref ot, .long (tp), .ref my, .ref co, .ref bd, .ref bk, .ref oh, .ref rd, .ref mk, .ref rw, .ref ss])), (oc, aI E 272 (foc)), (rd, aI E 176 (rk K)), (ss, aI E 256 (TB)), (bk, aI E 16 (upd fb2 ((4 * c) + r) (encN K fbk (j + 1) (4 * c + r)))), (oh, aI E 16 (SR (encN K fbk j)))]) C 4 rfl (by omega) (by decide) rfl dX5_cipher_229 ?_
                                  refine g_iinc (v := nI (r + 1)) (lv' := [(4, .int (nI (r + 1))), (5, .int (MC (SR (encN K fbk j)) (4 * c + r))), (0, .ref mm), (1, .int (nI (bs))), (2, .int (nI (j + 1))), (3, .int (nI (c)))]) C dX5_cipher_230 5 rfl (nI_inc _ 1) (by decide) rfl ?_
                                  refine g_goto (tgt := 115) C dX5_cipher_233 (by decide) ?_
                                  refine g_lv [2, 3, 4, 5, 0] rfl ?_
                                  exact ih115 (r + 1) (upd fb2 ((4 * c) + r) (encN K fbk (j + 1) (4 * c + r))) (by omega) (pfS hf2 rfl) (by omega)
                          refine g_lv [1, 2, 3, 4, 0] rfl ?_
                          exact lp115 5 0 fb1 (Nat.zero_le _) hf (by omega)
                    refine g_lv [1, 2, 3, 0] rfl ?_
                    exact lp107 5 0 (encN K fbk j) (Nat.zero_le _) pf0 (by omega)
                  · skip
                    refine g_iconst (v := nI (0)) C dX5_cipher_53 (by decide) ?_
                    refine g_istore (lv' := [(4, .int (nI (0))), (0, .ref mm), (1, .int (nI (bs))), (2, .int (nI (j + 1))), (3, .int (nI (c)))]) C dX5_cipher_54 (by decide) rfl ?_
                    have lp56 : ∀ (n56 : Nat) (r : Nat) (fo2 : Nat → Int32), (r ≤ 4) → (pfx fo2 (SR (encN K fbk j)) (4 * c + r)) → 5 ≤ r + n56 → G g muX5_cipher E A 0 0 Q [(mm, .inr (7, [.int (cd), .int (nI (nk)), .ref oc, .ref nx, .ref ia, .ref ms, .int (nI (ln)), .int (nI (os)), .ref ot, .long (tp), .ref my, .ref co, .ref bd, .ref bk, .ref oh, .ref rd, .ref mk, .ref rw, .ref ss])), (oc, aI E 272 (foc)), (rd, aI E 176 (rk K)), (ss, aI E 256 (TB)), (bk, aI E 16 (encN K fbk j)), (oh, aI E 16 (fo2))] L F 56 [(0, .ref mm), (1, .int (nI (bs))), (2, .int (nI (j + 1))), (3, .int (nI (c))), (4, .int (nI (r)))] [] := by
                      intro n56
                      induction n56 with
                      | zero => intro r fo2 hr hf2 hfu56; exact absurd hfu56 (by omega)
                      | succ n56 ih56 =>
                        intro r fo2 hr hf2 hfu56
                        refine g_iload C dX5_cipher_56 4 rfl ?_
                        refine g_iconst (v := nI (4)) C dX5_cipher_58 (by decide) ?_
                        refine g_nicmp_ge (tgt := 99) C dX5_cipher_59 (by decide) (by omega) (by omega) (fun c59 => ?_) (fun c59 => ?_)
                        · skip
                          refine g_iinc (v := nI (c + 1)) (lv' := [(3, .int (nI (c + 1))), (0, .ref mm), (1, .int (nI (bs))), (2, .int (nI (j + 1))), (4, .int (nI (r)))]) C dX5_cipher_99 3 rfl (nI_inc _ 1) (by decide) rfl ?_
                          refine g_goto (tgt := 48) C dX5_cipher_102 (by decide) ?_
                          refine g_lv [1, 2, 3, 0] rfl ?_
                          exact ih48 (c + 1) fo2 (by omega) (fun q hq => hf2 q (by omega)) (by omega)
                        · skip
                          refine g_aload_n C dX5_cipher_62 rfl 0 rfl ?_
                          refine g_getX C 0 rfl rfl inX5 14 (by decide) m_434 rfl dX5_cipher_63 ?_
                          refine g_iconst (v := nI (4)) C dX5_cipher_66 (by decide) ?_
                          refine g_iload_n C dX5_cipher_67 rfl 3 rfl ?_
                          refine g_imul C dX5_cipher_68 ?_
                          refine g_asi (pk_mul _ _) ?_
                          refine g_iload C dX5_cipher_69 4 rfl ?_
                          refine g_iadd C dX5_cipher_71 ?_
                          refine g_asi (nI_add _ _) ?_
                          refine g_aload_n C dX5_cipher_72 rfl 0 rfl ?_
                          refine g_aload_n C dX5_cipher_73 rfl 0 rfl ?_
                          refine g_getX C 0 rfl rfl inX5 13 (by decide) m_433 rfl dX5_cipher_74 ?_
                          refine g_iconst (v := nI (4)) C dX5_cipher_77 (by decide) ?_
                          refine g_iload_n C dX5_cipher_78 rfl 3 rfl ?_
                          refine g_iload C dX5_cipher_79 4 rfl ?_
                          refine g_iadd C dX5_cipher_81 ?_
                          refine g_asi (nI_add _ _) ?_
                          refine g_iconst (v := nI (4)) C dX5_cipher_82 (by decide) ?_
                          refine g_irem C dX5_cipher_83 (by decide) ?_
                          refine g_asi (pk_rem (by omega) (by decide) (by decide)) ?_
                          refine g_imul C dX5_cipher_84 ?_
                          refine g_asi (pk_mul _ _) ?_
                          refine g_iload C dX5_cipher_85 4 rfl ?_
                          refine g_iadd C dX5_cipher_87 ?_
                          refine g_asi (nI_add _ _) ?_
                          refine g_iald C 4 rfl (by omega) (by decide) dX5_cipher_88 ?_
                          refine g_callV (v := muX5_substitute) (cx := [(mm, .inr (7, [.int (cd), .int (nI (nk)), .ref oc, .ref nx, .ref ia, .ref ms, .int (nI (ln)), .int (nI (os)), .ref ot, .long (tp), .ref my, .ref co, .ref bd, .ref bk, .ref oh, .ref rd, .ref mk, .ref rw, .ref ss])), (ss, aI E 256 (TB))]) C (k_X5_substitute (gl g) E mm oc nx ia ms ot my co bd bk oh rd mk rw ss cd nk ln os tp ((encN K fbk j) ((4 * ((c + r) % 4)) + r)) L F (encN_O hK hX j _ (by omega))) [0, 3] rfl (by decide) 0 rfl rfl gi_X5_69 hd_X5_substitute ⟨Nat.le_of_ble_eq_true rfl, Nat.le_of_ble_eq_true rfl⟩ rfl rfl (Nat.le_of_ble_eq_true rfl) ⟨Nat.le_of_ble_eq_true rfl, Nat.le_of_ble_eq_true rfl⟩ dX5_cipher_89 (fun r9 cx9 L9 F9 hp9 hf9 hN9 => ?_)
                          obtain ⟨rfl, rfl, rfl, rfl, -⟩ := hp9
                          show G g muX5_cipher E A 0 0 Q [(mm, .inr (7, [.int (cd), .int (nI (nk)), .ref oc, .ref nx, .ref ia, .ref ms, .int (nI (ln)), .int (nI (os)), .ref ot, .long (tp), .ref my, .ref co, .ref bd, .ref bk, .ref oh, .ref rd, .ref mk, .ref rw, .ref ss])), (oc, aI E 272 (foc)), (rd, aI E 176 (rk K)), (ss, aI E 256 (TB)), (bk, aI E 16 (encN K fbk j)), (oh, aI E 16 (fo2))] L F 92 [(0, .ref mm), (1, .int (nI (bs))), (2, .int (nI (j + 1))), (3, .int (nI (c))), (4, .int (nI (r)))] [.int (sb ((encN K fbk j) ((4 * ((c + r) % 4)) + r))), .int (nI ((4 * c) + r)), .ref oh]
                          refine g_asi (show (sb ((encN K fbk j) ((4 * ((c + r) % 4)) + r))) = (SR (encN K fbk j) (4 * c + r)) from SR_at _ (by omega) (by omega)) ?_
                          refine g_iast (X' := [(mm, .inr (7, [.int (cd), .int (nI (nk)), .ref oc, .ref nx, .ref ia, .ref ms, .int (nI (ln)), .int (nI (os)), .ref ot, .long (tp), .ref my, .ref co, .ref bd, .ref bk, .ref oh, .ref rd, .ref mk, .ref rw, .ref ss])), (oc, aI E 272 (foc)), (rd, aI E 176 (rk K)), (ss, aI E 256 (TB)), (bk, aI E 16 (encN K fbk j)), (oh, aI E 16 (upd fo2 ((4 * c) + r) (SR (encN K fbk j) (4 * c + r))))]) C 5 rfl (by omega) (by decide) rfl dX5_cipher_92 ?_
                          refine g_iinc (v := nI (r + 1)) (lv' := [(4, .int (nI (r + 1))), (0, .ref mm), (1, .int (nI (bs))), (2, .int (nI (j + 1))), (3, .int (nI (c)))]) C dX5_cipher_93 4 rfl (nI_inc _ 1) (by decide) rfl ?_
                          refine g_goto (tgt := 56) C dX5_cipher_96 (by decide) ?_
                          refine g_lv [1, 2, 3, 4, 0] rfl ?_
                          exact ih56 (r + 1) (upd fo2 ((4 * c) + r) (SR (encN K fbk j) (4 * c + r))) (by omega) (pfS hf2 rfl) (by omega)
                    refine g_lv [1, 2, 3, 4, 0] rfl ?_
                    exact lp56 5 0 fo1 (Nat.zero_le _) hf (by omega)
              refine g_lv [1, 2, 3, 0] rfl ?_
              exact lp48 5 0 fo (Nat.zero_le _) pf0 (by omega)
        refine g_lv [1, 2, 0] rfl ?_
        exact lp40 11 0 foh (Nat.zero_le _) (by omega)
      · skip
        refine g_aload_n C dX5_cipher_13 rfl 0 rfl ?_
        refine g_getX C 0 rfl rfl inX5 13 (by decide) m_433 rfl dX5_cipher_14 ?_
        refine g_iload_n C dX5_cipher_17 rfl 2 rfl ?_
        refine g_aload_n C dX5_cipher_18 rfl 0 rfl ?_
        refine g_getX C 0 rfl rfl inX5 13 (by decide) m_433 rfl dX5_cipher_19 ?_
        refine g_iload_n C dX5_cipher_22 rfl 2 rfl ?_
        refine g_iald C 4 rfl (by omega) (by decide) dX5_cipher_23 ?_
        refine g_aload_n C dX5_cipher_24 rfl 0 rfl ?_
        refine g_getX C 0 rfl rfl inX5 15 (by decide) m_435 rfl dX5_cipher_25 ?_
        refine g_iload_n C dX5_cipher_28 rfl 2 rfl ?_
        refine g_iald C 2 rfl (by omega) (by decide) dX5_cipher_29 ?_
        refine g_ixor C dX5_cipher_30 ?_
        refine g_iast (X' := [(mm, .inr (7, [.int (cd), .int (nI (nk)), .ref oc, .ref nx, .ref ia, .ref ms, .int (nI (ln)), .int (nI (os)), .ref ot, .long (tp), .ref my, .ref co, .ref bd, .ref bk, .ref oh, .ref rd, .ref mk, .ref rw, .ref ss])), (oc, aI E 272 (foc)), (rd, aI E 176 (rk K)), (ss, aI E 256 (TB)), (bk, aI E 16 (upd f1 i ((f1 i) ^^^ ((rk K) i)))), (oh, aI E 16 (foh))]) C 4 rfl (by omega) (by decide) rfl dX5_cipher_31 ?_
        refine g_iinc (v := nI (i + 1)) (lv' := [(2, .int (nI (i + 1))), (0, .ref mm), (1, .int (nI (bs)))]) C dX5_cipher_32 2 rfl (nI_inc _ 1) (by decide) rfl ?_
        refine g_goto (tgt := 7) C dX5_cipher_35 (by decide) ?_
        refine g_lv [1, 2, 0] rfl ?_
        exact ih7 (i + 1) (upd f1 i ((f1 i) ^^^ ((rk K) i))) (by omega) (mpS hf (by rw [mpR hf c10 (Nat.le_refl i)]; rfl)) (by omega)
  refine g_lv [1, 2, 0] rfl ?_
  exact lp7 17 0 fbk (Nat.zero_le _) mp0 (by omega)
abbrev muX5_doubled : Mu := (cX5_doubled, 4, RX5, none, "doubled", 0, 0, 0, 0)
theorem hd_X5_doubled : yX5_doubled.cls = RX5 ∧ yX5_doubled.cls ≠ "java/lang/invoke/MethodHandle" ∧ yX5_doubled.cls ≠ "java/lang/invoke/VarHandle" ∧ (parseMethodDescriptor yX5_doubled.desc).map (fun d => d.parameters.length) = some 0 := by decide +kernel
set_option maxHeartbeats 4000000 in
set_option maxRecDepth 100000 in
theorem k_X5_doubled (l : Launch) (E : Ev) (mm oc nx ia ms ot my co bd bk oh rd mk rw ss : Nat) (cd : Int32) (nk ln os : Nat) (tp : Int64) (s : Nat → Int32) (L : List Nat) (F : Nat → va_E) (hs : ∀ i, i < 16 → isO (s i)) : KC l E yX5_doubled muX5_doubled [.ref mm] [(mm, .inr (7, [.int (cd), .int (nI (nk)), .ref oc, .ref nx, .ref ia, .ref ms, .int (nI (ln)), .int (nI (os)), .ref ot, .long (tp), .ref my, .ref co, .ref bd, .ref bk, .ref oh, .ref rd, .ref mk, .ref rw, .ref ss])), (mk, aI E 16 (s))] L F (fun r8 cx8 L8 F8 => r8 = none ∧ cx8 = [(mm, .inr (7, [.int (cd), .int (nI (nk)), .ref oc, .ref nx, .ref ia, .ref ms, .int (nI (ln)), .int (nI (os)), .ref ot, .long (tp), .ref my, .ref co, .ref bd, .ref bk, .ref oh, .ref rd, .ref mk, .ref rw, .ref ss])), (mk, aI E 16 (dblF s))] ∧ L = L8 ∧ F = F8 ∧ (True)) := by
  refine K_start (by decide) rfl rfl (Nat.le_of_ble_eq_true rfl) (fun g A Q hgl C r => ?_)
  subst hgl
  show G g muX5_doubled E A 0 0 Q [(mm, .inr (7, [.int (cd), .int (nI (nk)), .ref oc, .ref nx, .ref ia, .ref ms, .int (nI (ln)), .int (nI (os)), .ref ot, .long (tp), .ref my, .ref co, .ref bd, .ref bk, .ref oh, .ref rd, .ref mk, .ref rw, .ref ss])), (mk, aI E 16 (s))] L F 0 [(0, .ref mm)] []
  refine g_iconst (v := nI (0)) C dX5_doubled_0 (by decide) ?_
  refine g_istore_n (lv' := [(1, .int (nI (0))), (0, .ref mm)]) C dX5_doubled_1 rfl (by decide) rfl ?_
  refine g_bipush (v := nI (15)) C dX5_doubled_2 (by decide) ?_
  refine g_asi (show (nI (15)) = (nI (16 - 0) - nI 1) from (by decide)) ?_
  refine g_istore_n (lv' := [(2, .int (nI (16 - 0) - nI 1)), (1, .int (nI (0))), (0, .ref mm)]) C dX5_doubled_4 rfl (by decide) rfl ?_
  have lp5 : ∀ (n5 : Nat) (j : Nat) (f : Nat → Int32), (j ≤ 16) → (∀ i, i < 16 → f i = if 16 ≤ i + j then dv s i else s i) → 17 ≤ j + n5 → G g muX5_doubled E A 0 0 Q [(mm, .inr (7, [.int (cd), .int (nI (nk)), .ref oc, .ref nx, .ref ia, .ref ms, .int (nI (ln)), .int (nI (os)), .ref ot, .long (tp), .ref my, .ref co, .ref bd, .ref bk, .ref oh, .ref rd, .ref mk, .ref rw, .ref ss])), (mk, aI E 16 (f))] L F 5 [(0, .ref mm), (1, .int (cyv s (16 - j))), (2, .int (nI (16 - j) - nI 1))] [] := by
    intro n5
    induction n5 with
    | zero => intro j f hj hf hfu5; exact absurd hfu5 (by omega)
    | succ n5 ih5 =>
      intro j f hj hf hfu5
      refine g_iload_n C dX5_doubled_5 rfl 2 rfl ?_
      refine g_if_lt (tgt := 42) C dX5_doubled_6 (by decide) (fun c6 => ?_) (fun c6 => ?_)
      · skip
        have c6' := nm_ge2 (by omega) c6
        refine g_aload_n C dX5_doubled_42 rfl 0 rfl ?_
        refine g_getX C 0 rfl rfl inX5 16 (by decide) m_436 rfl dX5_doubled_43 ?_
        refine g_bipush (v := nI (15)) C dX5_doubled_46 (by decide) ?_
        refine g_aload_n C dX5_doubled_48 rfl 0 rfl ?_
        refine g_getX C 0 rfl rfl inX5 16 (by decide) m_436 rfl dX5_doubled_49 ?_
        refine g_bipush (v := nI (15)) C dX5_doubled_52 (by decide) ?_
        refine g_iald C 1 rfl (by omega) (by decide) dX5_doubled_54 ?_
        refine g_sipush (v := nI (135)) C dX5_doubled_55 (by decide) ?_
        refine g_iload_n C dX5_doubled_58 rfl 1 rfl ?_
        refine g_imul C dX5_doubled_59 ?_
        refine g_ixor C dX5_doubled_60 ?_
        refine g_asi (show ((f 15) ^^^ ((nI (135)) * (cyv s (16 - j)))) = (dblF s 15) from dv_15 hs (by omega) hf) ?_
        refine g_iast (X' := [(mm, .inr (7, [.int (cd), .int (nI (nk)), .ref oc, .ref nx, .ref ia, .ref ms, .int (nI (ln)), .int (nI (os)), .ref ot, .long (tp), .ref my, .ref co, .ref bd, .ref bk, .ref oh, .ref rd, .ref mk, .ref rw, .ref ss])), (mk, aI E 16 (upd f 15 (dblF s 15)))]) C 1 rfl (by omega) (by decide) rfl dX5_doubled_61 ?_
        refine g_cgI (f' := dblF s) (X' := [(mm, .inr (7, [.int (cd), .int (nI (nk)), .ref oc, .ref nx, .ref ia, .ref ms, .int (nI (ln)), .int (nI (os)), .ref ot, .long (tp), .ref my, .ref co, .ref bd, .ref bk, .ref oh, .ref rd, .ref mk, .ref rw, .ref ss])), (mk, aI E 16 (dblF s))]) 1 rfl (dbE hs (by omega) hf) rfl ?_
        exact g_vret C r rfl ⟨rfl, rfl, rfl, rfl, trivial⟩ rfl nN dX5_doubled_62
      · skip
        have c6' := nm_lt2 (by omega) hj c6
        refine g_iconst (v := nI (2)) C dX5_doubled_9 (by decide) ?_
        refine g_aload_n C dX5_doubled_10 rfl 0 rfl ?_
        refine g_getX C 0 rfl rfl inX5 16 (by decide) m_436 rfl dX5_doubled_11 ?_
        refine g_iload_n C dX5_doubled_14 rfl 2 rfl ?_
        refine g_asi (show (nI (16 - j) - nI 1) = (nI (16 - j - 1)) from (pk_sub (by omega))) ?_
        refine g_iald C 1 rfl (by omega) (by decide) dX5_doubled_15 ?_
        refine g_imul C dX5_doubled_16 ?_
        refine g_iload_n C dX5_doubled_17 rfl 1 rfl ?_
        refine g_iadd C dX5_doubled_18 ?_
        refine g_istore_n (lv' := [(3, .int (((nI (2)) * (f (16 - j - 1))) + (cyv s (16 - j)))), (0, .ref mm), (1, .int (cyv s (16 - j))), (2, .int (nI (16 - j) - nI 1))]) C dX5_doubled_19 rfl (by decide) rfl ?_
        refine g_aload_n C dX5_doubled_20 rfl 1 rfl ?_
        refine g_getX C 0 rfl rfl inX5 16 (by decide) m_436 rfl dX5_doubled_21 ?_
        refine g_iload_n C dX5_doubled_24 rfl 3 rfl ?_
        refine g_asi (show (nI (16 - j) - nI 1) = (nI (16 - j - 1)) from (pk_sub (by omega))) ?_
        refine g_iload_n C dX5_doubled_25 rfl 0 rfl ?_
        refine g_sipush (v := nI (255)) C dX5_doubled_26 (by decide) ?_
        refine g_iand C dX5_doubled_29 ?_
        refine g_iast (X' := [(mm, .inr (7, [.int (cd), .int (nI (nk)), .ref oc, .ref nx, .ref ia, .ref ms, .int (nI (ln)), .int (nI (os)), .ref ot, .long (tp), .ref my, .ref co, .ref bd, .ref bk, .ref oh, .ref rd, .ref mk, .ref rw, .ref ss])), (mk, aI E 16 (upd f (16 - j - 1) ((((nI (2)) * (f (16 - j - 1))) + (cyv s (16 - j))) &&& (nI (255)))))]) C 1 rfl (by omega) (by decide) rfl dX5_doubled_30 ?_
        refine g_iload_n C dX5_doubled_31 rfl 0 rfl ?_
        refine g_bipush (v := nI (8)) C dX5_doubled_32 (by decide) ?_
        refine g_ishr C dX5_doubled_34 ?_
        refine g_asi (show ((((nI (2)) * (f (16 - j - 1))) + (cyv s (16 - j))) >>> ((nI (8)) &&& 31)) = (cyv s (16 - (j + 1))) from dbC hs c6' hf) ?_
        refine g_istore_n (lv' := [(1, .int (cyv s (16 - (j + 1)))), (3, .int (((nI (2)) * (f (16 - j - 1))) + (cyv s (16 - j)))), (0, .ref mm), (2, .int (nI (16 - j) - nI 1))]) C dX5_doubled_35 rfl (by decide) rfl ?_
        refine g_iinc (v := nI (16 - (j + 1)) - nI 1) (lv' := [(2, .int (nI (16 - (j + 1)) - nI 1)), (1, .int (cyv s (16 - (j + 1)))), (3, .int (((nI (2)) * (f (16 - j - 1))) + (cyv s (16 - j)))), (0, .ref mm)]) C dX5_doubled_36 3 rfl (nm_d c6') (by decide) rfl ?_
        refine g_goto (tgt := 5) C dX5_doubled_39 (by decide) ?_
        refine g_lv [3, 1, 0] rfl ?_
        exact ih5 (j + 1) (upd f (16 - j - 1) ((((nI (2)) * (f (16 - j - 1))) + (cyv s (16 - j))) &&& (nI (255)))) (by omega) (dbS c6' hf) (by omega)
  refine g_lv [2, 1, 0] rfl ?_
  exact lp5 17 0 s (Nat.zero_le _) (fun i hi => by rw [if_neg (by omega)]) (by omega)
