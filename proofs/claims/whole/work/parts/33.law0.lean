/-! the law: its own rows, and what each step keeps -/
abbrev muL (nm : String) : Mu := (cL_law, 7, RL, (some .boolean), nm, 19, 603072, 7190633, 10784)
def SC (g : Gm) (A : Nat → Prop) (b N : Nat) (xs : Nat → Int32) : Prop := va_X b N xs (gs g) (gs g).heap ∧ b < (gs g).heap.size ∧ ¬ A b
def cL (a b : Int32) : Int64 := (a.toInt64 <<< ((nI (32)).toInt64 &&& 63)) ||| (b.toInt64 &&& 4294967295)
section
variable {g : Gm} {u : Mu} {E : Ev} {A : Nat → Prop} {ce sl : Nat} {Q : State → Prop} {X : va_W} {L : List Nat} {F : Nat → va_E} {pc : Nat} {lv : List (Nat × Value)} {rest : List Value}
theorem g_sld (C : Cx g u E A) {b N : Nat} {xs : Nat → Int32} (hS : SC g A b N xs) {i : Nat} (hi : i < N) (hN : N < 2 ^ 31) (hdg : decode u.1 pc = .ok (.iaload, 1)) (k : G g u E A ce sl Q X L F (pc + 1) lv (.int (xs i) :: rest)) : G g u E A ce sl Q X L F pc lv (.int (nI i) :: .ref b :: rest) := fun H locs ls hw hl =>
  va_sld C.1.1 C.1.2.1 hS.1 hS.2.1 hS.2.2 hw.2.2 (vp_in_nI hi hN) hdg (by rw [nI_clamp (by omega)]; exact k H locs ls hw hl)
theorem g_slen (C : Cx g u E A) {b N : Nat} {xs : Nat → Int32} (hS : SC g A b N xs) (hdg : decode u.1 pc = .ok (.arraylength, 1)) (k : G g u E A ce sl Q X L F (pc + 1) lv (.int (nI N) :: rest)) : G g u E A ce sl Q X L F pc lv (.ref b :: rest) := fun H locs ls hw hl =>
  va_slen C.1.1 C.1.2.1 hS.1 hS.2.1 hS.2.2 hw.2.2 hdg (k H locs ls hw hl)
theorem g_tabOut (C : Cx g u E A) {dflt lo hi : Int} {offs : Array Int} {len : Nat} {x : Int32} {tgt : Nat} (hdg : decode u.1 pc = .ok (.tableswitch dflt lo hi offs, len)) (h : x.toInt < lo ∨ hi < x.toInt) (ht : (pc : Int) + dflt = (tgt : Int)) (k : G g u E A ce sl Q X L F tgt lv rest) : G g u E A ce sl Q X L F pc lv (.int x :: rest) := fun H locs ls hw hl =>
  lv_tableOut C.1.1 C.1.2.1 hdg h ht (k H locs ls hw hl)
theorem g_tabIn (C : Cx g u E A) {dflt lo hi : Int} {offs : Array Int} {len : Nat} {x : Int32} {off : Int} {tgt : Nat} (hdg : decode u.1 pc = .ok (.tableswitch dflt lo hi offs, len)) (h1 : ¬ x.toInt < lo) (h2 : ¬ hi < x.toInt) (ho : offs[(x.toInt - lo).toNat]? = some off) (ht : (pc : Int) + off = (tgt : Int)) (k : G g u E A ce sl Q X L F tgt lv rest) : G g u E A ce sl Q X L F pc lv (.int x :: rest) := fun H locs ls hw hl =>
  lv_tableIn C.1.1 C.1.2.1 hdg h1 h2 ho ht (k H locs ls hw hl)
end
theorem sub5a : ∀ n, n < 2561 → (nI n - nI 5).toInt = (n : Int) - 5 := by decide +kernel
theorem sub5 {N t : Nat} (hN : N ≤ 2560) (ht : 5 * t ≤ 5000) : nI N - nI 5 < nI (5 * t) ↔ ¬ 5 * t + 5 ≤ N := by
  rw [Int32.lt_iff_toInt_lt, sub5a N (by omega), nI_toInt (by omega)]
  omega
def SOk (sc : Nat → Int64) (sb : Nat → Nat) (sl : Nat → Int32) : Prop := ∀ j, j < 64 → sb j ≤ 5 ∧ 0 ≤ (sc j).toInt ∧ (sc j).toInt ≤ 4611686018427387904 ∧ slO (sl j)
/-- what holds between the calls: the class's state, and that the reference's says the same -/
def LI (E : Ev) (L : List Nat) (F : Nat → va_E) (kr sr : Nat → Option Nat) (nk ml on : Nat) (ko : Nat → Nat → Int32) (kn : Nat → Nat) (kc sc : Nat → Int64) (sb : Nat → Nat) (sl msg ov fot foc fnx fbd fmy : Nat → Int32) (fis fco : Nat → Int64) : Prop :=
  nk ≤ 16 ∧ ml ≤ 300 ∧ on ≤ 16 ∧ (∀ j, j < 300 → isO (msg j)) ∧ (∀ j, j < on → fot j = ov j) ∧ PS E L F kr sr nk ko kn kc sc sb sl ∧ MK foc fnx fis nk ko kn kc ∧ MS fco fbd fmy sc sb sl ∧ SOk sc sb sl
theorem key_ok {foc fnx : Nat → Int32} {fis : Nat → Int64} {nk : Nat} {ko : Nat → Nat → Int32} {kn : Nat → Nat} {kc : Nat → Int64} (hn : nk ≤ 16) (h : MK foc fnx fis nk ko kn kc) : (keyS nk ko kn kc).2.1 ≤ 16 ∧ MK foc fnx fis (keyS nk ko kn kc).2.1 (keyS nk ko kn kc).2.2.1 (keyS nk ko kn kc).2.2.2.1 (keyS nk ko kn kc).2.2.2.2 := by
  unfold keyS
  split
  · exact ⟨by show nk + 1 ≤ 16; omega, MK_new h (by assumption)⟩
  · exact ⟨hn, h⟩
theorem oct_ok {ml : Nat} {msg : Nat → Int32} (b : Int32) (h1 : ml ≤ 300) (h2 : ∀ j, j < 300 → isO (msg j)) : (octS ml msg b).1 ≤ 300 ∧ ∀ j, j < 300 → isO ((octS ml msg b).2 j) := by
  unfold octS
  split
  · refine ⟨by show ml + 1 ≤ 300; omega, fun j hj => ?_⟩
    show isO (upd msg ml (b &&& nI 255) j)
    by_cases e : j = ml
    · rw [e, pk_us]; exact isO_and _
    · rw [pk_un e]; exact h2 j hj
  · exact ⟨h1, h2⟩
theorem cd_ok {nk : Nat} {ko : Nat → Nat → Int32} {ml : Nat} {msg : Nat → Int32} {on : Nat} {ov : Nat → Int32} (k bits : Int32) (h1 : ml ≤ 300) (h2 : on ≤ 16) : (cdS nk ko ml msg on ov k bits).2.1 ≤ 300 ∧ (cdS nk ko ml msg on ov k bits).2.2.1 ≤ 16 := by
  unfold cdS
  split
  · exact ⟨h1, h2⟩
  · by_cases c1 : bits < nI 32
    · rw [if_pos c1]; exact ⟨h1, h2⟩
    · rw [if_neg c1]
      by_cases c2 : bits ≤ nI 128
      · rw [if_pos c2]
        obtain ⟨n, a, b, rfl⟩ := bits_of c1 c2
        refine ⟨Nat.zero_le _, ?_⟩
        show ((nI n).toNatClampNeg + 7) / 8 ≤ 16
        rw [nI_clamp (by omega)]
        omega
      · rw [if_neg c2]; exact ⟨h1, h2⟩
theorem ec_ok {nk : Nat} {ko : Nat → Nat → Int32} {ml : Nat} {msg : Nat → Int32} {on : Nat} {ov : Nat → Int32} (k : Int32) (h1 : ml ≤ 300) (h2 : on ≤ 16) : (ecS nk ko ml msg on ov k).2.1 ≤ 300 ∧ (ecS nk ko ml msg on ov k).2.2.1 ≤ 16 := by
  unfold ecS
  split
  · exact ⟨h1, h2⟩
  · split
    · exact ⟨Nat.zero_le _, Nat.le_refl _⟩
    · exact ⟨h1, h2⟩
theorem is_ok {nk : Nat} {ko : Nat → Nat → Int32} {kn : Nat → Nat} {kc : Nat → Int64} {ml : Nat} {msg : Nat → Int32} (k w : Int32) (c : Int64) (h1 : ml ≤ 300) : (isS nk ko kn kc ml msg k w c).2.1 ≤ 300 := by
  unfold isS
  split
  · exact h1
  · split
    · exact h1
    · split
      · split
        · split
          · exact Nat.zero_le _
          · split
            · exact Nat.zero_le _
            · exact Nat.zero_le _
        · exact h1
      · exact h1
theorem c62 : (4611686018427387904 : Int64).toInt = 4611686018427387904 := by decide +kernel
theorem c0L : (0 : Int64).toInt = 0 := by decide +kernel
theorem fr_ok {sc : Nat → Int64} {sb : Nat → Nat} {sl : Nat → Int32} (id : Int32) (c : Int64) (h : SOk sc sb sl) : SOk (frS sc id c).2 sb sl := by
  unfold frS
  split
  · exact h
  · rename_i i _
    by_cases c1 : c < 0
    · rw [if_pos c1]; exact h
    · rw [if_neg c1]
      by_cases c2 : c ≤ 4611686018427387904
      · rw [if_pos c2]
        split
        · intro j hj
          show _ ∧ 0 ≤ (va_up sc i c j).toInt ∧ (va_up sc i c j).toInt ≤ _ ∧ _
          by_cases e : j = i
          · subst e
            rw [va_up_self]
            rw [Int64.lt_iff_toInt_lt, c0L] at c1
            rw [Int64.le_iff_toInt_le, c62] at c2
            exact ⟨(h j hj).1, by omega, c2, (h j hj).2.2.2⟩
          · rw [va_up_ne _ _ e]; exact h j hj
        · exact h
      · rw [if_neg c2]; exact h
theorem tr_ok {tr : Int64} {sc : Nat → Int64} {sb : Nat → Nat} {sl : Nat → Int32} (n : Int64) (h : SOk sc sb sl) : SOk (trS tr sc sb n).2.2.1 (trS tr sc sb n).2.2.2 sl := by
  unfold trS
  split
  · exact h
  · split
    · split
      · intro j hj
        exact ⟨Nat.zero_le _, by show 0 ≤ (0 : Int64).toInt; rw [c0L]; exact Int.le_refl 0, by show (0 : Int64).toInt ≤ _; rw [c0L]; decide, (h j hj).2.2.2⟩
      · exact h
    · exact h
theorem my_ok {nk : Nat} (hnk : nk ≤ 16) {sc : Nat → Int64} {sb : Nat → Nat} {sl : Nat → Int32} (id k : Int32) (on : Bool) (h : SOk sc sb sl) : SOk sc sb (myS nk sl id k on).2 := by
  unfold myS
  split
  · exact h
  · rename_i j _
    split
    · exact h
    · rename_i i hk
      obtain ⟨hi, hke⟩ := kf_some (by omega) hk
      intro q hq
      refine ⟨(h q hq).1, (h q hq).2.1, (h q hq).2.2.1, ?_⟩
      show slO (va_up sl j (alw (sl j) k on) q)
      by_cases e : q = j
      · subst e
        rw [va_up_self, hke]
        exact alw_slO (h q hq).2.2.2 (by omega) on
      · rw [va_up_ne _ _ e]; exact (h q hq).2.2.2
theorem l_add {s : Int64} {d : Int32} (h0 : 0 ≤ s.toInt) (h1 : s.toInt ≤ 4611686018427387904) (hd : ∃ n, n < 256 ∧ d = nI n) (h : s + d.toInt64 ≤ 4611686018427387904) : 0 ≤ (s + d.toInt64).toInt ∧ (s + d.toInt64).toInt ≤ 4611686018427387904 := by
  obtain ⟨n, hn, rfl⟩ := hd
  rw [Int64.le_iff_toInt_le, c62] at h
  refine ⟨?_, h⟩
  rw [nI_l (by omega), Int64.toInt_add, lN_toInt (by omega)]
  rw [Int.bmod_eq_of_le (by omega) (by omega)]
  omega
theorem vf_ok {nk : Nat} {ko : Nat → Nat → Int32} {ml : Nat} {msg : Nat → Int32} {tr : Int64} {sc : Nat → Int64} {sb : Nat → Nat} {sl : Nat → Int32} (k id cut : Int32) (h1 : ml ≤ 300) (h : SOk sc sb sl) : (vfS nk ko ml msg tr sc sb sl k id cut).2.1 ≤ 300 ∧ SOk (vfS nk ko ml msg tr sc sb sl k id cut).2.2.1 (vfS nk ko ml msg tr sc sb sl k id cut).2.2.2 sl := by
  unfold vfS
  split
  · exact ⟨h1, h⟩
  · split
    · exact ⟨h1, h⟩
    · rename_i j hsf
      obtain ⟨hj, -⟩ := kf_some (by omega) hsf
      split
      · exact ⟨h1, h⟩
      · split
        · split
          · split
            · exact ⟨h1, h⟩
            · split
              · split
                · exact ⟨Nat.zero_le _, h⟩
                · split
                  · exact ⟨Nat.zero_le _, h⟩
                  · by_cases c3 : sc j + (dS cut (sc j)).toInt64 ≤ 4611686018427387904
                    · rw [if_pos c3]
                      refine ⟨Nat.zero_le _, fun q hq => ?_⟩
                      have hq9 := h j hj
                      have hl := l_add hq9.2.1 hq9.2.2.1 (dS_of cut (sc j)) c3
                      show va_up sb j _ q ≤ 5 ∧ 0 ≤ (va_up sc j _ q).toInt ∧ (va_up sc j _ q).toInt ≤ _ ∧ slO (sl q)
                      by_cases e : q = j
                      · subst e
                        rw [va_up_self, va_up_self]
                        split
                        · exact ⟨Nat.zero_le _, hl.1, hl.2, hq9.2.2.2⟩
                        · exact ⟨by omega, hq9.2.1, hq9.2.2.1, hq9.2.2.2⟩
                      · rw [va_up_ne _ _ e, va_up_ne _ _ e]
                        exact h q hq
                    · rw [if_neg c3]; exact ⟨Nat.zero_le _, h⟩
              · exact ⟨h1, h⟩
          · exact ⟨h1, h⟩
        · exact ⟨h1, h⟩
theorem out_ok {x r cd r1 : Int32} {on : Nat} {fl : Nat → Int64} {ov fot : Nat → Int32} (hon : on ≤ 16) (hot : ∀ j, j < on → fot j = ov j) (h1 : (r = nI 1 ∧ (x < 0 ∨ ¬ x < nI on)) ∨ (r = nI 0 ∧ ∃ q, q < on ∧ x = nI q ∧ fl 0 = ((ov q).toInt8.toInt32).toInt64))
    (h2 : (cd = nI 1 ∧ (x < 0 ∨ ¬ x < nI on)) ∨ (cd = nI 0 ∧ ∃ q, q < on ∧ x = nI q ∧ r1 = (fot q).toInt8.toInt32)) : cd = r ∧ (r = 0 → fl 0 = r1.toInt64) := by
  have hno : ∀ q, q < on → x = nI q → ¬ (x < 0 ∨ ¬ x < nI on) := by
    intro q hq he hh
    rcases hh with hh | hh
    · rw [he] at hh; exact nI_pos (by omega) hh
    · rw [he] at hh; exact hh (nI_lt hq (by omega))
  rcases h1 with ⟨e1, p1⟩ | ⟨e1, q, hq, he, hf⟩
  · rcases h2 with ⟨e2, p2⟩ | ⟨e2, q, hq, he, hr⟩
    · refine ⟨by rw [e1, e2], fun z => ?_⟩
      rw [e1] at z
      exact absurd z (by decide)
    · exact absurd p1 (hno q hq he)
  · rcases h2 with ⟨e2, p2⟩ | ⟨e2, q', hq', he', hr⟩
    · exact absurd p2 (hno q hq he)
    · refine ⟨by rw [e1, e2], fun _ => ?_⟩
      have : q = q' := (nI_eq (by omega) (by omega)).mp (he.symm.trans he')
      subst this
      rw [hf, hr, hot q hq]
