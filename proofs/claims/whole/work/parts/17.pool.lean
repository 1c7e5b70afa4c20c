/-! the pool of a MessageCodes: its keys and its senders -/
def kf (nk : Nat) (k : Int32) : Option Nat := if k < nI 1 then none else if nI nk < k then none else some (k - nI 1).toNatClampNeg
theorem kf_some {nk i : Nat} {k : Int32} (hn : nk < 2 ^ 30) (h : kf nk k = some i) : i < nk ∧ k = nI (i + 1) := by
  unfold kf at h
  split at h
  · cases h
  · rename_i h1
    split at h
    · cases h
    · rename_i h2
      have e0 : ¬ k < 0 := fun z => h1 (by
        rw [Int32.lt_iff_toInt_lt] at z ⊢
        have a1 : (0 : Int32).toInt = 0 := rfl
        have a2 : (nI 1).toInt = 1 := rfl
        omega)
      obtain ⟨j, hj, rfl⟩ := nI_of e0
      have h3 : ¬ j < 1 := fun z => h1 (nI_lt z (by decide))
      have h4 : ¬ nk < j := fun z => h2 (nI_lt z hj)
      rw [pk_sub (by omega), nI_clamp (by omega)] at h
      cases h
      exact ⟨by omega, by rw [show j - 1 + 1 = j by omega]⟩
theorem kf_in {nk : Nat} {k : Int32} (hn : nk ≤ 16) (h1 : ¬ k < nI 1) (h2 : ¬ nI nk < k) : kf nk k = some (k - nI 1).toNatClampNeg := by
  unfold kf; rw [if_neg h1, if_neg h2]
theorem kf_vp {nk : Nat} {k : Int32} {N : Nat} (hn : nk ≤ N) (hN : N ≤ 1000) (h1 : ¬ k < nI 1) (h2 : ¬ nI nk < k) : vp_in (k - nI 1) N := by
  have h : kf nk k = some (k - nI 1).toNatClampNeg := by unfold kf; rw [if_neg h1, if_neg h2]
  obtain ⟨hi, he⟩ := kf_some (by omega) h
  generalize (k - nI 1).toNatClampNeg = i at hi he
  rw [he, pk_sub (by omega)]
  exact vp_in_nI (by omega) (by omega)
theorem kf_16 {nk : Nat} {k : Int32} (hn : nk ≤ 16) (h1 : ¬ k < nI 1) (h2 : ¬ nI nk < k) : ¬ nI 16 < k := by
  have h : kf nk k = some (k - nI 1).toNatClampNeg := by unfold kf; rw [if_neg h1, if_neg h2]
  obtain ⟨hi, he⟩ := kf_some (by omega) h
  generalize (k - nI 1).toNatClampNeg = i at hi he
  rw [he]
  exact nI_nlt (by omega) (by omega)
theorem va_up_id {α : Type} (f : Nat → α) (i : Nat) : va_up f i (f i) = f := by
  funext j
  unfold va_up
  split
  · rename_i h; rw [h]
  · rfl
def PSK (E : Ev) (L : List Nat) (F : Nat → va_E) (kr : Nat → Option Nat) (nk : Nat) (ka oa : Nat → Nat) (ko : Nat → Nat → Int32) (kn : Nat → Nat) (kc : Nat → Int64) : Prop :=
  (∀ i, i < nk → kr i = some (ka i) ∧ ka i ∈ L ∧ F (ka i) = .inr (4, [.ref (oa i), .int (nI (kn i)), .long (kc i)]) ∧ oa i ∈ L ∧ F (oa i) = aI E 16 (ko i) ∧ kn i ≤ 16) ∧ (∀ i j, i < nk → j < nk → ka i = ka j → i = j) ∧ ∀ i j, i < nk → j < nk → oa i = oa j → i = j
def PSS (L : List Nat) (F : Nat → va_E) (sr : Nat → Option Nat) (sa : Nat → Nat) (sc : Nat → Int64) (sb : Nat → Nat) (sl : Nat → Int32) : Prop :=
  ∀ i, i < 64 → sr i = some (sa i) ∧ sa i ∈ L ∧ F (sa i) = .inr (5, [.int (nI (i + 1)), .long (sc i), .int (nI (sb i)), .int (sl i)])
def PS (E : Ev) (L : List Nat) (F : Nat → va_E) (kr sr : Nat → Option Nat) (nk : Nat) (ko : Nat → Nat → Int32) (kn : Nat → Nat) (kc sc : Nat → Int64) (sb : Nat → Nat) (sl : Nat → Int32) : Prop :=
  ∃ ka oa sa : Nat → Nat, PSK E L F kr nk ka oa ko kn kc ∧ PSS L F sr sa sc sb sl
section
variable {E : Ev} {L : List Nat} {F : Nat → va_E} {kr sr : Nat → Option Nat} {nk : Nat} {ko : Nat → Nat → Int32} {kn : Nat → Nat} {kc sc : Nat → Int64} {sb : Nat → Nat} {sl : Nat → Int32}
theorem PS.congr {ko' : Nat → Nat → Int32} {kn' : Nat → Nat} {kc' sc' : Nat → Int64} {sb' : Nat → Nat} {sl' : Nat → Int32} (h : PS E L F kr sr nk ko kn kc sc sb sl) (h1 : ∀ i, i < nk → ko' i = ko i ∧ kn' i = kn i ∧ kc' i = kc i) (h2 : ∀ i, i < 64 → sc' i = sc i ∧ sb' i = sb i ∧ sl' i = sl i) : PS E L F kr sr nk ko' kn' kc' sc' sb' sl' := by
  obtain ⟨ka, oa, sa, hk, hs⟩ := h
  refine ⟨ka, oa, sa, ⟨fun i hi => ?_, hk.2⟩, fun i hi => ?_⟩
  · rw [(h1 i hi).1, (h1 i hi).2.1, (h1 i hi).2.2]; exact hk.1 i hi
  · rw [(h2 i hi).1, (h2 i hi).2.1, (h2 i hi).2.2]; exact hs i hi
theorem PS.sender (h : PS E L F kr sr nk ko kn kc sc sb sl) {i : Nat} (hi : i < 64) : ∃ a, sr i = some a ∧ a ∈ L ∧ F a = .inr (5, [.int (nI (i + 1)), .long (sc i), .int (nI (sb i)), .int (sl i)]) ∧
    ∀ (c' : Int64) (b' : Nat) (l' : Int32), PS E L (va_up F a (.inr (5, [.int (nI (i + 1)), .long c', .int (nI b'), .int l']))) kr sr nk ko kn kc (va_up sc i c') (va_up sb i b') (va_up sl i l') := by
  obtain ⟨ka, oa, sa, hk, hs⟩ := h
  refine ⟨sa i, (hs i hi).1, (hs i hi).2.1, (hs i hi).2.2, fun c' b' l' => ⟨ka, oa, sa, ⟨fun j hj => ?_, hk.2⟩, fun j hj => ?_⟩⟩
  · obtain ⟨h1, h2, h3, h4, h5, h6⟩ := hk.1 j hj
    have n1 : ka j ≠ sa i := fun e => by rw [e, (hs i hi).2.2] at h3; cases h3
    have n2 : oa j ≠ sa i := fun e => by rw [e, (hs i hi).2.2] at h5; cases h5
    exact ⟨h1, h2, by rw [va_up_ne _ _ n1]; exact h3, h4, by rw [va_up_ne _ _ n2]; exact h5, h6⟩
  · by_cases e : j = i
    · subst e
      rw [va_up_self, va_up_self, va_up_self, va_up_self]
      exact ⟨(hs j hj).1, (hs j hj).2.1, rfl⟩
    · have n : sa j ≠ sa i := fun z => by
        have a1 := (hs j hj).2.2
        have a2 := (hs i hi).2.2
        rw [z, a2] at a1
        injection a1 with a1
        injection a1 with _ a1
        injection a1 with a1 _
        injection a1 with a1
        have := (nI_eq (by omega) (by omega)).mp a1
        omega
      rw [va_up_ne _ _ n, va_up_ne _ _ e, va_up_ne _ _ e, va_up_ne _ _ e]
      exact hs j hj
theorem PS.key (h : PS E L F kr sr nk ko kn kc sc sb sl) {i : Nat} (hi : i < nk) : ∃ a o, kr i = some a ∧ a ∈ L ∧ F a = .inr (4, [.ref o, .int (nI (kn i)), .long (kc i)]) ∧ o ∈ L ∧ F o = aI E 16 (ko i) ∧ kn i ≤ 16 ∧ o ≠ a ∧
    ∀ (K' : Nat → Int32) (n' : Nat) (c' : Int64), n' ≤ 16 → PS E L (va_up (va_up F o (aI E 16 K')) a (.inr (4, [.ref o, .int (nI n'), .long c']))) kr sr nk (va_up ko i K') (va_up kn i n') (va_up kc i c') sc sb sl := by
  obtain ⟨ka, oa, sa, hk, hs⟩ := h
  obtain ⟨g1, g2, g3, g4, g5, g6⟩ := hk.1 i hi
  have hne : oa i ≠ ka i := fun e => by rw [e, g3] at g5; cases g5
  refine ⟨ka i, oa i, g1, g2, g3, g4, g5, g6, hne, fun K' n' c' hn => ⟨ka, oa, sa, ⟨fun j hj => ?_, hk.2⟩, fun j hj => ?_⟩⟩
  · obtain ⟨h1, h2, h3, h4, h5, h6⟩ := hk.1 j hj
    by_cases e : j = i
    · subst e
      rw [va_up_self, va_up_self, va_up_self, va_up_self, va_up_ne _ _ hne, va_up_self]
      exact ⟨h1, h2, rfl, h4, rfl, hn⟩
    · have n1 : ka j ≠ ka i := fun z => e (hk.2.1 j i hj hi z)
      have n2 : oa j ≠ oa i := fun z => e (hk.2.2 j i hj hi z)
      have n3 : ka j ≠ oa i := fun z => by rw [z, g5] at h3; cases h3
      have n4 : oa j ≠ ka i := fun z => by rw [z, g3] at h5; cases h5
      rw [va_up_ne _ _ e, va_up_ne _ _ e, va_up_ne _ _ e, va_up_ne _ _ n1, va_up_ne _ _ n3, va_up_ne _ _ n4, va_up_ne _ _ n2]
      exact ⟨h1, h2, h3, h4, h5, h6⟩
  · obtain ⟨h1, h2, h3⟩ := hs j hj
    have n1 : sa j ≠ ka i := fun z => by rw [z, g3] at h3; cases h3
    have n2 : sa j ≠ oa i := fun z => by rw [z, g5] at h3; cases h3
    rw [va_up_ne _ _ n1, va_up_ne _ _ n2]
    exact ⟨h1, h2, h3⟩
theorem PS.new (h : PS E L F kr sr nk ko kn kc sc sb sl) {k o : Nat} (hk : k ∉ L) (ho : o ∉ L) (hne : o ≠ k) : PS E (L ++ [o] ++ [k]) (va_up (va_up F o (aI E 16 (fun _ => 0))) k (.inr (4, [.ref o, .int 0, .long 0]))) (va_up kr nk (some k)) sr (nk + 1) (va_up ko nk (fun _ => 0)) (va_up kn nk 0) (va_up kc nk 0) sc sb sl := by
  obtain ⟨ka, oa, sa, hK, hs⟩ := h
  have inL : ∀ x, x ∈ L → x ∈ L ++ [o] ++ [k] := fun x hx => List.mem_append_left _ (List.mem_append_left _ hx)
  refine ⟨va_up ka nk k, va_up oa nk o, sa, ⟨fun j hj => ?_, fun i j hi hj e => ?_, fun i j hi hj e => ?_⟩, fun j hj => ?_⟩
  · by_cases e : j = nk
    · subst e
      rw [va_up_self, va_up_self, va_up_self, va_up_self, va_up_self, va_up_self, va_up_self, va_up_ne _ _ hne, va_up_self]
      exact ⟨rfl, by simp, rfl, by simp, rfl, by omega⟩
    · obtain ⟨h1, h2, h3, h4, h5, h6⟩ := hK.1 j (by omega)
      have n1 : ka j ≠ k := fun z => hk (z ▸ h2)
      have n2 : ka j ≠ o := fun z => ho (z ▸ h2)
      have n3 : oa j ≠ k := fun z => hk (z ▸ h4)
      have n4 : oa j ≠ o := fun z => ho (z ▸ h4)
      rw [va_up_ne _ _ e, va_up_ne _ _ e, va_up_ne _ _ e, va_up_ne _ _ e, va_up_ne _ _ e, va_up_ne _ _ e, va_up_ne _ _ n1, va_up_ne _ _ n2, va_up_ne _ _ n3, va_up_ne _ _ n4]
      exact ⟨h1, inL _ h2, h3, inL _ h4, h5, h6⟩
  · by_cases ei : i = nk
    · by_cases ej : j = nk
      · rw [ei, ej]
      · rw [ei, va_up_self, va_up_ne _ _ ej] at e
        exact absurd (e ▸ (hK.1 j (by omega)).2.1) hk
    · by_cases ej : j = nk
      · rw [ej, va_up_self, va_up_ne _ _ ei] at e
        exact absurd (e ▸ (hK.1 i (by omega)).2.1) hk
      · rw [va_up_ne _ _ ei, va_up_ne _ _ ej] at e
        exact hK.2.1 i j (by omega) (by omega) e
  · by_cases ei : i = nk
    · by_cases ej : j = nk
      · rw [ei, ej]
      · rw [ei, va_up_self, va_up_ne _ _ ej] at e
        exact absurd (e ▸ (hK.1 j (by omega)).2.2.2.1) ho
    · by_cases ej : j = nk
      · rw [ej, va_up_self, va_up_ne _ _ ei] at e
        exact absurd (e ▸ (hK.1 i (by omega)).2.2.2.1) ho
      · rw [va_up_ne _ _ ei, va_up_ne _ _ ej] at e
        exact hK.2.2 i j (by omega) (by omega) e
  · obtain ⟨h1, h2, h3⟩ := hs j hj
    have n1 : sa j ≠ k := fun z => hk (z ▸ h2)
    have n2 : sa j ≠ o := fun z => ho (z ▸ h2)
    rw [va_up_ne _ _ n1, va_up_ne _ _ n2]
    exact ⟨h1, inL _ h2, h3⟩
end
