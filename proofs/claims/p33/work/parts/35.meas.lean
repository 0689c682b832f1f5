/-! MEASURE and WORK: the account's sums against the house's -/
theorem tl_lo {l x y : Int32} (h0 : 0 ≤ l) (hx0 : ¬ x < 0) (hx9 : x ≤ 99) (hy0 : ¬ y < 0) (hy9 : y ≤ 20) : (if l < (if x - y < 0 then 0 else x - y) then (if x - y < 0 then 0 else x - y) else l) = if l < x - y then x - y else l := by
  by_cases c : x - y < 0
  · rw [if_pos c]
    by_cases a : l < 0
    · exfalso
      rw [Int32.lt_iff_toInt_lt] at a
      rw [Int32.le_iff_toInt_le] at h0
      omega
    · rw [if_neg a, if_neg (fun z => a (Int32.lt_trans z c))]
  · rw [if_neg c]
theorem tl_ti {x y : Int32} (hx0 : ¬ x < 0) (hx9 : x ≤ 99) (hy0 : ¬ y < 0) (hy9 : y ≤ 20) : (x - y).toInt = x.toInt - y.toInt ∧ (x + y).toInt = x.toInt + y.toInt ∧ 0 ≤ x.toInt ∧ x.toInt ≤ 99 ∧ 0 ≤ y.toInt ∧ y.toInt ≤ 20 := by
  rw [Int32.lt_iff_toInt_lt] at hx0 hy0
  rw [Int32.le_iff_toInt_le] at hx9 hy9
  have z0 : (0 : Int32).toInt = 0 := rfl
  have z9 : (99 : Int32).toInt = 99 := rfl
  have z2 : (20 : Int32).toInt = 20 := rfl
  rw [z0] at hx0 hy0
  rw [z9] at hx9
  rw [z2] at hy9
  refine ⟨?_, ?_, by omega, by omega, by omega, by omega⟩
  · rw [Int32.toInt_sub]
    exact Int.bmod_eq_of_le (by omega) (by omega)
  · rw [Int32.toInt_add]
    exact Int.bmod_eq_of_le (by omega) (by omega)
theorem tl_hi {h x y : Int32} (h9 : h ≤ 99) : (if (if 99 < x + y then 99 else x + y) < h then (if 99 < x + y then 99 else x + y) else h) = if x + y < h then x + y else h := by
  by_cases c : 99 < x + y
  · rw [if_pos c]
    have a : ¬ (99 : Int32) < h := fun z => by
      rw [Int32.lt_iff_toInt_lt] at z
      rw [Int32.le_iff_toInt_le] at h9
      omega
    have b : ¬ x + y < h := fun z => a (Int32.lt_trans c z)
    rw [if_neg a, if_neg b]
  · rw [if_neg c]
theorem tl_hl {x y : Int32} (hx0 : ¬ x < 0) (hx9 : x ≤ 99) (hy0 : ¬ y < 0) (hy9 : y ≤ 20) : tl_held (x - y) 99 = (if x - y < 0 then 0 else x - y) ∧ tl_held (x + y) 99 = (if 99 < x + y then 99 else x + y) := by
  obtain ⟨a, b, c1, c2, c3, c4⟩ := tl_ti hx0 hx9 hy0 hy9
  have z0 : (0 : Int32).toInt = 0 := rfl
  have z9 : (99 : Int32).toInt = 99 := rfl
  constructor
  · unfold tl_held
    by_cases c : x - y < 0
    · rw [if_pos c, if_pos c]
    · rw [if_neg c, if_neg c, if_neg (fun z => by rw [Int32.lt_iff_toInt_lt, a, z9] at z; omega)]
  · unfold tl_held
    rw [if_neg (fun z => by rw [Int32.lt_iff_toInt_lt, b, z0] at z; omega)]
/-- the bounds stay between 0 and 99 -/
theorem tl_lob {l x y : Int32} (h0 : 0 ≤ l) (hx0 : ¬ x < 0) : 0 ≤ (if x - y < 0 then 0 else x - y) ∧ 0 ≤ (if l < x - y then x - y else l) := by
  constructor
  · split
    · decide
    · rename_i c
      rw [Int32.lt_iff_toInt_lt] at c
      rw [Int32.le_iff_toInt_le]
      omega
  · split
    · rename_i c
      rw [Int32.lt_iff_toInt_lt] at c
      rw [Int32.le_iff_toInt_le] at h0 ⊢
      omega
    · exact h0
theorem tl_hib {h x y : Int32} (h9 : h ≤ 99) : (if 99 < x + y then 99 else x + y) ≤ 99 ∧ (if x + y < h then x + y else h) ≤ 99 := by
  constructor
  · split
    · decide
    · rename_i c
      rw [Int32.lt_iff_toInt_lt] at c
      rw [Int32.le_iff_toInt_le]
      omega
  · split
    · rename_i c
      rw [Int32.lt_iff_toInt_lt] at c
      rw [Int32.le_iff_toInt_le] at h9 ⊢
      omega
    · exact h9
theorem tl_i0 {p : Prop} [Decidable p] {a b : Int32} (ha : 0 ≤ a) (hb : 0 ≤ b) : 0 ≤ (if p then a else b) := by
  split
  · exact ha
  · exact hb
theorem tl_i99 {p : Prop} [Decidable p] {a b : Int32} (ha : a ≤ 99) (hb : b ≤ 99) : (if p then a else b) ≤ 99 := by
  split
  · exact ha
  · exact hb
/-- what learning makes of the bounds -/
theorem sp_learn_at (σ : hs_St) (q j : Nat) (x y : Int32) : (∀ a i e, a ≠ 4 → ¬ ((a = 7 ∨ a = 8) ∧ i = q ∧ e = j) → sp_learn σ q j x y a i e = σ a i e) ∧ (∀ i e, e ≠ 7 → sp_learn σ q j x y 4 i e = σ 4 i e) ∧ sp_learn σ q j x y 7 q j = (if (if σ 7 q j < x then x else σ 7 q j) ≤ (if y < σ 8 q j then y else σ 8 q j) then (if σ 7 q j < x then x else σ 7 q j) else x) ∧ sp_learn σ q j x y 8 q j = (if (if σ 7 q j < x then x else σ 7 q j) ≤ (if y < σ 8 q j then y else σ 8 q j) then (if y < σ 8 q j then y else σ 8 q j) else y) := by
  unfold sp_learn
  try simp only []
  generalize (if σ 7 q j < x then x else σ 7 q j) = u
  generalize (if y < σ 8 q j then y else σ 8 q j) = v
  split
  · refine ⟨fun a i e h1 h2 => ?_, fun i e h => ?_, ?_, ?_⟩
    · rw [pc_sg, if_neg (by omega), pc_sg, if_neg (by omega), pc_sg, if_neg (by omega)]
    · rw [pc_sg, if_neg (by omega), pc_sg, if_neg (by omega), pc_sg, if_neg (by omega)]
    · rw [pc_sg, if_neg (by omega), pc_sg, if_neg (by omega), pc_sg, if_pos ⟨rfl, rfl, rfl⟩]
    · rw [pc_sg, if_neg (by omega), pc_sg, if_pos ⟨rfl, rfl, rfl⟩]
  · refine ⟨fun a i e h1 h2 => ?_, fun i e h => ?_, ?_, ?_⟩
    · rw [pc_sg, if_neg (by omega), pc_sg, if_neg (by omega), pc_sg, if_neg (by omega)]
    · rw [pc_sg, if_neg (by omega), pc_sg, if_neg (by omega), pc_sg, if_neg (by omega)]
    · rw [pc_sg, if_neg (by omega), pc_sg, if_neg (by omega), pc_sg, if_pos ⟨rfl, rfl, rfl⟩]
    · rw [pc_sg, if_neg (by omega), pc_sg, if_pos ⟨rfl, rfl, rfl⟩]
/-- the house's new state, measured -/
def tl_ms (σ : hs_St) (q j : Nat) (x y : Int32) : hs_St := sp_learn σ q j (if x - y < 0 then 0 else x - y) (if 99 < x + y then 99 else x + y)
section TGM
variable {P F R : Nat} {n : Nat → Nat} {c c' σ : hs_St} {k dy : Nat}
theorem tg_measure (h : tg P F R n c σ k dy) (q j : Nat) (hq : q < P) (hj : j < 6) {x y : Int32} (hx0 : ¬ x < 0) (hx9 : x ≤ 99) (hy0 : ¬ y < 0) (hy9 : y ≤ 20) (ho : ∀ a i e, a ≠ 13 → ¬ ((a = 14 ∨ a = 15) ∧ i = q ∧ e = j) → c' a i e = c a i e) (h14 : c' 14 q j = tl_ms σ q j x y 7 q j) (h15 : c' 15 q j = tl_ms σ q j x y 8 q j) : tg P F R n c' (tl_ms σ q j x y) k dy := by
  obtain ⟨hok, hpd, hN, hk, hd, hd2, hp, hfg⟩ := h
  obtain ⟨s1, s2, s3, s4⟩ := sp_learn_at σ q j (if x - y < 0 then 0 else x - y) (if 99 < x + y then 99 else x + y)
  obtain ⟨hp1, hp2⟩ := hp q hq
  obtain ⟨b1, b2, b3, b4⟩ := hp2 j hj
  have e3 : tl_ms σ q j x y 7 q j = (if (if σ 7 q j < x - y then x - y else σ 7 q j) ≤ (if x + y < σ 8 q j then x + y else σ 8 q j) then (if σ 7 q j < x - y then x - y else σ 7 q j) else (if x - y < 0 then 0 else x - y)) := by
    have := s3
    rw [tl_lo b3 hx0 hx9 hy0 hy9, tl_hi b4] at this
    exact this
  have e4 : tl_ms σ q j x y 8 q j = (if (if σ 7 q j < x - y then x - y else σ 7 q j) ≤ (if x + y < σ 8 q j then x + y else σ 8 q j) then (if x + y < σ 8 q j then x + y else σ 8 q j) else (if 99 < x + y then 99 else x + y)) := by
    have := s4
    rw [tl_lo b3 hx0 hx9 hy0 hy9, tl_hi b4] at this
    exact this
  have hok2 : hs_ok P F R (tl_ms σ q j x y) := hok.of ⟨s1 _ _ _ (by omega) (by omega), s1 _ _ _ (by omega) (by omega), s1 _ _ _ (by omega) (by omega)⟩ (fun f hf => ⟨s1 _ _ _ (by omega) (by omega), s1 _ _ _ (by omega) (by omega), Or.inl (s1 _ _ _ (by omega) (by omega)), Or.inl (s1 _ _ _ (by omega) (by omega))⟩)
  have hpd2 : pd P F R (tl_ms σ q j x y) := fun a i e hn => by
    by_cases z4 : a = 4
    · subst z4
      by_cases z7 : e = 7
      · subst z7
        by_cases zi : i = q
        · subst zi
          exact absurd (pd_l4 hq (by omega) (by omega)) hn
        · rw [← hpd 4 i 7 hn]
          show sp_learn σ q j _ _ 4 i 7 = _
          unfold sp_learn
          try simp only []
          generalize (if σ 7 q j < (if x - y < 0 then 0 else x - y) then (if x - y < 0 then 0 else x - y) else σ 7 q j) = u
          generalize (if (if 99 < x + y then 99 else x + y) < σ 8 q j then (if 99 < x + y then 99 else x + y) else σ 8 q j) = v
          split <;> rw [pc_sg, if_neg (by omega), pc_sg, if_neg (by omega), pc_sg, if_neg (by omega)]
      · exact (s2 i e z7).trans (hpd 4 i e hn)
    · by_cases z : (a = 7 ∨ a = 8) ∧ i = q ∧ e = j
      · obtain ⟨z1, rfl, rfl⟩ := z
        rcases z1 with rfl | rfl
        · exact absurd (pd_l7 hq hj) hn
        · exact absurd (pd_l8 hq hj) hn
      · exact (s1 a i e z4 z).trans (hpd a i e hn)
  refine ⟨hok2, hpd2, hN, by rw [ho _ _ _ (by omega) (by omega)]; exact hk, by rw [ho _ _ _ (by omega) (by omega)]; exact hd, (s1 _ _ _ (by omega) (by omega)).trans hd2, fun i hi => ?_, fun f hf8 => (hfg f hf8).of (Nat.le_refl _) (fun e => ho _ _ _ (by omega) (by omega)) (fun e _ => s1 _ _ _ (by omega) (by omega))⟩
  refine ⟨fun e he => ?_, fun e he => ?_⟩
  · rw [ho _ _ _ (by omega) (by omega)]
    exact ((hp i hi).1 e he).trans (s1 _ _ _ (by omega) (by omega)).symm
  · by_cases z : i = q ∧ e = j
    · obtain ⟨rfl, rfl⟩ := z
      refine ⟨h14, h15, ?_, ?_⟩
      · rw [e3]
        exact tl_i0 (tl_lob (x := x) (y := y) b3 hx0).2 (tl_lob (x := x) (y := y) b3 hx0).1
      · rw [e4]
        exact tl_i99 (tl_hib (x := x) (y := y) b4).2 (tl_hib (x := x) (y := y) b4).1
    · have k7 : tl_ms σ q j x y 7 i e = σ 7 i e := s1 _ _ _ (by omega) (by omega)
      have k8 : tl_ms σ q j x y 8 i e = σ 8 i e := s1 _ _ _ (by omega) (by omega)
      rw [ho _ _ _ (by omega) (by omega), ho _ _ _ (by omega) (by omega), k7, k8]
      exact (hp i hi).2 e he
end TGM
