/-! NUMBERS IN BOUNDS -/
def I_ (x : Int32) (lo hi : Int) : Prop := lo ≤ x.toInt ∧ x.toInt ≤ hi
theorem tI_bm {n : Int} (h1 : -2147483648 ≤ n) (h2 : n < 2147483648) : n.bmod (2 ^ 32) = n := Int.bmod_eq_of_le (by show (-2147483648 : Int) ≤ n; exact h1) (by show n < (2147483648 : Int); exact h2)
theorem tI_add {x y : Int32} (h1 : -2147483648 ≤ x.toInt + y.toInt) (h2 : x.toInt + y.toInt < 2147483648) : (x + y).toInt = x.toInt + y.toInt := by rw [Int32.toInt_add, tI_bm h1 h2]
theorem tI_sub {x y : Int32} (h1 : -2147483648 ≤ x.toInt - y.toInt) (h2 : x.toInt - y.toInt < 2147483648) : (x - y).toInt = x.toInt - y.toInt := by rw [Int32.toInt_sub, tI_bm h1 h2]
theorem tI_mul {x y : Int32} (h1 : -2147483648 ≤ x.toInt * y.toInt) (h2 : x.toInt * y.toInt < 2147483648) : (x * y).toInt = x.toInt * y.toInt := by rw [Int32.toInt_mul, tI_bm h1 h2]
theorem tI_div {x y : Int32} (hx : 0 ≤ x.toInt) (hy : 0 < y.toInt) : (x / y).toInt = x.toInt / y.toInt := by
  rw [Int32.toInt_div_of_ne_right x y (fun e => by rw [e, show (-1 : Int32).toInt = -1 from by decide] at hy; omega), Int.tdiv_eq_ediv_of_nonneg hx]
theorem tI_lt {x y : Int32} : x < y ↔ x.toInt < y.toInt := Int32.lt_iff_toInt_lt
theorem tI_le {x y : Int32} : x ≤ y ↔ x.toInt ≤ y.toInt := Int32.le_iff_toInt_le
theorem tI_eq {x y : Int32} (h : x.toInt = y.toInt) : x = y := Int32.toInt_inj.mp h
theorem tI_0 : (0 : Int32).toInt = 0 := rfl
theorem tI_1 : (1 : Int32).toInt = 1 := rfl
theorem tI_2 : (2 : Int32).toInt = 2 := rfl
theorem tI_3 : (3 : Int32).toInt = 3 := rfl
theorem tI_4 : (4 : Int32).toInt = 4 := rfl
theorem tI_5 : (5 : Int32).toInt = 5 := rfl
theorem tI_6 : (6 : Int32).toInt = 6 := rfl
theorem tI_7 : (7 : Int32).toInt = 7 := rfl
theorem tI_10 : (10 : Int32).toInt = 10 := rfl
theorem tI_25 : (25 : Int32).toInt = 25 := rfl
theorem tI_50 : (50 : Int32).toInt = 50 := rfl
theorem tI_99 : (99 : Int32).toInt = 99 := rfl
theorem tI_100 : (100 : Int32).toInt = 100 := rfl
theorem tI_999 : (999 : Int32).toInt = 999 := rfl
theorem tI_1000 : (1000 : Int32).toInt = 1000 := rfl
theorem I_add {x y : Int32} {a b c e : Int} (h : I_ x a b) (k : I_ y c e) (h1 : -2147483648 ≤ a + c) (h2 : b + e < 2147483648) : I_ (x + y) (a + c) (b + e) := by
  have h3 := h.1; have h4 := h.2; have h5 := k.1; have h6 := k.2
  unfold I_
  rw [tI_add (by omega) (by omega)]
  omega
theorem I_sub {x y : Int32} {a b c e : Int} (h : I_ x a b) (k : I_ y c e) (h1 : -2147483648 ≤ a - e) (h2 : b - c < 2147483648) : I_ (x - y) (a - e) (b - c) := by
  have h3 := h.1; have h4 := h.2; have h5 := k.1; have h6 := k.2
  unfold I_
  rw [tI_sub (by omega) (by omega)]
  omega
theorem I_mul {x y : Int32} {b e : Int} (h : I_ x 0 b) (k : I_ y 0 e) (h2 : b * e < 2147483648) : I_ (x * y) 0 (b * e) := by
  have h3 := h.1; have h4 := h.2; have h5 := k.1; have h6 := k.2
  have h7 : 0 ≤ x.toInt * y.toInt := Int.mul_nonneg h3 h5
  have h8 : x.toInt * y.toInt ≤ b * e := Int.mul_le_mul h4 h6 h5 (by omega)
  unfold I_
  rw [tI_mul (by omega) (by omega)]
  exact ⟨h7, h8⟩
theorem I_div {x y : Int32} {b : Int} (h : I_ x 0 b) (hy : 0 < y.toInt) : I_ (x / y) 0 (b / y.toInt) := by
  unfold I_
  rw [tI_div h.1 hy]
  exact ⟨Int.ediv_nonneg h.1 (by omega), Int.ediv_le_ediv hy h.2⟩
theorem I_mono {x : Int32} {a b c e : Int} (h : I_ x a b) (h1 : c ≤ a) (h2 : b ≤ e) : I_ x c e := ⟨Int.le_trans h1 h.1, Int.le_trans h.2 h2⟩
theorem I_nI {n : Nat} {b : Int} (h : (n : Int) ≤ b) (hb : n < 2 ^ 31) : I_ (nI n) 0 b := by
  unfold I_
  rw [nI_toInt hb]
  omega
theorem I_c {x : Int32} {n : Int} (h : x.toInt = n) : I_ x n n := by
  unfold I_
  omega
theorem I_of {x : Int32} {b : Nat} (h : I_ x 0 b) (hb : b < 2 ^ 31) : ∃ k, k ≤ b ∧ x = nI k := by
  have h1 := h.1
  have h2 := h.2
  refine ⟨x.toInt.toNat, by omega, tI_eq ?_⟩
  rw [nI_toInt (by omega)]
  omega
/-- held to 0 .. 999, twice told -/
theorem sp_held_mp (x : Int32) : sp_held x = mp_held x 999 := by
  unfold sp_held mp_held mp_max mp_min
  by_cases a : 0 ≤ x
  · rw [if_pos a]
    by_cases b : x ≤ 999
    · rw [if_pos b]
      by_cases c : x < 999
      · rw [if_pos c]
        by_cases e : 0 < x
        · rw [if_pos e]
        · rw [if_neg e]
          exact tI_eq (by rw [tI_lt, tI_0] at e; rw [tI_le, tI_0] at a; rw [tI_0]; omega)
      · have e : x = 999 := tI_eq (by rw [tI_lt] at c; rw [tI_le] at b; omega)
        subst e
        decide
    · rw [if_neg b, if_neg (show ¬ x < 999 by rw [tI_lt, tI_999]; rw [tI_le, tI_999] at b; omega)]
      rfl
  · rw [if_neg a, if_pos (show x < 999 by rw [tI_lt, tI_999]; rw [tI_le, tI_0] at a; omega), if_neg (show ¬ (0 : Int32) < x by rw [tI_lt, tI_0]; rw [tI_le, tI_0] at a; omega)]
theorem sp_held_I (x : Int32) : I_ (sp_held x) 0 999 := by
  unfold sp_held
  split
  · split
    · rename_i a b
      rw [tI_le] at a b
      exact ⟨a, b⟩
    · exact ⟨by decide, by decide⟩
  · exact ⟨by decide, by decide⟩
theorem sp_near_40 : ∀ k : Nat, k < 81 → sp_nearer (nI k - 40) = (nI k - 40) - mp_sig (nI k - 40) ∧ (-40 ≤ (sp_nearer (nI k - 40)).toInt ∧ (sp_nearer (nI k - 40)).toInt ≤ 40) := by decide +kernel
theorem I_of40 {x : Int32} (h : I_ x (-40) 40) : ∃ k, k < 81 ∧ x = nI k - 40 := by
  have h1 := h.1
  have h2 := h.2
  refine ⟨(x.toInt + 40).toNat, by omega, tI_eq ?_⟩
  have e : (nI (x.toInt + 40).toNat).toInt = x.toInt + 40 := by
    rw [nI_toInt (by omega)]
    omega
  have e40 : (40 : Int32).toInt = 40 := rfl
  rw [tI_sub (by rw [e, e40]; omega) (by rw [e, e40]; omega), e, e40]
  omega
theorem sp_near {x : Int32} (h : I_ x (-40) 40) : sp_nearer x = x - mp_sig x ∧ I_ (sp_nearer x) (-40) 40 := by
  obtain ⟨k, hk, rfl⟩ := I_of40 h
  exact sp_near_40 k hk
