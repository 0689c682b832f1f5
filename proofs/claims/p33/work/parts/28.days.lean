/-! DAYS: what stays, months, melting -/
theorem px_split (σ : hs_St) (P F : Nat) (x z : Int32) (n : Nat) : (sp_pass σ P F x z (n + 1)).2 = (sp_pass (sp_pass σ P F x z n).2 P F x z 1).2 := rfl
theorem px_one (σ : hs_St) (P F : Nat) (x z : Int32) : (sp_pass σ P F x z 1).2 = (sp_day σ P F x z).2 := rfl
theorem pf_div {a : Nat} (h : a < 2 ^ 31) (m : Nat) (hm : 0 < m) (hm2 : m < 2 ^ 31) : nI a / nI m = nI (a / m) := by
  refine Int32.toInt_inj.mp ?_
  have h2 : a / m ≤ a := Nat.div_le_self a m
  rw [Int32.toInt_div, nI_toInt h, nI_toInt hm2, nI_toInt (by omega)]
  rw [Int.tdiv_eq_ediv_of_nonneg (by omega)]
  have e : (a : Int) / (m : Int) = ((a / m : Nat) : Int) := by first | rfl | exact (Int.natCast_ediv a m).symm | exact (Int.ofNat_ediv a m) | simp
  rw [e]
  generalize a / m = r at h2 ⊢
  exact Int.bmod_eq_of_le (by omega) (by omega)
theorem pi_sub0 {x y : Int32} : x - y = 0 ↔ x = y := by
  constructor
  · intro h
    have h2 := congrArg (fun z => z + y) h
    simp only [Int32.sub_add_cancel, Int32.zero_add] at h2
    exact h2
  · intro h
    rw [h]
    exact Int32.sub_self y
section PX
variable {σ : hs_St} {P F : Nat}
theorem q9_mon (q a b : Nat) : ∀ n, sp_mon σ q n 9 a b = σ 9 a b
  | 0 => rfl
  | n + 1 => by
    simp only [sp_mon, pc_sg]
    rw [if_neg (by omega), if_neg (by omega)]
    exact q9_mon q a b n
theorem q9_monAll (a b : Nat) : ∀ n, sp_monAll σ n 9 a b = σ 9 a b
  | 0 => rfl
  | n + 1 => (q9_mon n a b 3).trans (q9_monAll a b n)
theorem q9_dawn (Q a b : Nat) : sp_dawn σ Q 9 a b = σ 9 a b := by
  unfold sp_dawn
  split
  · rw [q9_monAll]
    rw [pc_sg, if_neg (by omega)]
  · rw [pc_sg, if_neg (by omega)]
theorem q9_paid (x : Int32) (a b : Nat) : sp_paid σ x 9 a b = σ 9 a b := by
  unfold sp_paid
  rw [pc_sg, if_neg (by omega), pc_sg, if_neg (by omega)]
/-- work leaves places -/
theorem q7_put (f g : Nat) : sp_put σ f 9 g 7 = σ 9 g 7 := by
  unfold sp_put
  rw [pc_sg, if_neg (by omega), pc_sg, if_neg (by omega)]
theorem q7_step (f g : Nat) : sp_step σ f 9 g 7 = σ 9 g 7 := by
  unfold sp_step
  split
  · rw [pc_sg, if_neg (by omega)]
    exact q7_put f g
  · exact q7_put f g
theorem q7_climb (f g : Nat) : ∀ (k : Nat) (σ : hs_St), sp_climb f k σ 9 g 7 = σ 9 g 7
  | 0, _ => rfl
  | k + 1, σ => by
    unfold sp_climb
    split
    · rfl
    · split
      · rfl
      · exact (q7_climb f g k _).trans (q7_step f g)
theorem q7_wd (f g : Nat) : (sp_wd σ f).2 9 g 7 = σ 9 g 7 := by
  unfold sp_wd
  split
  · rfl
  · split
    · rfl
    · have h : sp_climb f (6 - (σ 9 f 2).toNatClampNeg) (hs_sg σ 9 f 3 (σ 9 f 3 + σ 9 f 4)) 9 g 7 = σ 9 g 7 := by
        rw [q7_climb, pc_sg, if_neg (by omega)]
      unfold sp_fin
      split
      · show hs_sg (hs_sg _ 9 f 3 0) 9 f 4 0 9 g 7 = _
        rw [pc_sg, if_neg (by omega), pc_sg, if_neg (by omega)]
        exact h
      · exact h
theorem q7_workAll (g : Nat) : ∀ n, (sp_workAll σ n).2 9 g 7 = σ 9 g 7
  | 0 => rfl
  | n + 1 => (q7_wd n g).trans (q7_workAll g n)
theorem q9_wear {f g : Nat} (h : g ≠ f) (x y z : Int32) (b : Nat) : (sp_wear σ f x y z).2 9 g b = σ 9 g b := by
  have hw : sp_worn σ f x y z 9 g b = σ 9 g b := by
    unfold sp_worn
    try simp only []
    rw [pc_sg, if_neg (by omega), pc_sg, if_neg (by omega), pc_sg, if_neg (by omega)]
  unfold sp_wear
  split
  · show sp_melt _ f 9 g b = _
    unfold sp_melt
    rw [pc_sg, if_neg (by omega), pc_sg, if_neg (by omega)]
    exact hw
  · exact hw
theorem pf_shown {g : Nat} (h : 5 ≤ σ 9 g 7) : sp_isShown σ g = 0 := by
  unfold sp_isShown
  by_cases h0 : σ 9 g 7 < 0
  · rw [if_pos h0]
  · rw [if_neg h0, if_pos h]
theorem q7_wearAll {g : Nat} (h : 5 ≤ σ 9 g 7) (x y z : Int32) (b : Nat) : ∀ n, (sp_wearAll σ x y z n).2 9 g b = σ 9 g b
  | 0 => rfl
  | n + 1 => by
    have ih := q7_wearAll h x y z b n
    have i7 := q7_wearAll h x y z 7 n
    unfold sp_wearAll
    split
    · exact ih
    · rename_i hs
      by_cases e : g = n
      · exfalso
        apply hs
        rw [← e]
        exact pf_shown (by rw [e] at i7 ⊢; rw [i7]; rw [← e]; exact h)
      · exact (q9_wear e _ _ _ b).trans ih
theorem q9_tour {f g : Nat} (h : g ≠ f) (b : Nat) : sp_tour σ f 9 g b = σ 9 g b := by
  unfold sp_tour
  try simp only []
  split
  · rw [pc_sg, if_neg (by omega), pc_sg, if_neg (by omega)]
  · rw [pc_sg, if_neg (by omega), pc_sg, if_neg (by omega), pc_sg, if_neg (by omega), pc_sg, if_neg (by omega)]
theorem q7_tour (f : Nat) : sp_tour σ f 9 f 7 = σ 9 f 7 ∨ sp_tour σ f 9 f 7 = 5 := by
  unfold sp_tour
  try simp only []
  split
  · left
    rw [pc_sg, if_neg (by omega), pc_sg, if_neg (by omega)]
  · right
    rw [pc_sg, if_pos ⟨rfl, rfl, rfl⟩]
theorem q7_tourAll (g : Nat) : ∀ n, sp_tourAll σ n 9 g 7 = σ 9 g 7 ∨ (σ 9 g 7 = 6 ∧ sp_tourAll σ n 9 g 7 = 5)
  | 0 => Or.inl rfl
  | n + 1 => by
    have ih := q7_tourAll g n
    unfold sp_tourAll
    split
    · rename_i h6
      rw [pc_sg, if_neg (by omega)]
      by_cases e : g = n
      · subst e
        have i6 : σ 9 g 7 = 6 := by
          rcases ih with h | h
          · rw [← h]; exact h6
          · exact h.1
        rcases q7_tour (σ := sp_tourAll σ g) g with h | h
        · left
          rw [h, h6, i6]
        · exact Or.inr ⟨i6, h⟩
      · rw [q9_tour e]
        exact ih
    · exact ih
theorem q7_day {g : Nat} (h : 5 ≤ σ 9 g 7) (x z : Int32) : (sp_day σ P F x z).2 9 g 7 = σ 9 g 7 ∨ (σ 9 g 7 = 6 ∧ (sp_day σ P F x z).2 9 g 7 = 5) := by
  have h1 : (sp_workAll (sp_dawn σ P) F).2 9 g 7 = σ 9 g 7 := (q7_workAll g F).trans (q9_dawn P g 7)
  have h2 : sp_paid (sp_workAll (sp_dawn σ P) F).2 x 9 g 7 = σ 9 g 7 := (q9_paid x g 7).trans h1
  have h3 : (sp_eve (sp_workAll (sp_dawn σ P) F).2 F x z).2 9 g 7 = σ 9 g 7 := (q7_wearAll (by rw [h2]; exact h) _ _ z 7 F).trans h2
  have h4 := q7_tourAll (σ := (sp_eve (sp_workAll (sp_dawn σ P) F).2 F x z).2) g F
  rw [h3] at h4
  exact h4
theorem q7_pass {g : Nat} (h : 5 ≤ σ 9 g 7) (h7 : σ 9 g 7 ≠ 7) (x z : Int32) : ∀ n, 5 ≤ (sp_pass σ P F x z n).2 9 g 7 ∧ (sp_pass σ P F x z n).2 9 g 7 ≠ 7
  | 0 => ⟨h, h7⟩
  | n + 1 => by
    obtain ⟨a, b⟩ := q7_pass h h7 x z n
    rcases q7_day (P := P) (F := F) a x z with e | ⟨e1, e2⟩
    · show 5 ≤ (sp_day (sp_pass σ P F x z n).2 P F x z).2 9 g 7 ∧ (sp_day (sp_pass σ P F x z n).2 P F x z).2 9 g 7 ≠ 7
      rw [e]
      exact ⟨a, b⟩
    · show 5 ≤ (sp_day (sp_pass σ P F x z n).2 P F x z).2 9 g 7 ∧ (sp_day (sp_pass σ P F x z n).2 P F x z).2 9 g 7 ≠ 7
      rw [e2]
      exact ⟨by decide, by decide⟩
theorem q7_gone {g : Nat} (h7 : σ 9 g 7 = 7) (x z : Int32) : ∀ n, (sp_pass σ P F x z n).2 9 g 7 = 7
  | 0 => h7
  | n + 1 => by
    have a := q7_gone h7 x z n
    rcases q7_day (P := P) (F := F) (σ := (sp_pass σ P F x z n).2) (g := g) (by rw [a]; decide) x z with e | ⟨e1, e2⟩
    · exact e.trans a
    · rw [a] at e1
      exact absurd e1 (by decide)
/-- what meltsIn's days say -/
theorem td_says (f : Nat) (x z : Int32) : ∀ k n, ((sp_td σ P F f x z k n).1 = -1 ∧ ∀ d, n < d → d ≤ n + k → (sp_pass σ P F x z d).2 9 f 7 ≠ 7) ∨ ∃ d, n < d ∧ d ≤ n + k ∧ (sp_td σ P F f x z k n).1 = nI d ∧ (sp_pass σ P F x z d).2 9 f 7 = 7 ∧ ∀ d', n < d' → d' < d → (sp_pass σ P F x z d').2 9 f 7 ≠ 7
  | 0, n => Or.inl ⟨rfl, fun d h1 h2 => by omega⟩
  | k + 1, n => by
    unfold sp_td
    by_cases e : (sp_pass σ P F x z (n + 1)).2 9 f 7 = 7
    · rw [if_pos e]
      exact Or.inr ⟨n + 1, by omega, by omega, rfl, e, fun d' h1 h2 => by omega⟩
    · rw [if_neg e]
      rcases td_says f x z k (n + 1) with ⟨h1, h2⟩ | ⟨d, h1, h2, h3, h4, h5⟩
      · refine Or.inl ⟨h1, fun d hd hk => ?_⟩
        by_cases e2 : d = n + 1
        · rw [e2]; exact e
        · exact h2 d (by omega) (by omega)
      · refine Or.inr ⟨d, by omega, by omega, h3, h4, fun d' hd hk => ?_⟩
        by_cases e2 : d' = n + 1
        · rw [e2]; exact e
        · exact h5 d' (by omega) hk
end PX
/-! MONTHS: a fame and its trend -/
section PM
variable {σ : hs_St} {P F : Nat}
theorem qm_mon1 (q n r j : Nat) : sp_mon σ q (n + 1) 5 r j = (if r = q ∧ j = n then sp_held (sp_mon σ q n 5 q n + sp_mon σ q n 6 q n) else sp_mon σ q n 5 r j) ∧ sp_mon σ q (n + 1) 6 r j = (if r = q ∧ j = n then sp_nearer (sp_mon σ q n 6 q n) else sp_mon σ q n 6 r j) := by
  constructor
  · show hs_sg (hs_sg (sp_mon σ q n) 5 q n (sp_held (sp_mon σ q n 5 q n + sp_mon σ q n 6 q n))) 6 q n (sp_nearer (sp_mon σ q n 6 q n)) 5 r j = _
    rw [pc_sg, if_neg (by omega), pc_sg]
    by_cases e : r = q ∧ j = n
    · rw [if_pos ⟨rfl, e.1, e.2⟩, if_pos e]
    · rw [if_neg (fun z => e z.2), if_neg e]
  · show hs_sg (hs_sg (sp_mon σ q n) 5 q n (sp_held (sp_mon σ q n 5 q n + sp_mon σ q n 6 q n))) 6 q n (sp_nearer (sp_mon σ q n 6 q n)) 6 r j = _
    rw [pc_sg]
    by_cases e : r = q ∧ j = n
    · rw [if_pos ⟨rfl, e.1, e.2⟩, if_pos e]
    · rw [if_neg (fun z => e z.2), if_neg e, pc_sg, if_neg (by omega)]
theorem qm_mon (q : Nat) : ∀ n r j, (sp_mon σ q n 5 r j = if r = q ∧ j < n then sp_held (σ 5 q j + σ 6 q j) else σ 5 r j) ∧ (sp_mon σ q n 6 r j = if r = q ∧ j < n then sp_nearer (σ 6 q j) else σ 6 r j)
  | 0, r, j => by rw [if_neg (by omega), if_neg (by omega)]; exact ⟨rfl, rfl⟩
  | n + 1, r, j => by
    obtain ⟨a, b⟩ := qm_mon q n r j
    obtain ⟨a2, b2⟩ := qm_mon q n q n
    rw [if_neg (by omega)] at a2 b2
    obtain ⟨e5, e6⟩ := qm_mon1 (σ := σ) q n r j
    rw [e5, e6, a2, b2, a, b]
    by_cases e : r = q ∧ j = n
    · obtain ⟨rfl, rfl⟩ := e
      rw [if_pos ⟨rfl, rfl⟩, if_pos ⟨rfl, Nat.lt_succ_self _⟩, if_pos ⟨rfl, rfl⟩, if_pos ⟨rfl, Nat.lt_succ_self _⟩]
      exact ⟨rfl, rfl⟩
    · rw [if_neg e, if_neg e]
      by_cases h : r = q ∧ j < n
      · have h' : r = q ∧ j < n + 1 := ⟨h.1, by omega⟩
        rw [if_pos h, if_pos h, if_pos h', if_pos h']
        exact ⟨rfl, rfl⟩
      · have h' : ¬ (r = q ∧ j < n + 1) := by omega
        rw [if_neg h, if_neg h, if_neg h', if_neg h']
        exact ⟨rfl, rfl⟩
theorem qm_monAll : ∀ n r j, (sp_monAll σ n 5 r j = if r < n ∧ j < 3 then sp_held (σ 5 r j + σ 6 r j) else σ 5 r j) ∧ (sp_monAll σ n 6 r j = if r < n ∧ j < 3 then sp_nearer (σ 6 r j) else σ 6 r j)
  | 0, r, j => by rw [if_neg (by omega), if_neg (by omega)]; exact ⟨rfl, rfl⟩
  | n + 1, r, j => by
    obtain ⟨a, b⟩ := qm_mon (σ := sp_monAll σ n) n 3 r j
    obtain ⟨a2, b2⟩ := qm_monAll n n j
    obtain ⟨a3, b3⟩ := qm_monAll n r j
    rw [if_neg (by omega)] at a2 b2
    show sp_mon (sp_monAll σ n) n 3 5 r j = _ ∧ sp_mon (sp_monAll σ n) n 3 6 r j = _
    rw [a, b]
    by_cases e : r = n ∧ j < 3
    · obtain ⟨rfl, hj⟩ := e
      rw [if_pos ⟨rfl, hj⟩, if_pos ⟨Nat.lt_succ_self _, hj⟩, if_pos ⟨rfl, hj⟩, if_pos ⟨Nat.lt_succ_self _, hj⟩, a2, b2]
      exact ⟨rfl, rfl⟩
    · rw [if_neg e, if_neg e, a3, b3]
      by_cases h : r < n ∧ j < 3
      · have h' : r < n + 1 ∧ j < 3 := ⟨by omega, h.2⟩
        rw [if_pos h, if_pos h, if_pos h', if_pos h']
        exact ⟨rfl, rfl⟩
      · have h' : ¬ (r < n + 1 ∧ j < 3) := by omega
        rw [if_neg h, if_neg h, if_neg h', if_neg h']
        exact ⟨rfl, rfl⟩
/-- kinds that work, wear and tours leave alone -/
theorem qk_step (k : Nat) (hk : k ≠ 9) (f a b : Nat) : sp_step σ f k a b = σ k a b := by
  have h : sp_put σ f k a b = σ k a b := by
    unfold sp_put
    rw [pc_sg, if_neg (by omega), pc_sg, if_neg (by omega)]
  unfold sp_step
  split
  · rw [pc_sg, if_neg (by omega)]
    exact h
  · exact h
theorem qk_climb (k : Nat) (hk : k ≠ 9) (f a b : Nat) : ∀ (n : Nat) (σ : hs_St), sp_climb f n σ k a b = σ k a b
  | 0, _ => rfl
  | n + 1, σ => by
    unfold sp_climb
    split
    · rfl
    · split
      · rfl
      · exact (qk_climb k hk f a b n _).trans (qk_step k hk f a b)
theorem qk_wd (k : Nat) (hk : k ≠ 9) (f a b : Nat) : (sp_wd σ f).2 k a b = σ k a b := by
  unfold sp_wd
  split
  · rfl
  · split
    · rfl
    · have h : sp_climb f (6 - (σ 9 f 2).toNatClampNeg) (hs_sg σ 9 f 3 (σ 9 f 3 + σ 9 f 4)) k a b = σ k a b := by
        rw [qk_climb k hk, pc_sg, if_neg (by omega)]
      unfold sp_fin
      split
      · show hs_sg (hs_sg _ 9 f 3 0) 9 f 4 0 k a b = _
        rw [pc_sg, if_neg (by omega), pc_sg, if_neg (by omega)]
        exact h
      · exact h
theorem qk_workAll (k : Nat) (hk : k ≠ 9) (a b : Nat) : ∀ n, (sp_workAll σ n).2 k a b = σ k a b
  | 0 => rfl
  | n + 1 => (qk_wd k hk n a b).trans (qk_workAll k hk a b n)
theorem qk_wear (k : Nat) (hk : k ≠ 9) (hk4 : k ≠ 4) (f a b : Nat) (x y z : Int32) : (sp_wear σ f x y z).2 k a b = σ k a b := by
  have hw : sp_worn σ f x y z k a b = σ k a b := by
    unfold sp_worn
    try simp only []
    rw [pc_sg, if_neg (by omega), pc_sg, if_neg (by omega), pc_sg, if_neg (by omega)]
  unfold sp_wear
  split
  · show sp_melt _ f k a b = _
    unfold sp_melt
    rw [pc_sg, if_neg (by omega), pc_sg, if_neg (by omega)]
    exact hw
  · exact hw
theorem qk_wearAll (k : Nat) (hk : k ≠ 9) (hk4 : k ≠ 4) (a b : Nat) (x y z : Int32) : ∀ n, (sp_wearAll σ x y z n).2 k a b = σ k a b
  | 0 => rfl
  | n + 1 => by
    unfold sp_wearAll
    split
    · exact qk_wearAll k hk hk4 a b x y z n
    · exact (qk_wear k hk hk4 n a b _ _ _).trans (qk_wearAll k hk hk4 a b x y z n)
theorem qk_tour (k : Nat) (hk : k ≠ 9) (f a b : Nat) : sp_tour σ f k a b = σ k a b := by
  unfold sp_tour
  try simp only []
  split
  · rw [pc_sg, if_neg (by omega), pc_sg, if_neg (by omega)]
  · rw [pc_sg, if_neg (by omega), pc_sg, if_neg (by omega), pc_sg, if_neg (by omega), pc_sg, if_neg (by omega)]
theorem qk_tourAll (k : Nat) (hk : k ≠ 9) (a b : Nat) (h0 : ¬ (k = 0 ∧ a = 0 ∧ b = 7)) : ∀ n, sp_tourAll σ n k a b = σ k a b
  | 0 => rfl
  | n + 1 => by
    unfold sp_tourAll
    split
    · rw [pc_sg, if_neg h0, qk_tour k hk]
      exact qk_tourAll k hk a b h0 n
    · exact qk_tourAll k hk a b h0 n
/-- a day, outside figures and dues: the dawn's doing, but for money and who came -/
theorem qk_day (k : Nat) (hk : k ≠ 9) (hk4 : k ≠ 4) (a b : Nat) (h0 : ¬ (k = 0 ∧ a = 0 ∧ (b = 7 ∨ b = 10))) (x z : Int32) : (sp_day σ P F x z).2 k a b = sp_dawn σ P k a b := by
  show sp_tourAll (sp_eve (sp_workAll (sp_dawn σ P) F).2 F x z).2 F k a b = _
  rw [qk_tourAll k hk a b (by omega)]
  show (sp_wearAll (sp_paid (sp_workAll (sp_dawn σ P) F).2 x) _ _ z F).2 k a b = _
  rw [qk_wearAll k hk hk4]
  unfold sp_paid
  rw [pc_sg, if_neg (by omega), pc_sg, if_neg (by omega)]
  exact qk_workAll k hk a b F
theorem q0_monAll (a b : Nat) : ∀ n, sp_monAll σ n 0 a b = σ 0 a b
  | 0 => rfl
  | n + 1 => by
    have h : ∀ m, sp_mon (sp_monAll σ n) n m 0 a b = sp_monAll σ n 0 a b := by
      intro m
      induction m with
      | zero => rfl
      | succ m ih =>
        simp only [sp_mon, pc_sg]
        rw [if_neg (by omega), if_neg (by omega)]
        exact ih
    exact (h 3).trans (q0_monAll a b n)
theorem qd_dawn {d : Nat} (hd : σ 0 0 6 = nI d) (hd2 : d + 1 < 2 ^ 31) : sp_dawn σ P 0 0 6 = nI (d + 1) ∧ ∀ r j, r < P → j < 3 → sp_dawn σ P 5 r j = (sp_ft (σ 5 r j) (σ 6 r j) ((d + 1) / 30 - d / 30)).1 ∧ sp_dawn σ P 6 r j = (sp_ft (σ 5 r j) (σ 6 r j) ((d + 1) / 30 - d / 30)).2 := by
  have e1 : σ 0 0 6 + 1 = nI (d + 1) := by rw [hd, nI_1]
  have e2 : (nI (d + 1) : Int32) / 30 = nI ((d + 1) / 30) := pf_div hd2 30 (by decide) (by decide)
  have hle : (d + 1) / 30 * 30 ≤ d + 1 := Nat.div_mul_le_self _ _
  have e3 : nI ((d + 1) / 30) * 30 = nI ((d + 1) / 30 * 30) := by
    show Int32.ofNat _ * Int32.ofNat 30 = Int32.ofNat _
    exact (Int32.ofNat_mul _ _).symm
  have e4 : (σ 0 0 6 + 1 - (σ 0 0 6 + 1) / 30 * 30 = 0) ↔ (d + 1) / 30 * 30 = d + 1 := by
    rw [e1, e2, e3, pi_sub0, nI_eq hd2 (by omega)]
    omega
  unfold sp_dawn
  by_cases h : (d + 1) / 30 * 30 = d + 1
  · rw [if_pos (e4.mpr h)]
    refine ⟨by rw [q0_monAll, pc_sg, if_pos ⟨rfl, rfl, rfl⟩, e1], fun r j hr hj => ?_⟩
    obtain ⟨a, b⟩ := qm_monAll (σ := hs_sg σ 0 0 6 (σ 0 0 6 + 1)) P r j
    rw [a, b, if_pos ⟨hr, hj⟩, if_pos ⟨hr, hj⟩, show (d + 1) / 30 - d / 30 = 1 by omega]
    simp only [pc_sg]
    rw [if_neg (by omega), if_neg (by omega)]
    exact ⟨rfl, rfl⟩
  · rw [if_neg (fun z => h (e4.mp z))]
    refine ⟨by rw [pc_sg, if_pos ⟨rfl, rfl, rfl⟩, e1], fun r j hr hj => ?_⟩
    rw [show (d + 1) / 30 - d / 30 = 0 by omega]
    simp only [pc_sg]
    rw [if_neg (by omega), if_neg (by omega)]
    exact ⟨rfl, rfl⟩
theorem sp_ft_add (x y : Int32) (m : Nat) : ∀ n, sp_ft (sp_ft x y m).1 (sp_ft x y m).2 n = sp_ft x y (m + n)
  | 0 => rfl
  | n + 1 => by
    show (sp_held ((sp_ft _ _ n).1 + (sp_ft _ _ n).2), sp_nearer (sp_ft _ _ n).2) = (sp_held ((sp_ft x y (m + n)).1 + (sp_ft x y (m + n)).2), sp_nearer (sp_ft x y (m + n)).2)
    rw [sp_ft_add x y m n]
/-- fame comes as foreseen -/
theorem qd_pass {d : Nat} (hd : σ 0 0 6 = nI d) (x z : Int32) : ∀ n, d + n < 2 ^ 31 → (sp_pass σ P F x z n).2 0 0 6 = nI (d + n) ∧ ∀ r j, r < P → j < 3 → (sp_pass σ P F x z n).2 5 r j = (sp_ft (σ 5 r j) (σ 6 r j) ((d + n) / 30 - d / 30)).1 ∧ (sp_pass σ P F x z n).2 6 r j = (sp_ft (σ 5 r j) (σ 6 r j) ((d + n) / 30 - d / 30)).2
  | 0, _ => ⟨hd, fun r j _ _ => by rw [show (d + 0) / 30 - d / 30 = 0 by omega]; exact ⟨rfl, rfl⟩⟩
  | n + 1, hn => by
    obtain ⟨a, b⟩ := qd_pass hd x z n (by omega)
    obtain ⟨c, e⟩ := qd_dawn (P := P) a (by omega)
    refine ⟨?_, fun r j hr hj => ?_⟩
    · show (sp_day (sp_pass σ P F x z n).2 P F x z).2 0 0 6 = _
      rw [qk_day 0 (by omega) (by omega) 0 6 (by omega)]
      exact c
    · obtain ⟨b1, b2⟩ := b r j hr hj
      obtain ⟨e1, e2⟩ := e r j hr hj
      show (sp_day (sp_pass σ P F x z n).2 P F x z).2 5 r j = _ ∧ (sp_day (sp_pass σ P F x z n).2 P F x z).2 6 r j = _
      rw [qk_day 5 (by omega) (by omega) r j (by omega), qk_day 6 (by omega) (by omega) r j (by omega), e1, e2, b1, b2, sp_ft_add]
      rw [show (d + n) / 30 - d / 30 + ((d + n + 1) / 30 - (d + n) / 30) = (d + (n + 1)) / 30 - d / 30 by omega]
      exact ⟨rfl, rfl⟩
end PM
