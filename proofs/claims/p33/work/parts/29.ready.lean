/-! READY: the days of work -/
def rd_w : Nat → Nat := fun j => match j with
  | 0 => 4
  | 1 => 10
  | 2 => 3
  | 3 => 2
  | 4 => 12
  | _ => 5
def rd_S : Nat → Nat
  | 0 => 0
  | n + 1 => rd_S n + rd_w n
theorem rd_wk (j : Nat) : hs_wk j = nI (rd_w j) := by
  match j with
  | 0 => decide +kernel
  | 1 => decide +kernel
  | 2 => decide +kernel
  | 3 => decide +kernel
  | 4 => decide +kernel
  | j + 5 => show (5 : Int32) = nI 5; decide +kernel
theorem rd_max : ∀ j, j < 6 → rd_S j + rd_w j ≤ 36 := by decide
theorem rd_top : ∀ j, j ≤ 6 → rd_S j ≤ 36 := by decide
theorem rd_wle (j : Nat) : rd_w j ≤ 12 := by
  match j with
  | 0 => decide
  | 1 => decide
  | 2 => decide
  | 3 => decide
  | 4 => decide
  | j + 5 => show 5 ≤ 12; decide
theorem nI_sub {a b : Nat} (h : b ≤ a) : nI a - nI b = nI (a - b) := (Int32.ofNat_sub _ _ h).symm
def rd (σ : hs_St) (f j w : Nat) : Prop := σ 9 f 2 = nI j ∧ σ 9 f 3 = nI w
section RD
variable {σ : hs_St} {P F : Nat}
theorem qf_put {f b : Nat} (h2 : b ≠ 2) (h3 : b ≠ 3) : sp_put σ f 9 f b = σ 9 f b := by
  unfold sp_put
  rw [pc_sg, if_neg (by omega), pc_sg, if_neg (by omega)]
theorem qf_step {f b : Nat} (h2 : b ≠ 2) (h3 : b ≠ 3) (h5 : b ≠ 5) : sp_step σ f 9 f b = σ 9 f b := by
  unfold sp_step
  split
  · rw [pc_sg, if_neg (by omega)]
    exact qf_put h2 h3
  · exact qf_put h2 h3
theorem qf_climb {f b : Nat} (h2 : b ≠ 2) (h3 : b ≠ 3) (h5 : b ≠ 5) : ∀ (k : Nat) (σ : hs_St), sp_climb f k σ 9 f b = σ 9 f b
  | 0, _ => rfl
  | k + 1, σ => by
    unfold sp_climb
    split
    · rfl
    · split
      · rfl
      · exact (qf_climb h2 h3 h5 k _).trans (qf_step h2 h3 h5)
theorem rd_step {f j w : Nat} (h : rd σ f j w) (hw : rd_w j ≤ w) (hj : j < 6) : rd (sp_step σ f) f (j + 1) (w - rd_w j) := by
  obtain ⟨h1, h2⟩ := h
  have hp : sp_put σ f 9 f 3 = nI (w - rd_w j) := by
    unfold sp_put
    rw [pc_sg, if_neg (by omega), pc_sg, if_pos ⟨rfl, rfl, rfl⟩, h1, h2, nI_clamp (by omega), rd_wk, nI_sub hw]
  refine ⟨by rw [sp_step_at, h1, nI_1], ?_⟩
  unfold sp_step
  split
  · rw [pc_sg, if_neg (by omega)]
    exact hp
  · exact hp
theorem rd_climb (f : Nat) : ∀ (k : Nat) (σ : hs_St) (j w : Nat), j ≤ 6 → k = 6 - j → w < 100 → rd σ f j w → ∃ j' w', rd (sp_climb f k σ) f j' w' ∧ j' ≤ 6 ∧ rd_S j' + w' = rd_S j + w ∧ (j' = 6 ∨ w' < rd_w j')
  | 0, σ, j, w, hj, hk, _, h => ⟨j, w, h, hj, rfl, Or.inl (by omega)⟩
  | k + 1, σ, j, w, hj, hk, hw, h => by
    have hj6 : j < 6 := by omega
    obtain ⟨h1, h2⟩ := id h
    unfold sp_climb
    rw [if_neg (by rw [h1, sp_six]; exact nI_ge hj6 (by decide))]
    by_cases c : w < rd_w j
    · rw [if_pos (by rw [h1, h2, nI_clamp (by omega), rd_wk]; exact nI_lt c (by have := rd_wle j; omega))]
      exact ⟨j, w, h, hj, rfl, Or.inr c⟩
    · rw [if_neg (by rw [h1, h2, nI_clamp (by omega), rd_wk]; exact nI_nlt (by omega) (by omega))]
      obtain ⟨j', w', a, b, e, g⟩ := rd_climb f k (sp_step σ f) (j + 1) (w - rd_w j) (by omega) (by omega) (by omega) (rd_step h (by omega) hj6)
      refine ⟨j', w', a, b, ?_, g⟩
      rw [e]
      show rd_S j + rd_w j + (w - rd_w j) = rd_S j + w
      omega
/-- a day's work of a figure -/
theorem rd_wd {f j w h : Nat} (hr : rd σ f j w) (hj : j < 6) (hw : w < rd_w j) (h7 : σ 9 f 7 = 5) (h4 : σ 9 f 4 = nI h) (hh : h ≤ 9) : (rd_S j + w + h < 36 ∧ (sp_wd σ f).2 9 f 4 = nI h ∧ ∃ j' w', rd (sp_wd σ f).2 f j' w' ∧ j' < 6 ∧ w' < rd_w j' ∧ rd_S j' + w' = rd_S j + w + h) ∨ (36 ≤ rd_S j + w + h ∧ (sp_wd σ f).2 9 f 2 = nI 6 ∧ (sp_wd σ f).2 9 f 4 = 0) := by
  obtain ⟨h1, h2⟩ := id hr
  have hwl := rd_wle j
  have e0 : rd (hs_sg σ 9 f 3 (σ 9 f 3 + σ 9 f 4)) f j (w + h) := ⟨by rw [pc_sg, if_neg (by omega)]; exact h1, by rw [pc_sg, if_pos ⟨rfl, rfl, rfl⟩, h2, h4, nI_add]⟩
  have ek : 6 - (σ 9 f 2).toNatClampNeg = 6 - j := by rw [h1, nI_clamp (by omega)]
  obtain ⟨j', w', a, b, e, g⟩ := rd_climb f (6 - (σ 9 f 2).toNatClampNeg) _ j (w + h) (by omega) ek (by omega) e0
  have c4 : sp_climb f (6 - (σ 9 f 2).toNatClampNeg) (hs_sg σ 9 f 3 (σ 9 f 3 + σ 9 f 4)) 9 f 4 = nI h := by
    rw [qf_climb (by omega) (by omega) (by omega), pc_sg, if_neg (by omega)]
    exact h4
  unfold sp_wd
  rw [if_neg (by rw [h1, sp_six]; exact nI_ge hj (by decide)), if_neg (by rw [h7]; decide)]
  unfold sp_fin
  by_cases c : j' = 6
  · subst c
    right
    rw [if_pos (by rw [a.1, sp_six]; exact nI_le (Nat.le_refl _) (by decide))]
    have e6 : rd_S 6 = 36 := rfl
    refine ⟨by omega, ?_, ?_⟩
    · show hs_sg (hs_sg _ 9 f 3 0) 9 f 4 0 9 f 2 = nI 6
      rw [pc_sg, if_neg (by omega), pc_sg, if_neg (by omega)]
      exact a.1
    · show hs_sg (hs_sg _ 9 f 3 0) 9 f 4 0 9 f 4 = 0
      rw [pc_sg, if_pos ⟨rfl, rfl, rfl⟩]
  · left
    have c6 : j' < 6 := by omega
    have g2 : w' < rd_w j' := by
      rcases g with g | g
      · omega
      · exact g
    have gm := rd_max j' c6
    rw [if_neg (by rw [a.1, sp_six]; exact nI_ge c6 (by decide))]
    exact ⟨by omega, c4, j', w', a, c6, g2, by omega⟩
theorem q9_put {f g : Nat} (h : g ≠ f) (b : Nat) : sp_put σ f 9 g b = σ 9 g b := by
  unfold sp_put
  rw [pc_sg, if_neg (by omega), pc_sg, if_neg (by omega)]
theorem q9_step {f g : Nat} (h : g ≠ f) (b : Nat) : sp_step σ f 9 g b = σ 9 g b := by
  unfold sp_step
  split
  · rw [pc_sg, if_neg (by omega)]
    exact q9_put h b
  · exact q9_put h b
theorem q9_climb {f g : Nat} (h : g ≠ f) (b : Nat) : ∀ (k : Nat) (σ : hs_St), sp_climb f k σ 9 g b = σ 9 g b
  | 0, _ => rfl
  | k + 1, σ => by
    unfold sp_climb
    split
    · rfl
    · split
      · rfl
      · exact (q9_climb h b k _).trans (q9_step h b)
theorem q9_wd {f g : Nat} (h : g ≠ f) (b : Nat) : (sp_wd σ f).2 9 g b = σ 9 g b := by
  unfold sp_wd
  split
  · rfl
  · split
    · rfl
    · have hc : sp_climb f (6 - (σ 9 f 2).toNatClampNeg) (hs_sg σ 9 f 3 (σ 9 f 3 + σ 9 f 4)) 9 g b = σ 9 g b := by
        rw [q9_climb h, pc_sg, if_neg (by omega)]
      unfold sp_fin
      split
      · show hs_sg (hs_sg _ 9 f 3 0) 9 f 4 0 9 g b = _
        rw [pc_sg, if_neg (by omega), pc_sg, if_neg (by omega)]
        exact hc
      · exact hc
theorem q9_workLo (g b : Nat) : ∀ n, n ≤ g → (sp_workAll σ n).2 9 g b = σ 9 g b
  | 0, _ => rfl
  | n + 1, h => (q9_wd (by omega) b).trans (q9_workLo g b n (by omega))
theorem q9_workHi (g b : Nat) : ∀ n, g < n → (sp_workAll σ n).2 9 g b = (sp_wd (sp_workAll σ g).2 g).2 9 g b
  | 0, h => absurd h (Nat.not_lt_zero _)
  | n + 1, h => by
    by_cases e : g = n
    · subst e
      rfl
    · exact (q9_wd e b).trans (q9_workHi g b n (by omega))
theorem q9_tour5 {g : Nat} (h : σ 9 g 7 = 5) (b : Nat) : ∀ n, sp_tourAll σ n 9 g b = σ 9 g b
  | 0 => rfl
  | n + 1 => by
    have i7 := q9_tour5 h 7 n
    unfold sp_tourAll
    split
    · rename_i h6
      have e : g ≠ n := by
        intro e
        subst e
        rw [i7, h] at h6
        exact absurd h6 (by decide)
      rw [pc_sg, if_neg (by omega), q9_tour e]
      exact q9_tour5 h b n
    · exact q9_tour5 h b n
/-- a day of a figure that is in store -/
theorem qx_day {g : Nat} (hg : g < F) (h7 : σ 9 g 7 = 5) (x z : Int32) (b : Nat) : (sp_day σ P F x z).2 9 g b = (sp_wd (sp_workAll (sp_dawn σ P) g).2 g).2 9 g b := by
  have p7 : (sp_workAll (sp_dawn σ P) F).2 9 g 7 = 5 := ((q7_workAll g F).trans (q9_dawn P g 7)).trans h7
  have p8 : sp_paid (sp_workAll (sp_dawn σ P) F).2 x 9 g 7 = 5 := (q9_paid x g 7).trans p7
  have e1 : ∀ b, (sp_eve (sp_workAll (sp_dawn σ P) F).2 F x z).2 9 g b = (sp_workAll (sp_dawn σ P) F).2 9 g b := fun b => (q7_wearAll (by rw [p8]; decide) _ _ z b F).trans (q9_paid x g b)
  show sp_tourAll (sp_eve (sp_workAll (sp_dawn σ P) F).2 F x z).2 F 9 g b = _
  rw [q9_tour5 (by rw [e1, p7]) b F, e1, q9_workHi g b F hg]
theorem rd_day {g j w h : Nat} (hg : g < F) (hr : rd σ g j w) (hj : j < 6) (hw : w < rd_w j) (h7 : σ 9 g 7 = 5) (h4 : σ 9 g 4 = nI h) (hh : h ≤ 9) (x z : Int32) : (sp_day σ P F x z).2 9 g 7 = 5 ∧ ((rd_S j + w + h < 36 ∧ (sp_day σ P F x z).2 9 g 4 = nI h ∧ ∃ j' w', rd (sp_day σ P F x z).2 g j' w' ∧ j' < 6 ∧ w' < rd_w j' ∧ rd_S j' + w' = rd_S j + w + h) ∨ (36 ≤ rd_S j + w + h ∧ (sp_day σ P F x z).2 9 g 2 = nI 6 ∧ (sp_day σ P F x z).2 9 g 4 = 0)) := by
  have e : ∀ b, (sp_workAll (sp_dawn σ P) g).2 9 g b = σ 9 g b := fun b => (q9_workLo g b g (Nat.le_refl _)).trans (q9_dawn P g b)
  have hd := rd_wd (σ := (sp_workAll (sp_dawn σ P) g).2) (f := g) (j := j) (w := w) (h := h) ⟨(e 2).trans hr.1, (e 3).trans hr.2⟩ hj hw ((e 7).trans h7) ((e 4).trans h4) hh
  have q := qx_day (P := P) hg h7 x z
  refine ⟨by rw [q, q7_wd, e]; exact h7, ?_⟩
  rcases hd with ⟨a, b, j', w', c, d1, d2, d3⟩ | ⟨a, b, c⟩
  · exact Or.inl ⟨a, by rw [q]; exact b, j', w', ⟨by rw [q]; exact c.1, by rw [q]; exact c.2⟩, d1, d2, d3⟩
  · exact Or.inr ⟨a, by rw [q]; exact b, by rw [q]; exact c⟩
/-- what is done stays done -/
theorem q2_wd {f g : Nat} (h : σ 9 g 2 = nI 6) (b : Nat) : (sp_wd σ f).2 9 g b = σ 9 g b := by
  by_cases e : g = f
  · subst e
    unfold sp_wd
    rw [if_pos (by rw [h, sp_six]; exact nI_le (Nat.le_refl _) (by decide))]
  · exact q9_wd e b
theorem q2_workAll {g : Nat} (h : σ 9 g 2 = nI 6) (b : Nat) : ∀ n, (sp_workAll σ n).2 9 g b = σ 9 g b
  | 0 => rfl
  | n + 1 => (q2_wd ((q2_workAll h 2 n).trans h) b).trans (q2_workAll h b n)
theorem q2_wear (f g b : Nat) (hb : b < 6) (hb4 : b ≠ 4) (x y z : Int32) : (sp_wear σ f x y z).2 9 g b = σ 9 g b := by
  have hw : sp_worn σ f x y z 9 g b = σ 9 g b := by
    unfold sp_worn
    try simp only []
    rw [pc_sg, if_neg (by omega), pc_sg, if_neg (by omega), pc_sg, if_neg (by omega)]
  unfold sp_wear
  split
  · show sp_melt _ f 9 g b = _
    unfold sp_melt
    rw [pc_sg, if_neg (by omega), pc_sg, if_neg (by omega)]
    exact hw
  · exact hw
theorem q2_wearAll (g b : Nat) (hb : b < 6) (hb4 : b ≠ 4) (x y z : Int32) : ∀ n, (sp_wearAll σ x y z n).2 9 g b = σ 9 g b
  | 0 => rfl
  | n + 1 => by
    unfold sp_wearAll
    split
    · exact q2_wearAll g b hb hb4 x y z n
    · exact (q2_wear n g b hb hb4 _ _ _).trans (q2_wearAll g b hb hb4 x y z n)
theorem q2_tour (f g b : Nat) (hb : b < 6) : sp_tour σ f 9 g b = σ 9 g b := by
  unfold sp_tour
  try simp only []
  split
  · rw [pc_sg, if_neg (by omega), pc_sg, if_neg (by omega)]
  · rw [pc_sg, if_neg (by omega), pc_sg, if_neg (by omega), pc_sg, if_neg (by omega), pc_sg, if_neg (by omega)]
theorem q2_tourAll (g b : Nat) (hb : b < 6) : ∀ n, sp_tourAll σ n 9 g b = σ 9 g b
  | 0 => rfl
  | n + 1 => by
    unfold sp_tourAll
    split
    · rw [pc_sg, if_neg (by omega), q2_tour n g b hb]
      exact q2_tourAll g b hb n
    · exact q2_tourAll g b hb n
theorem q2_day {g : Nat} (h : σ 9 g 2 = nI 6) (x z : Int32) : (sp_day σ P F x z).2 9 g 2 = nI 6 := by
  have h1 : (sp_workAll (sp_dawn σ P) F).2 9 g 2 = nI 6 := by
    rw [q2_workAll ((q9_dawn P g 2).trans h) 2 F, q9_dawn]
    exact h
  have h2 : (sp_eve (sp_workAll (sp_dawn σ P) F).2 F x z).2 9 g 2 = nI 6 := by
    show (sp_wearAll (sp_paid (sp_workAll (sp_dawn σ P) F).2 x) _ _ z F).2 9 g 2 = nI 6
    rw [q2_wearAll g 2 (by omega) (by omega), q9_paid]
    exact h1
  exact (q2_tourAll g 2 (by omega) F).trans h2
theorem q2_pass {g : Nat} (h : σ 9 g 2 = nI 6) (x z : Int32) : ∀ n, (sp_pass σ P F x z n).2 9 g 2 = nI 6
  | 0 => h
  | n + 1 => q2_day (q2_pass h x z n) x z
/-- hands of one that is done are none -/
theorem q4_wear {f g : Nat} (h : σ 9 g 4 = 0) (x y z : Int32) : (sp_wear σ f x y z).2 9 g 4 = 0 := by
  have hw : sp_worn σ f x y z 9 g 4 = 0 := by
    unfold sp_worn
    try simp only []
    rw [pc_sg, if_neg (by omega), pc_sg, if_neg (by omega), pc_sg, if_neg (by omega)]
    exact h
  unfold sp_wear
  split
  · show sp_melt _ f 9 g 4 = _
    unfold sp_melt
    rw [pc_sg]
    split
    · rfl
    · rw [pc_sg, if_neg (by omega)]
      exact hw
  · exact hw
theorem q4_wearAll {g : Nat} (h : σ 9 g 4 = 0) (x y z : Int32) : ∀ n, (sp_wearAll σ x y z n).2 9 g 4 = 0
  | 0 => h
  | n + 1 => by
    unfold sp_wearAll
    split
    · exact q4_wearAll h x y z n
    · exact q4_wear (q4_wearAll h x y z n) _ _ _
theorem q4_day {g : Nat} (h : σ 9 g 2 = nI 6) (h4 : σ 9 g 4 = 0) (x z : Int32) : (sp_day σ P F x z).2 9 g 4 = 0 := by
  have h1 : (sp_workAll (sp_dawn σ P) F).2 9 g 4 = 0 := by
    rw [q2_workAll ((q9_dawn P g 2).trans h) 4 F, q9_dawn]
    exact h4
  have h2 : (sp_eve (sp_workAll (sp_dawn σ P) F).2 F x z).2 9 g 4 = 0 := q4_wearAll (by rw [q9_paid]; exact h1) _ _ z F
  exact (q2_tourAll g 4 (by omega) F).trans h2
theorem q4_pass {g : Nat} (h : σ 9 g 2 = nI 6) (h4 : σ 9 g 4 = 0) (x z : Int32) : ∀ n, (sp_pass σ P F x z n).2 9 g 4 = 0
  | 0 => h4
  | n + 1 => q4_day (q2_pass h x z n) (q4_pass h h4 x z n) x z
theorem rd_pass {g j w h : Nat} (hg : g < F) (hr : rd σ g j w) (hj : j < 6) (hw : w < rd_w j) (h7 : σ 9 g 7 = 5) (h4 : σ 9 g 4 = nI h) (hh : h ≤ 9) (x z : Int32) : ∀ n, (rd_S j + w + n * h < 36 ∧ (sp_pass σ P F x z n).2 9 g 7 = 5 ∧ (sp_pass σ P F x z n).2 9 g 4 = nI h ∧ ∃ j' w', rd (sp_pass σ P F x z n).2 g j' w' ∧ j' < 6 ∧ w' < rd_w j' ∧ rd_S j' + w' = rd_S j + w + n * h) ∨ (36 ≤ rd_S j + w + n * h ∧ (sp_pass σ P F x z n).2 9 g 2 = nI 6 ∧ (sp_pass σ P F x z n).2 9 g 4 = 0)
  | 0 => by
    have := rd_max j hj
    exact Or.inl ⟨by omega, h7, h4, j, w, hr, hj, hw, by omega⟩
  | n + 1 => by
    have em : (n + 1) * h = n * h + h := Nat.succ_mul n h
    rcases rd_pass hg hr hj hw h7 h4 hh x z n with ⟨a, b, c, j', w', d1, d2, d3, d4⟩ | ⟨a, b, c⟩
    · obtain ⟨p, q⟩ := rd_day (P := P) hg d1 d2 d3 b c hh x z
      rcases q with ⟨q1, q2, j2, w2, q3, q4, q5, q6⟩ | ⟨q1, q2, q3⟩
      · exact Or.inl ⟨by omega, p, q2, j2, w2, q3, q4, q5, by omega⟩
      · exact Or.inr ⟨by omega, q2, q3⟩
    · exact Or.inr ⟨by omega, q2_day b x z, q4_day b c x z⟩
theorem rd_add (x : Int32) : ∀ j, j < 6 → sp_add (6 - j) j x = x + nI (36 - rd_S j) := by
  intro j hj
  rcases (show j = 0 ∨ j = 1 ∨ j = 2 ∨ j = 3 ∨ j = 4 ∨ j = 5 by omega) with rfl | rfl | rfl | rfl | rfl | rfl
  · show x + 4 + 10 + 3 + 2 + 12 + 5 = x + nI 36
    rw [Int32.add_assoc, Int32.add_assoc, Int32.add_assoc, Int32.add_assoc, Int32.add_assoc]
    congr 1
  · show x + 10 + 3 + 2 + 12 + 5 = x + nI 32
    rw [Int32.add_assoc, Int32.add_assoc, Int32.add_assoc, Int32.add_assoc]
    congr 1
  · show x + 3 + 2 + 12 + 5 = x + nI 22
    rw [Int32.add_assoc, Int32.add_assoc, Int32.add_assoc]
    congr 1
  · show x + 2 + 12 + 5 = x + nI 19
    rw [Int32.add_assoc, Int32.add_assoc]
    congr 1
  · show x + 12 + 5 = x + nI 17
    rw [Int32.add_assoc]
    congr 1
  · show x + 5 = x + nI 5
    congr 1
/-- readyIn's number -/
theorem rd_days {g j w h : Nat} (hr : rd σ g j w) (hj : j < 6) (hw : w < rd_w j) (h7 : σ 9 g 7 = 5) (h4 : σ 9 g 4 = nI h) (hh : h ≤ 9) : sp_days σ g = if h = 0 then -1 else nI ((36 - (rd_S j + w) + h - 1) / h) := by
  obtain ⟨h1, h2⟩ := hr
  have gm := rd_max j hj
  have d0 : sp_isDone σ g = 0 := by
    unfold sp_isDone
    rw [if_neg (by rw [h1, sp_six, nI_eq (by omega) (by omega)]; omega)]
  unfold sp_days
  rw [if_pos d0, if_neg (by rw [h7]; decide)]
  by_cases c : h = 0
  · subst c
    rw [if_neg (by rw [h4]; decide), if_pos rfl]
  · rw [if_pos (by rw [h4]; show (0 : Int32) < nI h; rw [← nI_0]; exact nI_lt (by omega) (by omega)), if_neg c, h1, h2, h4, nI_clamp (by omega), rd_add _ _ hj]
    have e1 : - nI w + nI (36 - rd_S j) = nI (36 - (rd_S j + w)) := by
      rw [Int32.add_comm, ← Int32.sub_eq_add_neg, nI_sub (by omega)]
      congr 1
      omega
    rw [e1, nI_add, show nI (36 - (rd_S j + w) + h) - 1 = nI (36 - (rd_S j + w) + h - 1) from nI_sub (b := 1) (by omega)]
    exact pf_div (by omega) h (by omega) (by omega)
theorem rd_ceil {m h n : Nat} (hh : 0 < h) (hm : 0 < m) : (m + h - 1) / h ≤ n ↔ m ≤ n * h := by
  rw [← Nat.lt_succ_iff, Nat.div_lt_iff_lt_mul hh, Nat.succ_mul]
  omega
end RD
