/-! DEAD SLOTS: what nobody has told yet holds what it held at first -/
def pd_live (P F R k i j : Nat) : Prop := (k = 0 ∧ i = 0 ∧ 3 ≤ j ∧ j ≤ 10) ∨ (k = 4 ∧ i < P ∧ 5 ≤ j ∧ j ≤ 7) ∨ ((k = 5 ∨ k = 6) ∧ i < P ∧ j < 3) ∨ ((k = 7 ∨ k = 8) ∧ i < P ∧ j < 6) ∨ (k = 9 ∧ i < F ∧ j ≤ 10) ∨ (k = 10 ∧ i < R ∧ j < 2)
def pd (P F R : Nat) (σ : hs_St) : Prop := ∀ k i j, ¬ pd_live P F R k i j → σ k i j = rc_s k i j
theorem pd_start : pd 0 0 0 rc_s := fun _ _ _ _ => rfl
theorem pd_live_mono {P F R P2 F2 R2 k i j : Nat} (hP : P ≤ P2) (hF : F ≤ F2) (hR : R ≤ R2) (h : pd_live P F R k i j) : pd_live P2 F2 R2 k i j := by
  unfold pd_live at *
  omega
theorem pd.mono {P F R P2 F2 R2 : Nat} {σ : hs_St} (h : pd P F R σ) (hP : P ≤ P2) (hF : F ≤ F2) (hR : R ≤ R2) : pd P2 F2 R2 σ := fun k i j hn => h k i j (fun z => hn (pd_live_mono hP hF hR z))
theorem pd.sg {P F R : Nat} {σ : hs_St} (h : pd P F R σ) (k i j : Nat) (v : Int32) (hl : pd_live P F R k i j) : pd P F R (hs_sg σ k i j v) := fun a b c hn => by
  unfold hs_sg
  rw [if_neg (fun z => hn (by rw [z.1, z.2.1, z.2.2]; exact hl))]
  exact h a b c hn
section PD
variable {P F R : Nat} {σ : hs_St}
theorem pd_l0 {j : Nat} (h1 : 3 ≤ j) (h2 : j ≤ 10) : pd_live P F R 0 0 j := Or.inl ⟨rfl, rfl, h1, h2⟩
theorem pd_l4 {i j : Nat} (h : i < P) (h1 : 5 ≤ j) (h2 : j ≤ 7) : pd_live P F R 4 i j := Or.inr (Or.inl ⟨rfl, h, h1, h2⟩)
theorem pd_l5 {i j : Nat} (h : i < P) (h1 : j < 3) : pd_live P F R 5 i j := Or.inr (Or.inr (Or.inl ⟨Or.inl rfl, h, h1⟩))
theorem pd_l6 {i j : Nat} (h : i < P) (h1 : j < 3) : pd_live P F R 6 i j := Or.inr (Or.inr (Or.inl ⟨Or.inr rfl, h, h1⟩))
theorem pd_l7 {i j : Nat} (h : i < P) (h1 : j < 6) : pd_live P F R 7 i j := Or.inr (Or.inr (Or.inr (Or.inl ⟨Or.inl rfl, h, h1⟩)))
theorem pd_l8 {i j : Nat} (h : i < P) (h1 : j < 6) : pd_live P F R 8 i j := Or.inr (Or.inr (Or.inr (Or.inl ⟨Or.inr rfl, h, h1⟩)))
theorem pd_l9 {i j : Nat} (h : i < F) (h1 : j ≤ 10) : pd_live P F R 9 i j := Or.inr (Or.inr (Or.inr (Or.inr (Or.inl ⟨rfl, h, h1⟩))))
theorem pd_l10 {i j : Nat} (h : i < R) (h1 : j < 2) : pd_live P F R 10 i j := Or.inr (Or.inr (Or.inr (Or.inr (Or.inr ⟨rfl, h, h1⟩))))
theorem pd_mon (h : pd P F R σ) {q : Nat} (hq : q < P) : ∀ n, n ≤ 3 → pd P F R (sp_mon σ q n)
  | 0, _ => h
  | n + 1, hn => ((pd_mon h hq n (by omega)).sg 5 q n _ (pd_l5 hq (by omega))).sg 6 q n _ (pd_l6 hq (by omega))
theorem pd_monAll (h : pd P F R σ) : ∀ n, n ≤ P → pd P F R (sp_monAll σ n)
  | 0, _ => h
  | n + 1, hn => pd_mon (pd_monAll h n (by omega)) (by omega) 3 (Nat.le_refl _)
theorem pd_put (h : pd P F R σ) {f : Nat} (hf : f < F) : pd P F R (sp_put σ f) := (h.sg 9 f 3 _ (pd_l9 hf (by decide))).sg 9 f 2 _ (pd_l9 hf (by decide))
theorem pd_step (h : pd P F R σ) {f : Nat} (hf : f < F) : pd P F R (sp_step σ f) := by
  unfold sp_step
  split
  · exact (pd_put h hf).sg 9 f 5 _ (pd_l9 hf (by decide))
  · exact pd_put h hf
theorem pd_climb {f : Nat} (hf : f < F) : ∀ (k : Nat) (σ : hs_St), pd P F R σ → pd P F R (sp_climb f k σ)
  | 0, _, h => h
  | k + 1, σ, h => by
    unfold sp_climb
    split
    · exact h
    · split
      · exact h
      · exact pd_climb hf k _ (pd_step h hf)
theorem pd_fin (h : pd P F R σ) {f : Nat} (hf : f < F) : pd P F R (sp_fin σ f).2 := by
  unfold sp_fin
  split
  · exact (h.sg 9 f 3 _ (pd_l9 hf (by decide))).sg 9 f 4 _ (pd_l9 hf (by decide))
  · exact h
theorem pd_wd (h : pd P F R σ) {f : Nat} (hf : f < F) : pd P F R (sp_wd σ f).2 := by
  unfold sp_wd
  split
  · exact h
  · split
    · exact h
    · exact pd_fin (pd_climb hf _ _ (h.sg 9 f 3 _ (pd_l9 hf (by decide)))) hf
theorem pd_workAll (h : pd P F R σ) : ∀ n, n ≤ F → pd P F R (sp_workAll σ n).2
  | 0, _ => h
  | n + 1, hn => pd_wd (pd_workAll h n (by omega)) (by omega)
theorem pd_worn (h : pd P F R σ) {f : Nat} (hf : f < F) (hh : (σ 9 f 0).toNatClampNeg < P) (x y z : Int32) : pd P F R (sp_worn σ f x y z) := by
  unfold sp_worn
  exact ((h.sg 9 f 10 _ (pd_l9 hf (by decide))).sg 4 _ 6 _ (pd_l4 hh (by decide) (by decide))).sg 9 f 6 _ (pd_l9 hf (by decide))
theorem pd_wear (h : pd P F R σ) {f : Nat} (hf : f < F) (hh : (σ 9 f 0).toNatClampNeg < P) (x y z : Int32) : pd P F R (sp_wear σ f x y z).2 := by
  unfold sp_wear
  split
  · exact ((pd_worn h hf hh x y z).sg 9 f 7 _ (pd_l9 hf (by decide))).sg 9 f 4 _ (pd_l9 hf (by decide))
  · exact pd_worn h hf hh x y z
/-- heads and bodies stay -/
def pd_hd (P F : Nat) (σ : hs_St) : Prop := ∀ f, f < F → (σ 9 f 0).toNatClampNeg < P ∧ (σ 9 f 1).toNatClampNeg < P
/-- what a day leaves of a figure: head and body, and of a house its three counts -/
def pd_same (σ τ : hs_St) : Prop := (∀ f, τ 9 f 0 = σ 9 f 0 ∧ τ 9 f 1 = σ 9 f 1) ∧ τ 0 0 3 = σ 0 0 3 ∧ τ 0 0 4 = σ 0 0 4 ∧ τ 0 0 5 = σ 0 0 5
theorem pd_same.rf : pd_same σ σ := ⟨fun _ => ⟨rfl, rfl⟩, rfl, rfl, rfl⟩
theorem pd_same.trans {τ υ : hs_St} (h1 : pd_same σ τ) (h2 : pd_same τ υ) : pd_same σ υ := ⟨fun f => ⟨(h2.1 f).1.trans (h1.1 f).1, (h2.1 f).2.trans (h1.1 f).2⟩, h2.2.1.trans h1.2.1, h2.2.2.1.trans h1.2.2.1, h2.2.2.2.trans h1.2.2.2⟩
theorem pd_same.sg (k i j : Nat) (v : Int32) (h : ¬ (k = 9 ∧ j < 2)) (h0 : ¬ (k = 0 ∧ 3 ≤ j ∧ j ≤ 5)) : pd_same σ (hs_sg σ k i j v) := by
  refine ⟨fun f => ⟨?_, ?_⟩, ?_, ?_, ?_⟩ <;> (unfold hs_sg; rw [if_neg (by omega)])
theorem pd_hd.of {τ : hs_St} (h : pd_hd P F σ) (hs : pd_same σ τ) : pd_hd P F τ := fun f hf => by
  rw [(hs.1 f).1, (hs.1 f).2]
  exact h f hf
theorem ps_mon {q : Nat} : ∀ n, pd_same σ (sp_mon σ q n)
  | 0 => pd_same.rf
  | n + 1 => ((ps_mon n).trans (pd_same.sg 5 q n _ (by omega) (by omega))).trans (pd_same.sg 6 q n _ (by omega) (by omega))
theorem ps_monAll : ∀ n, pd_same σ (sp_monAll σ n)
  | 0 => pd_same.rf
  | n + 1 => (ps_monAll n).trans (ps_mon 3)
theorem ps_step (f : Nat) : pd_same σ (sp_step σ f) := by
  have h : pd_same σ (sp_put σ f) := (pd_same.sg 9 f 3 _ (by omega) (by omega)).trans (pd_same.sg 9 f 2 _ (by omega) (by omega))
  unfold sp_step
  split
  · exact h.trans (pd_same.sg 9 f 5 _ (by omega) (by omega))
  · exact h
theorem ps_climb (f : Nat) : ∀ (k : Nat) (σ : hs_St), pd_same σ (sp_climb f k σ)
  | 0, _ => pd_same.rf
  | k + 1, σ => by
    unfold sp_climb
    split
    · exact pd_same.rf
    · split
      · exact pd_same.rf
      · exact (ps_step f).trans (ps_climb f k _)
theorem ps_wd (f : Nat) : pd_same σ (sp_wd σ f).2 := by
  unfold sp_wd
  split
  · exact pd_same.rf
  · split
    · exact pd_same.rf
    · have h0 : pd_same σ (sp_climb f (6 - (σ 9 f 2).toNatClampNeg) (hs_sg σ 9 f 3 (σ 9 f 3 + σ 9 f 4))) := (pd_same.sg 9 f 3 _ (by omega) (by omega)).trans (ps_climb f _ _)
      refine h0.trans ?_
      unfold sp_fin
      split
      · exact (pd_same.sg 9 f 3 _ (by omega) (by omega)).trans (pd_same.sg 9 f 4 _ (by omega) (by omega))
      · exact pd_same.rf
theorem ps_workAll : ∀ n, pd_same σ (sp_workAll σ n).2
  | 0 => pd_same.rf
  | n + 1 => (ps_workAll n).trans (ps_wd n)
theorem ps_wear (f : Nat) (x y z : Int32) : pd_same σ (sp_wear σ f x y z).2 := by
  have h : pd_same σ (sp_worn σ f x y z) := ((pd_same.sg 9 f 10 _ (by omega) (by omega)).trans (pd_same.sg 4 _ 6 _ (by omega) (by omega))).trans (pd_same.sg 9 f 6 _ (by omega) (by omega))
  unfold sp_wear
  split
  · exact h.trans ((pd_same.sg 9 f 7 _ (by omega) (by omega)).trans (pd_same.sg 9 f 4 _ (by omega) (by omega)))
  · exact h
theorem ps_wearAll (x y z : Int32) : ∀ n, pd_same σ (sp_wearAll σ x y z n).2
  | 0 => pd_same.rf
  | n + 1 => by
    unfold sp_wearAll
    split
    · exact ps_wearAll x y z n
    · exact (ps_wearAll x y z n).trans (ps_wear n _ _ _)
theorem ps_tour (f : Nat) : pd_same σ (sp_tour σ f) := by
  have h : ∀ v w, pd_same σ (hs_sg (hs_sg σ 9 f 6 v) 9 f 9 w) := fun v w => (pd_same.sg 9 f 6 _ (by omega) (by omega)).trans (pd_same.sg 9 f 9 _ (by omega) (by omega))
  unfold sp_tour
  simp only []
  split
  · exact h _ _
  · exact (h _ _).trans ((pd_same.sg 9 f 9 _ (by omega) (by omega)).trans (pd_same.sg 9 f 7 _ (by omega) (by omega)))
theorem ps_tourAll : ∀ n, pd_same σ (sp_tourAll σ n)
  | 0 => pd_same.rf
  | n + 1 => by
    unfold sp_tourAll
    split
    · exact ((ps_tourAll n).trans (ps_tour n)).trans (pd_same.sg 0 0 7 _ (by omega) (by omega))
    · exact ps_tourAll n
theorem ps_dawn (Q : Nat) : pd_same σ (sp_dawn σ Q) := by
  unfold sp_dawn
  split
  · exact (pd_same.sg 0 0 6 _ (by omega) (by omega)).trans (ps_monAll Q)
  · exact pd_same.sg 0 0 6 _ (by omega) (by omega)
theorem ps_paid (x : Int32) : pd_same σ (sp_paid σ x) := (pd_same.sg 0 0 10 _ (by omega) (by omega)).trans (pd_same.sg 0 0 7 _ (by omega) (by omega))
theorem ps_day (Q G : Nat) (x z : Int32) : pd_same σ (sp_day σ Q G x z).2 := ((((ps_dawn Q).trans (ps_workAll G)).trans (ps_paid x)).trans (ps_wearAll _ _ z G)).trans (ps_tourAll G)
theorem ps_pass (Q G : Nat) (x z : Int32) : ∀ n, pd_same σ (sp_pass σ Q G x z n).2
  | 0 => pd_same.rf
  | n + 1 => (ps_pass Q G x z n).trans (ps_day Q G x z)
theorem pd_wearAll (h : pd P F R σ) (hh : pd_hd P F σ) (x y z : Int32) : ∀ n, n ≤ F → pd P F R (sp_wearAll σ x y z n).2
  | 0, _ => h
  | n + 1, hn => by
    unfold sp_wearAll
    split
    · exact pd_wearAll h hh x y z n (by omega)
    · exact pd_wear (pd_wearAll h hh x y z n (by omega)) (by omega) ((hh.of (ps_wearAll x y z n)) n (by omega)).1 _ _ _
theorem pd_tour (h : pd P F R σ) {f : Nat} (hf : f < F) : pd P F R (sp_tour σ f) := by
  unfold sp_tour
  simp only []
  split
  · exact (h.sg 9 f 6 _ (pd_l9 hf (by decide))).sg 9 f 9 _ (pd_l9 hf (by decide))
  · exact (((h.sg 9 f 6 _ (pd_l9 hf (by decide))).sg 9 f 9 _ (pd_l9 hf (by decide))).sg 9 f 9 _ (pd_l9 hf (by decide))).sg 9 f 7 _ (pd_l9 hf (by decide))
theorem pd_tourAll (h : pd P F R σ) : ∀ n, n ≤ F → pd P F R (sp_tourAll σ n)
  | 0, _ => h
  | n + 1, hn => by
    unfold sp_tourAll
    split
    · exact (pd_tour (pd_tourAll h n (by omega)) (by omega)).sg 0 0 7 _ (pd_l0 (by decide) (by decide))
    · exact pd_tourAll h n (by omega)
theorem pd_dawn (h : pd P F R σ) : pd P F R (sp_dawn σ P) := by
  unfold sp_dawn
  split
  · exact pd_monAll (h.sg 0 0 6 _ (pd_l0 (by decide) (by decide))) P (Nat.le_refl _)
  · exact h.sg 0 0 6 _ (pd_l0 (by decide) (by decide))
theorem pd_paid (h : pd P F R σ) (x : Int32) : pd P F R (sp_paid σ x) := (h.sg 0 0 10 _ (pd_l0 (by decide) (by decide))).sg 0 0 7 _ (pd_l0 (by decide) (by decide))
theorem pd_day (h : pd P F R σ) (hh : pd_hd P F σ) (x z : Int32) : pd P F R (sp_day σ P F x z).2 := pd_tourAll (pd_wearAll (pd_paid (pd_workAll (pd_dawn h) F (Nat.le_refl _)) x) (hh.of (((ps_dawn P).trans (ps_workAll F)).trans (ps_paid x))) _ _ z F (Nat.le_refl _)) F (Nat.le_refl _)
theorem pd_pass (h : pd P F R σ) (hh : pd_hd P F σ) (x z : Int32) : ∀ n, pd P F R (sp_pass σ P F x z n).2
  | 0 => h
  | n + 1 => pd_day (pd_pass h hh x z n) (hh.of (ps_pass P F x z n)) x z
theorem pd_td {τ0 : hs_St} (h : pd P F R τ0) (hh : pd_hd P F τ0) (f : Nat) (x z : Int32) : ∀ k n, pd P F R (sp_td τ0 P F f x z k n).2
  | 0, n => pd_pass h hh x z n
  | k + 1, n => by
    unfold sp_td
    split
    · exact pd_pass h hh x z (n + 1)
    · exact pd_td h hh f x z k (n + 1)
end PD
/-! A COPY of a house over one whose dead slots are as at first is the house itself -/
theorem pc_1 (σ σ2 : hs_St) (q : Nat) : ∀ n k i j, sp_cp1 σ σ2 q n k i j = if (k = 5 ∨ k = 6) ∧ i = q ∧ j < n then σ2 k i j else σ k i j
  | 0, k, i, j => by rw [if_neg (by omega)]; rfl
  | n + 1, k, i, j => by
    simp only [sp_cp1, hs_sg]
    rw [pc_1 σ σ2 q n k i j]
    by_cases h6 : k = 6 ∧ i = q ∧ j = n
    · obtain ⟨rfl, rfl, rfl⟩ := h6
      rw [if_pos ⟨rfl, rfl, rfl⟩, if_pos (by omega)]
    · rw [if_neg h6]
      by_cases h5 : k = 5 ∧ i = q ∧ j = n
      · obtain ⟨rfl, rfl, rfl⟩ := h5
        rw [if_pos ⟨rfl, rfl, rfl⟩, if_pos (by omega)]
      · rw [if_neg h5]
        by_cases h : (k = 5 ∨ k = 6) ∧ i = q ∧ j < n
        · rw [if_pos h, if_pos (by omega)]
        · rw [if_neg h, if_neg (by omega)]
theorem pc_2 (σ σ2 : hs_St) (q : Nat) : ∀ n k i j, sp_cp2 σ σ2 q n k i j = if (k = 7 ∨ k = 8) ∧ i = q ∧ j < n then σ2 k i j else σ k i j
  | 0, k, i, j => by rw [if_neg (by omega)]; rfl
  | n + 1, k, i, j => by
    simp only [sp_cp2, hs_sg]
    rw [pc_2 σ σ2 q n k i j]
    by_cases h6 : k = 8 ∧ i = q ∧ j = n
    · obtain ⟨rfl, rfl, rfl⟩ := h6
      rw [if_pos ⟨rfl, rfl, rfl⟩, if_pos (by omega)]
    · rw [if_neg h6]
      by_cases h5 : k = 7 ∧ i = q ∧ j = n
      · obtain ⟨rfl, rfl, rfl⟩ := h5
        rw [if_pos ⟨rfl, rfl, rfl⟩, if_pos (by omega)]
      · rw [if_neg h5]
        by_cases h : (k = 7 ∨ k = 8) ∧ i = q ∧ j < n
        · rw [if_pos h, if_pos (by omega)]
        · rw [if_neg h, if_neg (by omega)]
theorem pc_sg {σ : hs_St} {a b c k i j : Nat} {v : Int32} : hs_sg σ a b c v k i j = if k = a ∧ i = b ∧ j = c then v else σ k i j := rfl
theorem pc_P (σ σ2 : hs_St) (q k i j : Nat) : sp_cpP σ σ2 q k i j = if i = q ∧ ((k = 4 ∧ 5 ≤ j ∧ j ≤ 7) ∨ ((k = 5 ∨ k = 6) ∧ j < 3) ∨ ((k = 7 ∨ k = 8) ∧ j < 6)) then σ2 k i j else σ k i j := by
  unfold sp_cpP
  simp only [pc_sg]
  by_cases h7 : k = 4 ∧ i = q ∧ j = 7
  · obtain ⟨rfl, rfl, rfl⟩ := h7
    rw [if_pos ⟨rfl, rfl, rfl⟩, if_pos (by omega)]
  rw [if_neg h7]
  by_cases h6 : k = 4 ∧ i = q ∧ j = 6
  · obtain ⟨rfl, rfl, rfl⟩ := h6
    rw [if_pos ⟨rfl, rfl, rfl⟩, if_pos (by omega)]
  rw [if_neg h6]
  by_cases h5 : k = 4 ∧ i = q ∧ j = 5
  · obtain ⟨rfl, rfl, rfl⟩ := h5
    rw [if_pos ⟨rfl, rfl, rfl⟩, if_pos (by omega)]
  rw [if_neg h5, pc_2, pc_1]
  by_cases hb : (k = 7 ∨ k = 8) ∧ i = q ∧ j < 6
  · rw [if_pos hb, if_pos (by omega)]
  rw [if_neg hb]
  by_cases ha : (k = 5 ∨ k = 6) ∧ i = q ∧ j < 3
  · rw [if_pos ha, if_pos (by omega)]
  · rw [if_neg ha, if_neg (by omega)]
theorem pc_Ps (σ σ2 : hs_St) : ∀ n k i j, sp_cpPs σ σ2 n k i j = if i < n ∧ ((k = 4 ∧ 5 ≤ j ∧ j ≤ 7) ∨ ((k = 5 ∨ k = 6) ∧ j < 3) ∨ ((k = 7 ∨ k = 8) ∧ j < 6)) then σ2 k i j else σ k i j
  | 0, k, i, j => by rw [if_neg (by omega)]; rfl
  | n + 1, k, i, j => by
    show sp_cpP (sp_cpPs σ σ2 n) σ2 n k i j = _
    rw [pc_P, pc_Ps σ σ2 n]
    by_cases h : i = n ∧ ((k = 4 ∧ 5 ≤ j ∧ j ≤ 7) ∨ ((k = 5 ∨ k = 6) ∧ j < 3) ∨ ((k = 7 ∨ k = 8) ∧ j < 6))
    · rw [if_pos h, if_pos (by omega)]
    · rw [if_neg h]
      by_cases h2 : i < n ∧ ((k = 4 ∧ 5 ≤ j ∧ j ≤ 7) ∨ ((k = 5 ∨ k = 6) ∧ j < 3) ∨ ((k = 7 ∨ k = 8) ∧ j < 6))
      · rw [if_pos h2, if_pos (by omega)]
      · rw [if_neg h2, if_neg (by omega)]
theorem pc_F (σ σ2 : hs_St) (f x y k i j : Nat) (hx : nI x = σ2 9 f 0) (hy : nI y = σ2 9 f 1) : sp_cpF σ σ2 f x y k i j = if k = 9 ∧ i = f ∧ j ≤ 10 then σ2 k i j else σ k i j := by
  unfold sp_cpF
  rw [hx, hy]
  simp only [pc_sg]
  by_cases h : k = 9 ∧ i = f ∧ j ≤ 10
  · rw [if_pos h]
    obtain ⟨rfl, rfl, hj⟩ := h
    rcases (show j = 0 ∨ j = 1 ∨ j = 2 ∨ j = 3 ∨ j = 4 ∨ j = 5 ∨ j = 6 ∨ j = 7 ∨ j = 8 ∨ j = 9 ∨ j = 10 by omega) with rfl | rfl | rfl | rfl | rfl | rfl | rfl | rfl | rfl | rfl | rfl <;> simp
  · rw [if_neg h]
    rw [if_neg (by omega), if_neg (by omega), if_neg (by omega), if_neg (by omega), if_neg (by omega), if_neg (by omega), if_neg (by omega), if_neg (by omega), if_neg (by omega), if_neg (by omega), if_neg (by omega)]
theorem pc_Fs (σ σ2 : hs_St) : ∀ n, (∀ f, f < n → nI (σ2 9 f 0).toNatClampNeg = σ2 9 f 0 ∧ nI (σ2 9 f 1).toNatClampNeg = σ2 9 f 1) → ∀ k i j, sp_cpFs σ σ2 n k i j = if k = 9 ∧ i < n ∧ j ≤ 10 then σ2 k i j else σ k i j
  | 0, _, k, i, j => by rw [if_neg (by omega)]; rfl
  | n + 1, hn, k, i, j => by
    show sp_cpF (sp_cpFs σ σ2 n) σ2 n _ _ k i j = _
    rw [pc_F _ _ _ _ _ _ _ _ (hn n (by omega)).1 (hn n (by omega)).2, pc_Fs σ σ2 n (fun f hf => hn f (by omega))]
    by_cases h : k = 9 ∧ i = n ∧ j ≤ 10
    · rw [if_pos h, if_pos (by omega)]
    · rw [if_neg h]
      by_cases h2 : k = 9 ∧ i < n ∧ j ≤ 10
      · rw [if_pos h2, if_pos (by omega)]
      · rw [if_neg h2, if_neg (by omega)]
theorem pc_Rs (σ σ2 : hs_St) : ∀ n k i j, sp_cpRs σ σ2 n k i j = if k = 10 ∧ i < n ∧ j < 2 then σ2 k i j else σ k i j
  | 0, k, i, j => by rw [if_neg (by omega)]; rfl
  | n + 1, k, i, j => by
    simp only [sp_cpRs, pc_sg]
    rw [pc_Rs σ σ2 n k i j]
    by_cases h1 : k = 10 ∧ i = n ∧ j = 1
    · obtain ⟨rfl, rfl, rfl⟩ := h1
      rw [if_pos ⟨rfl, rfl, rfl⟩, if_pos (by omega)]
    rw [if_neg h1]
    by_cases h0 : k = 10 ∧ i = n ∧ j = 0
    · obtain ⟨rfl, rfl, rfl⟩ := h0
      rw [if_pos ⟨rfl, rfl, rfl⟩, if_pos (by omega)]
    rw [if_neg h0]
    by_cases h2 : k = 10 ∧ i < n ∧ j < 2
    · rw [if_pos h2, if_pos (by omega)]
    · rw [if_neg h2, if_neg (by omega)]
theorem pc_H (σ σ2 : hs_St) (k i j : Nat) : sp_cpH σ σ2 k i j = if k = 0 ∧ i = 0 ∧ 3 ≤ j ∧ j ≤ 10 then σ2 k i j else σ k i j := by
  unfold sp_cpH
  simp only [pc_sg]
  by_cases h : k = 0 ∧ i = 0 ∧ 3 ≤ j ∧ j ≤ 10
  · rw [if_pos h]
    obtain ⟨rfl, rfl, h3, hj⟩ := h
    rcases (show j = 3 ∨ j = 4 ∨ j = 5 ∨ j = 6 ∨ j = 7 ∨ j = 8 ∨ j = 9 ∨ j = 10 by omega) with rfl | rfl | rfl | rfl | rfl | rfl | rfl | rfl <;> simp
  · rw [if_neg h]
    rw [if_neg (by omega), if_neg (by omega), if_neg (by omega), if_neg (by omega), if_neg (by omega), if_neg (by omega), if_neg (by omega), if_neg (by omega)]
/-- heads and bodies are numbers -/
def pd_nn (F : Nat) (σ : hs_St) : Prop := ∀ f, f < F → nI (σ 9 f 0).toNatClampNeg = σ 9 f 0 ∧ nI (σ 9 f 1).toNatClampNeg = σ 9 f 1
theorem pd_copy {P F R : Nat} {σ σ2 : hs_St} (h : pd P F R σ) (h2 : pd P F R σ2) (hn : pd_nn F σ) : sp_copy σ2 σ P F R = σ := by
  funext k i j
  unfold sp_copy
  rw [pc_Rs, pc_Fs _ _ F hn, pc_Ps, pc_H]
  by_cases a : k = 10 ∧ i < R ∧ j < 2
  · rw [if_pos a]
  rw [if_neg a]
  by_cases b : k = 9 ∧ i < F ∧ j ≤ 10
  · rw [if_pos b]
  rw [if_neg b]
  by_cases c : i < P ∧ ((k = 4 ∧ 5 ≤ j ∧ j ≤ 7) ∨ ((k = 5 ∨ k = 6) ∧ j < 3) ∨ ((k = 7 ∨ k = 8) ∧ j < 6))
  · rw [if_pos c]
  rw [if_neg c]
  by_cases e : k = 0 ∧ i = 0 ∧ 3 ≤ j ∧ j ≤ 10
  · rw [if_pos e]
  rw [if_neg e, h k i j (by unfold pd_live; omega), h2 k i j (by unfold pd_live; omega)]
/-- so what would melt doesn't hang on the trial house's own past -/
theorem pd_mIn {P F R : Nat} {σ σ2 : hs_St} (h : pd P F R σ) (h2 : pd P F R σ2) (hn : pd_nn F σ) (f : Nat) (x z : Int32) : (sp_mIn σ σ2 P F R f x z).1 = if sp_isShown σ f = 0 then -1 else (sp_td σ P F f x z 60 0).1 := by
  unfold sp_mIn
  by_cases e : sp_isShown σ f = 0
  · rw [if_pos e, if_pos e]
  · rw [if_neg e, if_neg e, pd_copy h h2 hn]
theorem pd_mIn2 {P F R : Nat} {σ σ2 : hs_St} (h : pd P F R σ) (h2 : pd P F R σ2) (hn : pd_nn F σ) (hh : pd_hd P F σ) (f : Nat) (x z : Int32) : pd P F R (sp_mIn σ σ2 P F R f x z).2 := by
  unfold sp_mIn
  by_cases e : sp_isShown σ f = 0
  · rw [if_pos e]
    exact h2
  · rw [if_neg e, pd_copy h h2 hn]
    exact pd_td h hh f x z 60 0
theorem pd_gFs {P F R : Nat} {σ : hs_St} (h : pd P F R σ) (hn : pd_nn F σ) (hh : pd_hd P F σ) (d : Int64) {σ2 σ3 : hs_St} (h2 : pd P F R σ2) (h3 : pd P F R σ3) : ∀ n, (sp_gFs σ σ2 P F R d n).1 = (sp_gFs σ σ3 P F R d n).1 ∧ pd P F R (sp_gFs σ σ2 P F R d n).2 ∧ pd P F R (sp_gFs σ σ3 P F R d n).2
  | 0 => ⟨rfl, h2, h3⟩
  | n + 1 => by
    obtain ⟨a, b, c⟩ := pd_gFs h hn hh d h2 h3 n
    refine ⟨?_, pd_mIn2 h b hn hh n _ _, pd_mIn2 h c hn hh n _ _⟩
    show sp_h (sp_h (sp_gF σ n (sp_gFs σ σ2 P F R d n).1 12) (sp_days σ n)) (sp_mIn σ (sp_gFs σ σ2 P F R d n).2 P F R n 900 30).1 = sp_h (sp_h (sp_gF σ n (sp_gFs σ σ3 P F R d n).1 12) (sp_days σ n)) (sp_mIn σ (sp_gFs σ σ3 P F R d n).2 P F R n 900 30).1
    rw [a, pd_mIn h b hn, pd_mIn h c hn]
/-- one digest for one house, whatever its trial house holds -/
theorem pd_dig {P F R : Nat} {σ : hs_St} (h : pd P F R σ) (hn : pd_nn F σ) (hh : pd_hd P F σ) {σ2 σ3 : hs_St} (h2 : pd P F R σ2) (h3 : pd P F R σ3) : (sp_dig σ σ2 P F R).1 = (sp_dig σ σ3 P F R).1 := by
  unfold sp_dig
  show sp_gE σ P F R _ = sp_gE σ P F R _
  rw [(pd_gFs h hn hh _ h2 h3 F).1]
theorem pd_dig2 {P F R : Nat} {σ : hs_St} (h : pd P F R σ) (hn : pd_nn F σ) (hh : pd_hd P F σ) {σ2 : hs_St} (h2 : pd P F R σ2) : pd P F R (sp_dig σ σ2 P F R).2 := (pd_gFs h hn hh _ h2 h2 F).2.1
