/-! A DAY of the account while nothing is shown -/
theorem sp_wd_done {σ : hs_St} {f : Nat} (h : σ 9 f 2 = nI 6) : sp_wd σ f = (0, σ) := by
  unfold sp_wd
  rw [if_pos (by rw [h, sp_six]; exact nI_le (Nat.le_refl _) (by decide))]
theorem rd_wd1 {σ : hs_St} {f j w h : Nat} (hr : rd σ f j w) (hj : j < 6) (hw : w < rd_w j) (h7 : σ 9 f 7 = 5) (h4 : σ 9 f 4 = nI h) (hh : h ≤ 9) : (rd_S j + w + h < 36 ∧ (sp_wd σ f).1 = 0) ∨ (36 ≤ rd_S j + w + h ∧ (sp_wd σ f).1 = 1) := by
  obtain ⟨h1, h2⟩ := id hr
  have hwl := rd_wle j
  have e0 : rd (hs_sg σ 9 f 3 (σ 9 f 3 + σ 9 f 4)) f j (w + h) := ⟨by rw [pc_sg, if_neg (by omega)]; exact h1, by rw [pc_sg, if_pos ⟨rfl, rfl, rfl⟩, h2, h4, nI_add]⟩
  have ek : 6 - (σ 9 f 2).toNatClampNeg = 6 - j := by rw [h1, nI_clamp (by omega)]
  obtain ⟨j', w', a, b, e, g⟩ := rd_climb f (6 - (σ 9 f 2).toNatClampNeg) _ j (w + h) (by omega) ek (by omega) e0
  unfold sp_wd
  rw [if_neg (by rw [h1, sp_six]; exact nI_ge hj (by decide)), if_neg (by rw [h7]; decide)]
  unfold sp_fin
  by_cases c : j' = 6
  · subst c
    right
    rw [if_pos (by rw [a.1, sp_six]; exact nI_le (Nat.le_refl _) (by decide))]
    have e6 : rd_S 6 = 36 := rfl
    exact ⟨by omega, rfl⟩
  · left
    have c6 : j' < 6 := by omega
    have gm := rd_max j' c6
    have g2 : w' < rd_w j' := by
      rcases g with g | g
      · omega
      · exact g
    rw [if_neg (by rw [a.1, sp_six]; exact nI_ge c6 (by decide))]
    exact ⟨by omega, rfl⟩
/-- the account within a day's work, when u figures are through -/
def tl_gA (c0 : hs_St) (P F : Nat) (c σ1 : hs_St) (u : Nat) (many : Int32) : Prop := (∀ a i e, a ≠ 16 → c a i e = c0 a i e) ∧ (∀ f, f < F → tm_F P c (sp_workAll σ1 u).2 f) ∧ many = (sp_workAll σ1 u).1
section TGA
variable {c0 c c' σ1 : hs_St} {P F u : Nat} {many many' : Int32}
theorem tl_gA_done (h : tl_gA c0 P F c σ1 u many) (hd : (sp_workAll σ1 u).2 9 u 2 = nI 6) : tl_gA c0 P F c σ1 (u + 1) many := by
  obtain ⟨h1, h2, h3⟩ := h
  have e : sp_workAll σ1 (u + 1) = sp_workAll σ1 u := by
    show (if (sp_wd (sp_workAll σ1 u).2 u).1 = 0 then (sp_workAll σ1 u).1 else (sp_workAll σ1 u).1 + 1, (sp_wd (sp_workAll σ1 u).2 u).2) = _
    rw [sp_wd_done hd]
    rfl
  exact ⟨h1, fun f hf => by rw [e]; exact h2 f hf, by rw [e]; exact h3⟩
theorem tl_gA_step (h : tl_gA c0 P F c σ1 u many) (hu : u < F) {j w g : Nat} (hr : rd (sp_workAll σ1 u).2 u j w) (hj : j < 6) (hw : w < rd_w j) (hg : g ≤ 9) (h4 : (sp_workAll σ1 u).2 9 u 4 = nI g) (ho : ∀ a i e, ¬ (a = 16 ∧ i = u ∧ (e = 2 ∨ e = 3 ∨ e = 4)) → c' a i e = c a i e) (h2 : c' 16 u 2 = nI (rd_S j + w + g)) (h3 : (rd_S j + w + g < 36 ∧ c' 16 u 3 = nI g ∧ many' = many) ∨ (36 ≤ rd_S j + w + g ∧ c' 16 u 3 = 0 ∧ many' = many + 1)) : tl_gA c0 P F c' σ1 (u + 1) many' := by
  obtain ⟨k1, k2, k3⟩ := h
  obtain ⟨t1, t2, ⟨q, t3, t4, t5, t6⟩, -⟩ := k2 u hu
  have hm := rd_max j hj
  have hsm := ps_wd (σ := (sp_workAll σ1 u).2) u
  have e2 : (sp_workAll σ1 (u + 1)).2 = (sp_wd (sp_workAll σ1 u).2 u).2 := rfl
  have e1 : (sp_workAll σ1 (u + 1)).1 = if (sp_wd (sp_workAll σ1 u).2 u).1 = 0 then (sp_workAll σ1 u).1 else (sp_workAll σ1 u).1 + 1 := rfl
  refine ⟨fun a i e ha => (ho a i e (by omega)).trans (k1 a i e ha), fun f hf => ?_, ?_⟩
  · rw [e2]
    by_cases ef : f = u
    · subst ef
      refine ⟨by rw [ho _ _ _ (by omega)]; exact t1, by rw [q7_wd]; exact t2, ⟨q, t3, by rw [ho _ _ _ (by omega)]; exact t4, by rw [(hsm.1 f).1]; exact t5, by rw [(hsm.1 f).2]; exact t6⟩, ?_⟩
      rcases rd_wd hr hj hw t2 h4 hg with ⟨a1, a2, j', w', a3, a4, a5, a6⟩ | ⟨a1, a2, a3⟩
      · rcases h3 with ⟨b1, b2, -⟩ | ⟨b1, -⟩
        · exact Or.inl ⟨j', w', g, a3, a4, a5, hg, a2, b2, by rw [h2, a6]⟩
        · omega
      · rcases h3 with ⟨b1, -⟩ | ⟨b1, b2, -⟩
        · omega
        · exact Or.inr ⟨a2, a3, b2, _, b1, by omega, h2⟩
    · exact (k2 f hf).of (Nat.le_refl _) (fun e => ho _ _ _ (by omega)) (fun e _ => q9_wd ef e)
  · rw [e1]
    rcases rd_wd1 hr hj hw t2 h4 hg with ⟨a1, a2⟩ | ⟨a1, a2⟩
    · rw [if_pos a2]
      rcases h3 with ⟨-, -, b⟩ | ⟨b1, -⟩
      · rw [b]; exact k3
      · omega
    · rw [if_neg (by rw [a2]; decide)]
      rcases h3 with ⟨b1, -⟩ | ⟨-, -, b⟩
      · omega
      · rw [b, k3]
end TGA
theorem qx_dayF {σ : hs_St} {P F g : Nat} (h7 : σ 9 g 7 = 5) (x z : Int32) (b : Nat) : (sp_day σ P F x z).2 9 g b = (sp_workAll (sp_dawn σ P) F).2 9 g b := by
  have p7 : (sp_workAll (sp_dawn σ P) F).2 9 g 7 = 5 := ((q7_workAll g F).trans (q9_dawn P g 7)).trans h7
  have p8 : sp_paid (sp_workAll (sp_dawn σ P) F).2 x 9 g 7 = 5 := (q9_paid x g 7).trans p7
  have e1 : ∀ b, (sp_eve (sp_workAll (sp_dawn σ P) F).2 F x z).2 9 g b = (sp_workAll (sp_dawn σ P) F).2 9 g b := fun b => (q7_wearAll (by rw [p8]; decide) _ _ z b F).trans (q9_paid x g b)
  show sp_tourAll (sp_eve (sp_workAll (sp_dawn σ P) F).2 F x z).2 F 9 g b = _
  rw [q9_tour5 (by rw [e1, p7]) b F, e1]
theorem wear_none {σ : hs_St} (x y z : Int32) : ∀ n, (∀ f, f < n → 5 ≤ σ 9 f 7) → (sp_wearAll σ x y z n).1 = 0
  | 0, _ => rfl
  | n + 1, h => by
    have hs : sp_isShown (sp_wearAll σ x y z n).2 n = 0 := pf_shown (by rw [q7_wearAll (h n (by omega)) x y z 7 n]; exact h n (by omega))
    unfold sp_wearAll
    rw [if_pos hs]
    exact wear_none x y z n (fun f hf => h f (by omega))
theorem dawn_no {σ : hs_St} {P dy : Nat} (hd : σ 0 0 6 = nI dy) (h30 : (dy + 1) % 30 ≠ 0) (hdy : dy < 2 ^ 30) : sp_dawn σ P = hs_sg σ 0 0 6 (nI (dy + 1)) := by
  unfold sp_dawn
  have e1 : σ 0 0 6 + 1 = nI (dy + 1) := by rw [hd, nI_1]
  rw [e1, if_neg]
  rw [show (30 : Int32) = nI 30 from by decide +kernel, tl_rem (by omega) (by decide) (by decide)]
  exact nI_ne0 (by omega) (by omega)
/-- what a day leaves -/
theorem tm_day {P F R : Nat} {n : Nat → Nat} {c c' σ : hs_St} {k dy : Nat} (h : tm P F R n c σ k dy) (h30 : (dy + 1) % 30 ≠ 0) (hdy : dy < 2 ^ 30) (x z : Int32) {many : Int32} (hA : tl_gA (hs_sg c 0 0 10 (nI (dy + 1))) P F c' (sp_dawn σ P) F many) {c2 : hs_St} (ho : ∀ a i e, ¬ (a = 0 ∧ i = 0 ∧ (e = 12 ∨ e = 14)) → c2 a i e = c' a i e) : tm P F R n c2 (sp_day σ P F x z).2 k (dy + 1) ∧ many = (sp_day σ P F x z).1 ∧ ∀ f, f < F → c2 16 f 6 = 5 := by
  obtain ⟨hN, hk, hd, hd2, hp, hf⟩ := h
  obtain ⟨a1, a2, a3⟩ := hA
  have ed := dawn_no (P := P) hd2 h30 hdy
  have h5 : ∀ f, f < F → σ 9 f 7 = 5 := fun f hff => (hf f hff).2.1
  have e0 : c2 0 0 2 = nI k := by
    rw [ho _ _ _ (by omega), a1 _ _ _ (by omega), pc_sg, if_neg (by omega)]
    exact hk
  have e10 : c2 0 0 10 = nI (dy + 1) := by
    rw [ho _ _ _ (by omega), a1 _ _ _ (by omega), pc_sg, if_pos ⟨rfl, rfl, rfl⟩]
  have er : ∀ a i e, a ≠ 0 → a ≠ 16 → c2 a i e = c a i e := fun a i e h0 h16 => by
    rw [ho _ _ _ (by omega), a1 _ _ _ h16, pc_sg, if_neg (by omega)]
  have es : ∀ a i e, a = 6 ∨ a = 7 ∨ a = 8 → (sp_day σ P F x z).2 a i e = σ a i e := fun a i e ha => by
    rw [qk_day a (by omega) (by omega) i e (by omega), ed, pc_sg, if_neg (by omega)]
  refine ⟨⟨hN, e0, e10, ?_, fun q hq => (hp q hq).of (fun j => ⟨er _ _ _ (by omega) (by omega), er _ _ _ (by omega) (by omega), er _ _ _ (by omega) (by omega)⟩) (fun j => ⟨es _ _ _ (by omega), es _ _ _ (by omega), es _ _ _ (by omega)⟩), fun f hff => (a2 f hff).of (Nat.le_refl _) (fun j => ho _ _ _ (by omega)) (fun j _ => qx_dayF (h5 f hff) x z j)⟩, ?_, fun f hff => by rw [ho _ _ _ (by omega)]; exact (a2 f hff).1⟩
  · rw [qk_day 0 (by omega) (by omega) 0 6 (by omega), ed, pc_sg, if_pos ⟨rfl, rfl, rfl⟩]
  · have ew : (sp_eve (sp_workAll (sp_dawn σ P) F).2 F x z).1 = 0 := wear_none _ _ z F (fun f hff => by
      rw [q9_paid, q7_workAll, q9_dawn, h5 f hff]
      decide)
    show many = (sp_workAll (sp_dawn σ P) F).1 + (sp_eve (sp_workAll (sp_dawn σ P) F).2 F x z).1
    rw [ew, Int32.add_zero]
    exact a3
