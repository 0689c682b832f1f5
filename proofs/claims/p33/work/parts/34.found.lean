/-! FOUNDING: what Told's account and the house's own say of each other -/
def tl_held (k m : Int32) : Int32 := if k < 0 then 0 else if m < k then m else k
theorem nI_mod31 {n : Nat} (h : n < 2 ^ 31) : nI n + 1 = nI (n + 1) := nI_1 n
theorem hs_ok.sgp {P F R : Nat} {σ : hs_St} (h : hs_ok P F R σ) (k i j : Nat) (v : Int32) (hk : 4 ≤ k) (h9 : k ≠ 9) : hs_ok P F R (hs_sg σ k i j v) := h.of ⟨by rw [pc_sg, if_neg (by omega)], by rw [pc_sg, if_neg (by omega)], by rw [pc_sg, if_neg (by omega)]⟩ (fun f hf => ⟨by rw [pc_sg, if_neg (by omega)], by rw [pc_sg, if_neg (by omega)], Or.inl (by rw [pc_sg, if_neg (by omega)]), Or.inl (by rw [pc_sg, if_neg (by omega)])⟩)
theorem hs_ok.sgf {P F R : Nat} {σ : hs_St} (h : hs_ok P F R σ) (i j : Nat) (v : Int32) (h0 : j ≠ 0) (h1 : j ≠ 1) (h2 : j ≠ 2) (h7 : j ≠ 7) : hs_ok P F R (hs_sg σ 9 i j v) := h.of ⟨by rw [pc_sg, if_neg (by omega)], by rw [pc_sg, if_neg (by omega)], by rw [pc_sg, if_neg (by omega)]⟩ (fun f hf => ⟨by rw [pc_sg, if_neg (by omega)], by rw [pc_sg, if_neg (by omega)], Or.inl (by rw [pc_sg, if_neg (by omega)]), Or.inl (by rw [pc_sg, if_neg (by omega)])⟩)
/-- a figure, as both keep it -/
def tm_F (P : Nat) (c σ : hs_St) (f : Nat) : Prop := c 16 f 6 = 5 ∧ σ 9 f 7 = 5 ∧ (∃ q, q < P ∧ c 16 f 0 = nI q ∧ σ 9 f 0 = nI q ∧ σ 9 f 1 = nI q) ∧ ((∃ j w h, rd σ f j w ∧ j < 6 ∧ w < rd_w j ∧ h ≤ 9 ∧ σ 9 f 4 = nI h ∧ c 16 f 3 = nI h ∧ c 16 f 2 = nI (rd_S j + w)) ∨ (σ 9 f 2 = nI 6 ∧ σ 9 f 4 = 0 ∧ c 16 f 3 = 0 ∧ ∃ W, 36 ≤ W ∧ W < 100 ∧ c 16 f 2 = nI W))
theorem tm_F.of {P P2 : Nat} {c c2 σ σ2 : hs_St} {f : Nat} (h : tm_F P c σ f) (hP : P ≤ P2) (hc : ∀ j, c2 16 f j = c 16 f j) (hs : ∀ j, j ≤ 4 ∨ j = 7 → σ2 9 f j = σ 9 f j) : tm_F P2 c2 σ2 f := by
  obtain ⟨h1, h2, ⟨q, h3, h4, h5, h6⟩, h7⟩ := h
  refine ⟨by rw [hc]; exact h1, by rw [hs 7 (Or.inr rfl)]; exact h2, ⟨q, by omega, by rw [hc]; exact h4, by rw [hs 0 (Or.inl (by omega))]; exact h5, by rw [hs 1 (Or.inl (by omega))]; exact h6⟩, ?_⟩
  rcases h7 with ⟨j, w, h, ⟨a1, a2⟩, b, e, g, k, m, o⟩ | ⟨a, b, e, W, g, k, m⟩
  · exact Or.inl ⟨j, w, h, ⟨by rw [hs 2 (Or.inl (by omega))]; exact a1, by rw [hs 3 (Or.inl (by omega))]; exact a2⟩, b, e, g, by rw [hs 4 (Or.inl (by omega))]; exact k, by rw [hc]; exact m, by rw [hc]; exact o⟩
  · exact Or.inr ⟨by rw [hs 2 (Or.inl (by omega))]; exact a, by rw [hs 4 (Or.inl (by omega))]; exact b, by rw [hc]; exact e, W, g, k, by rw [hc]; exact m⟩
/-- a person, as both keep it -/
def tm_P (c σ : hs_St) (q : Nat) : Prop := (∀ j, j < 3 → c 12 q j = σ 6 q j) ∧ ∀ j, j < 6 → c 14 q j = σ 7 q j ∧ c 15 q j = σ 8 q j ∧ 0 ≤ σ 7 q j ∧ σ 8 q j ≤ 99
theorem tm_P.of {c c2 σ σ2 : hs_St} {q : Nat} (h : tm_P c σ q) (hc : ∀ j, c2 12 q j = c 12 q j ∧ c2 14 q j = c 14 q j ∧ c2 15 q j = c 15 q j) (hs : ∀ j, σ2 6 q j = σ 6 q j ∧ σ2 7 q j = σ 7 q j ∧ σ2 8 q j = σ 8 q j) : tm_P c2 σ2 q := ⟨fun j hj => by rw [(hc j).1, (hs j).1]; exact h.1 j hj, fun j hj => by rw [(hc j).2.1, (hc j).2.2, (hs j).2.1, (hs j).2.2]; exact h.2 j hj⟩
def tm_N (P F R : Nat) (n : Nat → Nat) : Prop := n 1 = P ∧ n 2 = P ∧ n 3 = P ∧ n 4 = P ∧ n 5 = P ∧ n 6 = F ∧ n 7 = R
/-- Told's account against a house's state -/
def tm (P F R : Nat) (n : Nat → Nat) (c σ : hs_St) (k dy : Nat) : Prop := tm_N P F R n ∧ c 0 0 2 = nI k ∧ c 0 0 10 = nI dy ∧ σ 0 0 6 = nI dy ∧ (∀ q, q < P → tm_P c σ q) ∧ ∀ f, f < F → tm_F P c σ f
/-- what holds while a house is founded -/
def tg (P F R : Nat) (n : Nat → Nat) (c σ : hs_St) (k dy : Nat) : Prop := hs_ok P F R σ ∧ pd P F R σ ∧ tm P F R n c σ k dy
section TG
variable {P F R : Nat} {n n' : Nat → Nat} {c c' σ : hs_St} {k k' dy : Nat}
theorem tg_draw (h : tg P F R n c σ k dy) (h2 : c' 0 0 2 = nI k') (ho : ∀ a b e, a ≠ 0 → c' a b e = c a b e) (h10 : c' 0 0 10 = c 0 0 10) : tg P F R n c' σ k' dy := ⟨h.1, h.2.1, h.2.2.1, h2, by rw [h10]; exact h.2.2.2.2.1, h.2.2.2.2.2.1, fun q hq => (h.2.2.2.2.2.2.1 q hq).of (fun j => ⟨ho _ _ _ (by omega), ho _ _ _ (by omega), ho _ _ _ (by omega)⟩) (fun _ => ⟨rfl, rfl, rfl⟩), fun f hf => (h.2.2.2.2.2.2.2 f hf).of (Nat.le_refl _) (fun j => ho _ _ _ (by omega)) (fun _ _ => rfl)⟩
theorem tg_person (h : tg P F R n c σ k dy) (hP9 : P < 10) (x y z : Int32) (hn : tm_N (P + 1) F R n') (h2 : c' 0 0 2 = nI k') (h10 : c' 0 0 10 = c 0 0 10) (ho : ∀ a q j, a = 12 ∨ a = 14 ∨ a = 15 → q < P → c' a q j = c a q j) (h12 : ∀ j, j < 3 → c' 12 P j = 0) (h14 : ∀ j, j < 6 → c' 14 P j = 0) (h15 : ∀ j, j < 6 → c' 15 P j = 99) (hf : ∀ f j, c' 16 f j = c 16 f j) : tg (P + 1) F R n' c' (sp_newP σ P x y z) k' dy := by
  obtain ⟨hok, hpd, hN, -, hd, hd2, hp, hfg⟩ := h
  have hs : ∀ a q j, a ≠ 5 → ¬ (a = 0 ∧ q = 0 ∧ j = 3) → sp_newP σ P x y z a q j = σ a q j := fun a q j h1 h2 => by
    unfold sp_newP
    rw [pc_sg, if_neg (by omega), pc_sg, if_neg (by omega), pc_sg, if_neg (by omega), pc_sg, if_neg (by omega)]
  obtain ⟨o1, o2, o3, o4, o5, o6, o7⟩ := hok
  refine ⟨⟨by omega, o2, o3, ?_, ?_, ?_, fun f hf8 => ?_⟩, ?_, hn, h2, by rw [h10]; exact hd, by rw [hs _ _ _ (by omega) (by omega)]; exact hd2, fun q hq => ?_, fun f hf8 => (hfg f hf8).of (by omega) (fun j => hf f j) (fun j _ => hs _ _ _ (by omega) (by omega))⟩
  · unfold sp_newP
    rw [pc_sg, if_neg (by omega), pc_sg, if_neg (by omega), pc_sg, if_neg (by omega), pc_sg, if_pos ⟨rfl, rfl, rfl⟩, nI_1]
  · rw [hs _ _ _ (by omega) (by omega)]; exact o5
  · rw [hs _ _ _ (by omega) (by omega)]; exact o6
  · rw [hs _ _ _ (by omega) (by omega), hs _ _ _ (by omega) (by omega), hs _ _ _ (by omega) (by omega), hs _ _ _ (by omega) (by omega)]
    exact o7 f hf8
  · have h1 : pd (P + 1) F R σ := hpd.mono (by omega) (Nat.le_refl _) (Nat.le_refl _)
    exact (((h1.sg 0 0 3 _ (pd_l0 (by decide) (by decide))).sg 5 P 0 _ (pd_l5 (by omega) (by decide))).sg 5 P 1 _ (pd_l5 (by omega) (by decide))).sg 5 P 2 _ (pd_l5 (by omega) (by decide))
  · by_cases e : q = P
    · subst e
      refine ⟨fun j hj => ?_, fun j hj => ?_⟩
      · rw [h12 j hj, hs _ _ _ (by omega) (by omega), hpd 6 q j (by unfold pd_live; omega)]
        rfl
      · rw [h14 j hj, h15 j hj, hs _ _ _ (by omega) (by omega), hs _ _ _ (by omega) (by omega), hpd 7 q j (by unfold pd_live; omega), hpd 8 q j (by unfold pd_live; omega)]
        refine ⟨rfl, rfl, ?_, ?_⟩
        · show (0 : Int32) ≤ 0
          decide
        · show (99 : Int32) ≤ 99
          decide
    · exact (hp q (by omega)).of (fun j => ⟨ho _ _ _ (by omega) (by omega), ho _ _ _ (by omega) (by omega), ho _ _ _ (by omega) (by omega)⟩) (fun j => ⟨hs _ _ _ (by omega) (by omega), hs _ _ _ (by omega) (by omega), hs _ _ _ (by omega) (by omega)⟩)
theorem tg_trend (h : tg P F R n c σ k dy) (q j : Nat) (hq : q < P) (hj : j < 3) (x : Int32) (h2 : c' 0 0 2 = nI k') (h10 : c' 0 0 10 = c 0 0 10) (ho : ∀ a i e, a ≠ 0 → ¬ (a = 12 ∧ i = q ∧ e = j) → c' a i e = c a i e) (hx : c' 12 q j = x) : tg P F R n c' (hs_sg σ 6 q j x) k' dy := by
  obtain ⟨hok, hpd, hN, -, hd, hd2, hp, hfg⟩ := h
  refine ⟨hok.sgp 6 q j x (by omega) (by omega), hpd.sg 6 q j x (pd_l6 hq hj), hN, h2, by rw [h10]; exact hd, by rw [pc_sg, if_neg (by omega)]; exact hd2, fun i hi => ?_, fun f hf8 => (hfg f hf8).of (Nat.le_refl _) (fun e => ho _ _ _ (by omega) (by omega)) (fun e _ => by rw [pc_sg, if_neg (by omega)])⟩
  refine ⟨fun e he => ?_, fun e he => ?_⟩
  · by_cases z : i = q ∧ e = j
    · obtain ⟨rfl, rfl⟩ := z
      rw [hx, pc_sg, if_pos ⟨rfl, rfl, rfl⟩]
    · rw [ho _ _ _ (by omega) (by omega), pc_sg, if_neg (by omega)]
      exact (hp i hi).1 e he
  · rw [ho _ _ _ (by omega) (by omega), ho _ _ _ (by omega) (by omega), pc_sg, if_neg (by omega), pc_sg, if_neg (by omega)]
    exact (hp i hi).2 e he
theorem tg_consent (h : tg P F R n c σ k dy) (q : Nat) (hq : q < P) (x : Int32) (ho : ∀ a i e, ¬ (a = 13) → c' a i e = c a i e) : tg P F R n c' (hs_sg σ 4 q 5 x) k dy := by
  obtain ⟨hok, hpd, hN, hk, hd, hd2, hp, hfg⟩ := h
  exact ⟨hok.sgp 4 q 5 x (by omega) (by omega), hpd.sg 4 q 5 x (pd_l4 hq (by omega) (by omega)), hN, by rw [ho _ _ _ (by omega)]; exact hk, by rw [ho _ _ _ (by omega)]; exact hd, by rw [pc_sg, if_neg (by omega)]; exact hd2, fun i hi => (hp i hi).of (fun j => ⟨ho _ _ _ (by omega), ho _ _ _ (by omega), ho _ _ _ (by omega)⟩) (fun j => ⟨by rw [pc_sg, if_neg (by omega)], by rw [pc_sg, if_neg (by omega)], by rw [pc_sg, if_neg (by omega)]⟩), fun f hf8 => (hfg f hf8).of (Nat.le_refl _) (fun e => ho _ _ _ (by omega)) (fun e _ => by rw [pc_sg, if_neg (by omega)])⟩
theorem tg_room (h : tg P F R n c σ k dy) (hR : R < 5) (x y : Int32) (hn : tm_N P F (R + 1) n') (ho : ∀ a i e, ¬ (a = 17) → c' a i e = c a i e) : tg P F (R + 1) n' c' (sp_newR σ R x y) k dy := by
  obtain ⟨hok, hpd, hN, hk, hd, hd2, hp, hfg⟩ := h
  have hs : ∀ a q j, a ≠ 10 → ¬ (a = 0 ∧ q = 0 ∧ j = 5) → sp_newR σ R x y a q j = σ a q j := fun a q j h1 h2 => by
    unfold sp_newR
    rw [pc_sg, if_neg (by omega), pc_sg, if_neg (by omega), pc_sg, if_neg (by omega)]
  obtain ⟨o1, o2, o3, o4, o5, o6, o7⟩ := hok
  refine ⟨⟨o1, o2, by omega, ?_, ?_, ?_, fun f hf8 => ?_⟩, ?_, hn, by rw [ho _ _ _ (by omega)]; exact hk, by rw [ho _ _ _ (by omega)]; exact hd, by rw [hs _ _ _ (by omega) (by omega)]; exact hd2, fun i hi => (hp i hi).of (fun j => ⟨ho _ _ _ (by omega), ho _ _ _ (by omega), ho _ _ _ (by omega)⟩) (fun j => ⟨hs _ _ _ (by omega) (by omega), hs _ _ _ (by omega) (by omega), hs _ _ _ (by omega) (by omega)⟩), fun f hf8 => (hfg f hf8).of (Nat.le_refl _) (fun e => ho _ _ _ (by omega)) (fun e _ => hs _ _ _ (by omega) (by omega))⟩
  · rw [hs _ _ _ (by omega) (by omega)]; exact o4
  · rw [hs _ _ _ (by omega) (by omega)]; exact o5
  · unfold sp_newR
    rw [pc_sg, if_neg (by omega), pc_sg, if_neg (by omega), pc_sg, if_pos ⟨rfl, rfl, rfl⟩, nI_1]
  · rw [hs _ _ _ (by omega) (by omega), hs _ _ _ (by omega) (by omega), hs _ _ _ (by omega) (by omega), hs _ _ _ (by omega) (by omega)]
    obtain ⟨p1, p2, p3⟩ := o7 f hf8
    exact ⟨p1, p2, p3.imp id (fun z => z.imp id (fun ⟨r, z1, z2⟩ => ⟨r, by omega, z2⟩))⟩
  · have h1 : pd P F (R + 1) σ := hpd.mono (Nat.le_refl _) (Nat.le_refl _) (by omega)
    exact ((h1.sg 0 0 5 _ (pd_l0 (by decide) (by decide))).sg 10 R 0 _ (pd_l10 (by omega) (by decide))).sg 10 R 1 _ (pd_l10 (by omega) (by decide))
theorem tg_figure (h : tg P F R n c σ k dy) (hF : F < 8) (q : Nat) (hq : q < P) (hn : tm_N P (F + 1) R n') (ho : ∀ a i e, ¬ (a = 16 ∧ i = F) → c' a i e = c a i e) (h0 : c' 16 F 0 = nI q) (h2 : c' 16 F 2 = 0) (h3 : c' 16 F 3 = 0) (h6 : c' 16 F 6 = 5) : tg P (F + 1) R n' c' (sp_newF σ F q) k dy := by
  obtain ⟨hok, hpd, hN, hk, hd, hd2, hp, hfg⟩ := h
  have hs : ∀ a i j, ¬ (a = 9 ∧ i = F ∧ j < 2) → ¬ (a = 0 ∧ i = 0 ∧ j = 4) → sp_newF σ F q a i j = σ a i j := fun a i j h1 h2 => by
    unfold sp_newF
    rw [pc_sg, if_neg (by omega), pc_sg, if_neg (by omega), pc_sg, if_neg (by omega)]
  have hs0 : sp_newF σ F q 9 F 0 = nI q := by
    unfold sp_newF
    rw [pc_sg, if_neg (by omega), pc_sg, if_pos ⟨rfl, rfl, rfl⟩]
  have hs1 : sp_newF σ F q 9 F 1 = nI q := by
    unfold sp_newF
    rw [pc_sg, if_pos ⟨rfl, rfl, rfl⟩]
  obtain ⟨o1, o2, o3, o4, o5, o6, o7⟩ := hok
  have hdead : ∀ j, σ 9 F j = rc_s 9 F j := fun j => hpd 9 F j (by unfold pd_live; omega)
  refine ⟨⟨o1, by omega, o3, ?_, ?_, ?_, fun f hf8 => ?_⟩, ?_, hn, by rw [ho _ _ _ (by omega)]; exact hk, by rw [ho _ _ _ (by omega)]; exact hd, by rw [hs _ _ _ (by omega) (by omega)]; exact hd2, fun i hi => (hp i hi).of (fun j => ⟨ho _ _ _ (by omega), ho _ _ _ (by omega), ho _ _ _ (by omega)⟩) (fun j => ⟨hs _ _ _ (by omega) (by omega), hs _ _ _ (by omega) (by omega), hs _ _ _ (by omega) (by omega)⟩), fun f hf8 => ?_⟩
  · rw [hs _ _ _ (by omega) (by omega)]; exact o4
  · unfold sp_newF
    rw [pc_sg, if_neg (by omega), pc_sg, if_neg (by omega), pc_sg, if_pos ⟨rfl, rfl, rfl⟩, nI_1]
  · rw [hs _ _ _ (by omega) (by omega)]; exact o6
  · obtain ⟨p1, p2, p3⟩ := o7 f hf8
    refine ⟨?_, ?_, ?_⟩
    · by_cases e : f = F
      · subst e
        rw [hs0, hs1, nI_clamp (by omega)]
        exact ⟨by omega, by omega⟩
      · rw [hs _ _ _ (by omega) (by omega), hs _ _ _ (by omega) (by omega)]
        exact p1
    · rw [hs _ _ _ (by omega) (by omega)]
      exact p2
    · rw [hs _ _ _ (by omega) (by omega)]
      exact p3
  · have h1 : pd P (F + 1) R σ := hpd.mono (Nat.le_refl _) (by omega) (Nat.le_refl _)
    exact ((h1.sg 0 0 4 _ (pd_l0 (by decide) (by decide))).sg 9 F 0 _ (pd_l9 (by omega) (by decide))).sg 9 F 1 _ (pd_l9 (by omega) (by decide))
  · by_cases e : f = F
    · subst e
      refine ⟨h6, by rw [hs _ _ _ (by omega) (by omega), hdead]; rfl, ⟨q, hq, h0, hs0, hs1⟩, Or.inl ⟨0, 0, 0, ⟨?_, ?_⟩, by decide, by decide, by decide, ?_, ?_, ?_⟩⟩
      · rw [hs _ _ _ (by omega) (by omega), hdead]; rfl
      · rw [hs _ _ _ (by omega) (by omega), hdead]; rfl
      · rw [hs _ _ _ (by omega) (by omega), hdead]; rfl
      · rw [h3]; rfl
      · rw [h2]; rfl
    · exact (hfg f (by omega)).of (Nat.le_refl _) (fun j => ho _ _ _ (by omega)) (fun j hj => hs _ _ _ (by omega) (by omega))
theorem tg_work (h : tg P F R n c σ k dy) (f : Nat) (hf : f < F) (x : Nat) (hx : x ≤ 9) (hs6 : ¬ σ 9 f 2 = nI 6) (ho : ∀ a i e, ¬ (a = 16 ∧ i = f ∧ e = 3) → c' a i e = c a i e) (h3 : c' 16 f 3 = nI x) : tg P F R n c' (hs_sg σ 9 f 4 (nI x)) k dy := by
  obtain ⟨hok, hpd, hN, hk, hd, hd2, hp, hfg⟩ := h
  refine ⟨hok.sgf f 4 _ (by omega) (by omega) (by omega) (by omega), hpd.sg 9 f 4 _ (pd_l9 hf (by omega)), hN, by rw [ho _ _ _ (by omega)]; exact hk, by rw [ho _ _ _ (by omega)]; exact hd, by rw [pc_sg, if_neg (by omega)]; exact hd2, fun i hi => (hp i hi).of (fun j => ⟨ho _ _ _ (by omega), ho _ _ _ (by omega), ho _ _ _ (by omega)⟩) (fun j => ⟨by rw [pc_sg, if_neg (by omega)], by rw [pc_sg, if_neg (by omega)], by rw [pc_sg, if_neg (by omega)]⟩), fun g hg => ?_⟩
  by_cases e : g = f
  · subst e
    obtain ⟨a1, a2, ⟨q, a3, a4, a5, a6⟩, a7⟩ := hfg g hg
    refine ⟨by rw [ho _ _ _ (by omega)]; exact a1, by rw [pc_sg, if_neg (by omega)]; exact a2, ⟨q, a3, by rw [ho _ _ _ (by omega)]; exact a4, by rw [pc_sg, if_neg (by omega)]; exact a5, by rw [pc_sg, if_neg (by omega)]; exact a6⟩, ?_⟩
    rcases a7 with ⟨j, w, h, ⟨b1, b2⟩, b3, b4, b5, b6, b7, b8⟩ | ⟨b1, -⟩
    · exact Or.inl ⟨j, w, x, ⟨by rw [pc_sg, if_neg (by omega)]; exact b1, by rw [pc_sg, if_neg (by omega)]; exact b2⟩, b3, b4, hx, by rw [pc_sg, if_pos ⟨rfl, rfl, rfl⟩], h3, by rw [ho _ _ _ (by omega)]; exact b8⟩
    · exact absurd b1 hs6
  · exact (hfg g hg).of (Nat.le_refl _) (fun j => ho _ _ _ (by omega)) (fun j _ => by rw [pc_sg, if_neg (by omega)])
end TG
