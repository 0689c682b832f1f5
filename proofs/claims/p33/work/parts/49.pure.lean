/-! THE LAW'S HOUSE: what holds of it from round to round -/
theorem lp_done {σ : hs_St} {f : Nat} (h : ¬ sp_likeness σ f < 30) : ¬ sp_isDone σ f = 0 := fun z => h (by unfold sp_likeness; rw [if_pos z]; decide)
theorem lp_six {σ : hs_St} {f : Nat} (h : ¬ sp_isDone σ f = 0) : σ 9 f 2 = 6 := by
  unfold sp_isDone at h
  by_cases e : σ 9 f 2 = 6
  · exact e
  · rw [if_neg e] at h
    exact absurd rfl h
theorem lp_fin (σ : hs_St) (x y : Int32) : ∀ n, ∃ k, k ≤ n ∧ sp_figIn σ x y n = nI k
  | 0 => ⟨0, Nat.le_refl _, rfl⟩
  | n + 1 => by
    obtain ⟨k, h1, h2⟩ := lp_fin σ x y n
    unfold sp_figIn
    by_cases a : σ 9 n 7 < x
    · rw [if_pos a]
      exact ⟨k, by omega, h2⟩
    · rw [if_neg a]
      by_cases b : y < σ 9 n 7
      · rw [if_pos b]
        exact ⟨k, by omega, h2⟩
      · rw [if_neg b, h2, nI_1]
        exact ⟨k + 1, by omega, rfl⟩
theorem lp_free {σ : hs_St} {r n : Nat} (hn : n ≤ 8) (h0 : 0 ≤ σ 10 r 1) (h : ¬ σ 10 r 1 - sp_figIn σ (nI r) (nI r) n ≤ 0) : ¬ σ 10 r 1 ≤ sp_figIn σ (nI r) (nI r) n := by
  obtain ⟨k, h1, h2⟩ := lp_fin σ (nI r) (nI r) n
  rw [h2] at h ⊢
  intro z
  have hk := nI_toInt (n := k) (by omega)
  rw [Int32.le_iff_toInt_le] at z h0
  rw [show (0 : Int32).toInt = 0 from by decide] at h0
  have e := bn_sub (x := σ 10 r 1) (y := nI k) ⟨h0, by omega⟩ ⟨by omega, by omega⟩
  apply h
  rw [Int32.le_iff_toInt_le, e, show (0 : Int32).toInt = 0 from by decide]
  omega
theorem lp_sf (σ : hs_St) (q : Nat) : ∀ k n, sp_shownFrom σ q k n = -1 ∨ ∃ m, m < n + k ∧ sp_shownFrom σ q k n = nI m
  | 0, n => Or.inl rfl
  | k + 1, n => by
    have ih := lp_sf σ q k (n + 1)
    have ih2 : sp_shownFrom σ q k (n + 1) = -1 ∨ ∃ m, m < n + (k + 1) ∧ sp_shownFrom σ q k (n + 1) = nI m := by
      rcases ih with e | ⟨m, h1, e⟩
      · exact Or.inl e
      · exact Or.inr ⟨m, by omega, e⟩
    unfold sp_shownFrom
    by_cases a : (σ 9 n 0).toNatClampNeg = q
    · rw [if_pos a]
      by_cases b : sp_isShown σ n = 0
      · rw [if_pos b]
        exact ih2
      · rw [if_neg b]
        exact Or.inr ⟨n, by omega, rfl⟩
    · rw [if_neg a]
      exact ih2
theorem lp_no {σ : hs_St} {q n : Nat} (hn : n ≤ 8) (h : ¬ 0 ≤ sp_shownFrom σ q n 0) : sp_shownFrom σ q n 0 = -1 := by
  rcases lp_sf σ q n 0 with e | ⟨m, h1, e⟩
  · exact e
  · rw [e] at h
    exact absurd (nI_pos' (by omega)) h
def lw_4 (σ : hs_St) : Prop := (σ 9 4 2 = nI 6 ∧ σ 9 4 4 = 0) ∨ ∃ j w h, rd σ 4 j w ∧ j < 6 ∧ w < rd_w j ∧ h ≤ 9 ∧ σ 9 4 4 = nI h ∧ σ 9 4 7 = 5
/-- a house between the law's rounds, on day dd -/
def lw_I (σ : hs_St) (dd : Nat) : Prop := hs_ok 4 5 3 σ ∧ pd 4 5 3 σ ∧ pd_nn 5 σ ∧ pd_hd 4 5 σ ∧ (∀ q, σ 4 q 5 = 0 ∨ σ 4 q 5 = 1) ∧ (∀ f, f < 5 → 0 ≤ σ 9 f 7) ∧ (∀ f, f < 4 → σ 9 f 2 = nI 6 ∧ σ 9 f 4 = 0) ∧ lw_4 σ ∧ σ 0 0 6 = nI dd ∧ ∀ r, r < 3 → 0 ≤ σ 10 r 1
def lw_V (τ : hs_St) : Prop := tr_ok 3 τ ∧ pd 4 5 3 τ
theorem lw_V0 : lw_V rc_s := ⟨⟨0, 0, 0, rc_s_ok, by decide⟩, pd_start.mono (by decide) (by decide) (by decide)⟩
theorem lw_Vd {σ τ : hs_St} {dd : Nat} (h : lw_I σ dd) (hV : lw_V τ) : lw_V (sp_dig σ τ 4 5 3).2 := ⟨by unfold sp_dig; dsimp only; exact sp_gFs_ok h.1 hV.1 _ 5, pd_dig2 h.2.1 h.2.2.1 h.2.2.2.1 hV.2⟩
theorem lw_Vm {σ τ : hs_St} {dd : Nat} (h : lw_I σ dd) (hV : lw_V τ) (f : Nat) (x z : Int32) : lw_V (sp_mIn σ τ 4 5 3 f x z).2 := ⟨sp_mIn_ok h.1 hV.1 f x z, pd_mIn2 h.2.1 hV.2 h.2.2.1 h.2.2.2.1 f x z⟩
theorem lw_dig {σ τ1 τ2 : hs_St} {dd : Nat} (h : lw_I σ dd) (h1 : lw_V τ1) (h2 : lw_V τ2) : (sp_dig σ τ1 4 5 3).1 = (sp_dig σ τ2 4 5 3).1 := pd_dig h.2.1 h.2.2.1 h.2.2.2.1 h1.2 h2.2
/-- a figure is shown, if it may be -/
def lw_sh (σ : hs_St) (f r : Nat) : hs_St := if ¬ sp_ofF σ f 7 < 30 ∧ sp_ofF σ f 8 = 5 ∧ sp_ofP σ 5 (σ 9 f 0).toNatClampNeg 6 = 1 ∧ ¬ 0 ≤ sp_ofP σ 5 (σ 9 f 0).toNatClampNeg 10 ∧ ¬ sp_ofR σ 5 r 2 ≤ 0 then hs_sg σ 9 f 7 (nI r) else σ
theorem lw_I_sh {σ : hs_St} {dd : Nat} (h : lw_I σ dd) {f r : Nat} (hf : f < 5) (hr : r < 3) : lw_I (lw_sh σ f r) dd := by
  unfold lw_sh
  split
  case isFalse => exact h
  case isTrue hc =>
    obtain ⟨c1, c2, c3, c4, c5⟩ := hc
    have h6 : σ 9 f 2 = 6 := lp_six (lp_done c1)
    obtain ⟨⟨o1, o2, o3, o4, o5, o6, o7⟩, h2, h3, h4, h5, hp, h7, h8, h9, h10⟩ := h
    refine ⟨⟨o1, o2, o3, by rw [pc_sg, if_neg (by omega)]; exact o4, by rw [pc_sg, if_neg (by omega)]; exact o5, by rw [pc_sg, if_neg (by omega)]; exact o6, fun g hg => ?_⟩, h2.sg 9 f 7 _ (pd_l9 hf (by decide)), fun g hg => by rw [pc_sg, if_neg (by omega), pc_sg, if_neg (by omega)]; exact h3 g hg, fun g hg => by rw [pc_sg, if_neg (by omega), pc_sg, if_neg (by omega)]; exact h4 g hg, fun q => by rw [pc_sg, if_neg (by omega)]; exact h5 q, fun g hg => ?_, fun g hg => by rw [pc_sg, if_neg (by omega), pc_sg, if_neg (by omega)]; exact h7 g hg, ?_, by rw [pc_sg, if_neg (by omega)]; exact h9, fun q hq => by rw [pc_sg, if_neg (by omega)]; exact h10 q hq⟩
    · obtain ⟨p1, p2, p3⟩ := o7 g hg
      refine ⟨by rw [pc_sg, if_neg (by omega), pc_sg, if_neg (by omega)]; exact p1, by rw [pc_sg, if_neg (by omega)]; exact p2, ?_⟩
      by_cases e : g = f
      · subst e
        rw [pc_sg, if_pos ⟨rfl, rfl, rfl⟩]
        exact Or.inr (Or.inr ⟨r, hr, rfl⟩)
      · rw [pc_sg, if_neg (by omega)]
        exact p3
    · by_cases e : g = f
      · subst e
        rw [pc_sg, if_pos ⟨rfl, rfl, rfl⟩]
        exact nI_pos' (by omega)
      · rw [pc_sg, if_neg (by omega)]
        exact hp g hg
    · rcases h8 with ⟨a, b⟩ | ⟨j, w, hh, ⟨a1, a2⟩, b1, b2, b3, b4, b5⟩
      · exact Or.inl ⟨by rw [pc_sg, if_neg (by omega)]; exact a, by rw [pc_sg, if_neg (by omega)]; exact b⟩
      · have e : f ≠ 4 := fun e => by
          subst e
          rw [h6, sp_six] at a1
          have := (nI_eq (by omega) (by omega)).mp a1
          omega
        exact Or.inr ⟨j, w, hh, ⟨by rw [pc_sg, if_neg (by omega)]; exact a1, by rw [pc_sg, if_neg (by omega)]; exact a2⟩, b1, b2, b3, by rw [pc_sg, if_neg (by omega)]; exact b4, by rw [pc_sg, if_neg (by omega)]; exact b5⟩
theorem lw_hands {σ : hs_St} {dd : Nat} (h : lw_I σ dd) (x : Int32) : sp_hands σ 5 - σ 9 4 4 + x = x := by
  rw [show sp_hands σ 5 = sp_hands σ 4 + σ 9 4 4 from rfl, md_h0 4 (fun f hf => (h.2.2.2.2.2.2.1 f hf).2), Int32.zero_add, Int32.sub_self, Int32.zero_add]
def lw_wk (σ : hs_St) (x : Nat) : hs_St := if sp_ofF σ 4 2 < 6 ∧ ¬ sp_ofF σ 4 8 = 7 then hs_sg σ 9 4 4 (nI x) else σ
theorem lw_I_wk {σ : hs_St} {dd : Nat} (h : lw_I σ dd) {x : Nat} (hx : x ≤ 9) : lw_I (lw_wk σ x) dd := by
  unfold lw_wk
  split
  case isFalse => exact h
  case isTrue hc =>
    obtain ⟨c1, c2⟩ := hc
    have c1 : σ 9 4 2 < 6 := c1
    obtain ⟨h1, h2, h3, h4, h5, hp, h7, h8, h9, h10⟩ := h
    refine ⟨h1.sgf 4 4 _ (by omega) (by omega) (by omega) (by omega), h2.sg 9 4 4 _ (pd_l9 (by omega) (by decide)), fun g hg => by rw [pc_sg, if_neg (by omega), pc_sg, if_neg (by omega)]; exact h3 g hg, fun g hg => by rw [pc_sg, if_neg (by omega), pc_sg, if_neg (by omega)]; exact h4 g hg, fun q => by rw [pc_sg, if_neg (by omega)]; exact h5 q, fun g hg => by rw [pc_sg, if_neg (by omega)]; exact hp g hg, fun g hg => by rw [pc_sg, if_neg (by omega), pc_sg, if_neg (by omega)]; exact h7 g hg, ?_, by rw [pc_sg, if_neg (by omega)]; exact h9, fun q hq => by rw [pc_sg, if_neg (by omega)]; exact h10 q hq⟩
    rcases h8 with ⟨a, b⟩ | ⟨j, w, hh, ⟨a1, a2⟩, b1, b2, b3, b4, b5⟩
    · rw [a] at c1
      exact absurd c1 (by decide +kernel)
    · exact Or.inr ⟨j, w, x, ⟨by rw [pc_sg, if_neg (by omega)]; exact a1, by rw [pc_sg, if_neg (by omega)]; exact a2⟩, b1, b2, hx, by rw [pc_sg, if_pos ⟨rfl, rfl, rfl⟩], by rw [pc_sg, if_neg (by omega)]; exact b5⟩
theorem qr_day (σ : hs_St) (P F a b : Nat) (x z : Int32) : (sp_day σ P F x z).2 10 a b = σ 10 a b := by
  rw [qk_day 10 (by omega) (by omega) a b (by omega)]
  unfold sp_dawn
  split
  · rw [sp_monAll_off _ _ _ _ (by omega), pc_sg, if_neg (by omega)]
  · rw [pc_sg, if_neg (by omega)]
theorem qr_pass (σ : hs_St) (P F a b : Nat) (x z : Int32) : ∀ n, (sp_pass σ P F x z n).2 10 a b = σ 10 a b
  | 0 => rfl
  | n + 1 => (qr_day _ P F a b x z).trans (qr_pass σ P F a b x z n)
theorem lw_I_pass {σ : hs_St} {dd : Nat} (h : lw_I σ dd) (x z : Int32) (M : Nat) (hM : dd + M < 2 ^ 31) : lw_I (sp_pass σ 4 5 x z M).2 (dd + M) := by
  obtain ⟨h1, h2, h3, h4, h5, hp, h7, h8, h9, h10⟩ := h
  have ps := ps_pass (σ := σ) 4 5 x z M
  refine ⟨sp_pass_ok x z h1 M, pd_pass h2 h4 x z M, fun g hg => by rw [(ps.1 g).1, (ps.1 g).2]; exact h3 g hg, h4.of ps, fun q => by rw [q5_pass _ _ (by decide)]; exact h5 q, fun g hg => pl_pass (hp g hg) x z M, fun g hg => ⟨q2_pass (h7 g hg).1 x z M, q4_pass (h7 g hg).1 (h7 g hg).2 x z M⟩, ?_, (qd_pass h9 x z M hM).1, fun q hq => by rw [qr_pass]; exact h10 q hq⟩
  rcases h8 with ⟨a, b⟩ | ⟨j, w, hh, a1, b1, b2, b3, b4, b5⟩
  · exact Or.inl ⟨q2_pass a x z M, q4_pass a b x z M⟩
  · rcases rd_pass (P := 4) (F := 5) (g := 4) (by decide) a1 b1 b2 b5 b4 b3 x z M with ⟨-, e2, e3, j', w', e4, e5, e6, -⟩ | ⟨-, e1, e2⟩
    · exact Or.inr ⟨j', w', hh, e4, e5, e6, b3, e3, e2⟩
    · exact Or.inl ⟨e1, e2⟩
/-- what meltsIn says -/
def lw_m (σ : hs_St) (f : Nat) (x z : Int32) : Int32 := if sp_isShown σ f = 0 then -1 else (sp_td σ 4 5 f x z 60 0).1
theorem lw_m_in (σ : hs_St) (f : Nat) (x z : Int32) : lw_m σ f x z = -1 ∨ ∃ d, 1 ≤ d ∧ d ≤ 60 ∧ lw_m σ f x z = nI d := by
  unfold lw_m
  split
  · exact Or.inl rfl
  · rcases td_says (σ := σ) (P := 4) (F := 5) f x z 60 0 with ⟨e, -⟩ | ⟨d, h1, h2, e, -⟩
    · exact Or.inl e
    · exact Or.inr ⟨d, by omega, by omega, e⟩
theorem px_add (σ : hs_St) (P F : Nat) (x z : Int32) (m : Nat) : ∀ n, (sp_pass σ P F x z (m + n)).2 = (sp_pass (sp_pass σ P F x z m).2 P F x z n).2
  | 0 => rfl
  | n + 1 => by
    show (sp_day (sp_pass σ P F x z (m + n)).2 P F x z).2 = (sp_day (sp_pass (sp_pass σ P F x z m).2 P F x z n).2 P F x z).2
    rw [px_add σ P F x z m n]
theorem lw_m_pos {σ : hs_St} {f : Nat} {x z : Int32} (h : ¬ lw_m σ f x z ≤ 0) {n : Nat} (h1 : 1 ≤ n) (hn : n < 2 ^ 31) : (sp_pass σ 4 5 x z n).2 9 f 7 = 7 ↔ ¬ nI n < lw_m σ f x z := by
  unfold lw_m at h ⊢
  by_cases c : sp_isShown σ f = 0
  · rw [if_pos c] at h
    exact absurd (by decide) h
  · rw [if_neg c] at h ⊢
    rcases td_says (σ := σ) (P := 4) (F := 5) f x z 60 0 with ⟨e, -⟩ | ⟨d, a1, a2, e, a3, a4⟩
    · rw [e] at h
      exact absurd (by decide) h
    · rw [e, nI_ltI hn (by omega)]
      constructor
      · intro k1 k2
        exact a4 n (by omega) k2 k1
      · intro k1
        have : n = d + (n - d) := by omega
        rw [this, px_add]
        exact q7_gone a3 x z _
theorem lw_m_neg {σ : hs_St} {dd f : Nat} {x z : Int32} (hI : lw_I σ dd) (hf : f < 5) (h : lw_m σ f x z < 0) {n : Nat} (hn : n ≤ 60) : (sp_pass σ 4 5 x z n).2 9 f 7 = 7 ↔ σ 9 f 7 = 7 := by
  have hp := hI.2.2.2.2.2.1 f hf
  unfold lw_m at h
  by_cases c : sp_isShown σ f = 0
  · have h5 : 5 ≤ σ 9 f 7 := by
      unfold sp_isShown at c
      by_cases a : σ 9 f 7 < 0
      · rw [Int32.lt_iff_toInt_lt] at a
        rw [Int32.le_iff_toInt_le] at hp
        omega
      · rw [if_neg a] at c
        by_cases b : 5 ≤ σ 9 f 7
        · exact b
        · rw [if_neg b] at c
          exact absurd c (by decide)
    by_cases e : σ 9 f 7 = 7
    · exact ⟨fun _ => e, fun _ => q7_gone e x z n⟩
    · exact ⟨fun k => absurd k (q7_pass h5 e x z n).2, fun k => absurd k e⟩
  · rw [if_neg c] at h
    have e7 : ¬ σ 9 f 7 = 7 := fun e => c (pf_shown (by rw [e]; decide))
    rcases td_says (σ := σ) (P := 4) (F := 5) f x z 60 0 with ⟨-, e⟩ | ⟨d, a1, a2, e, -⟩
    · refine ⟨fun k => ?_, fun k => absurd k e7⟩
      by_cases n0 : n = 0
      · subst n0
        exact k
      · exact absurd k (e n (by omega) (by omega))
    · rw [e] at h
      exact absurd h (nI_pos (by omega))
theorem lw_r_pos {σ : hs_St} {dd : Nat} {x z : Int32} (hI : lw_I σ dd) (h : ¬ sp_days σ 4 ≤ 0) {n : Nat} (hn : n < 2 ^ 31) : (sp_pass σ 4 5 x z n).2 9 4 2 = 6 ↔ ¬ nI n < sp_days σ 4 := by
  rcases hI.2.2.2.2.2.2.2.1 with ⟨a, b⟩ | ⟨j, w, hh, a1, b1, b2, b3, b4, b5⟩
  · exfalso
    apply h
    unfold sp_days sp_isDone
    rw [if_pos (show σ 9 4 2 = 6 from a)]
    by_cases e : σ 9 4 7 = 7
    · rw [if_pos e, if_pos rfl, if_pos e]
      decide
    · rw [if_neg e, if_neg (by decide)]
      decide
  · have gm := rd_max j b1
    rw [rd_days a1 b1 b2 b5 b4 b3] at h ⊢
    by_cases c : hh = 0
    · rw [if_pos c] at h
      exact absurd (by decide) h
    · rw [if_neg c] at h ⊢
      have hq : (36 - (rd_S j + w) + hh - 1) / hh < 2 ^ 31 := Nat.lt_of_le_of_lt (Nat.div_le_self _ _) (by omega)
      rw [nI_ltI hn hq, Nat.not_lt, rd_ceil (by omega) (by omega)]
      rcases rd_pass (P := 4) (F := 5) (g := 4) (by decide) a1 b1 b2 b5 b4 b3 x z n with ⟨e1, e2, e3, j', w', ⟨e4, -⟩, e5, -⟩ | ⟨e1, e2, -⟩
      · constructor
        · intro k
          rw [e4, sp_six] at k
          have := (nI_eq (by omega) (by omega)).mp k
          omega
        · intro k
          omega
      · exact ⟨fun _ => by omega, fun _ => e2⟩
/-- fame as foreseen -/
theorem lw_fame {σ : hs_St} {dd : Nat} (hI : lw_I σ dd) {q : Nat} (hq : q < 4) (x z : Int32) (M : Nat) (hM : dd + M < 2 ^ 31) : (sp_pass σ 4 5 x z M).2 5 q 1 = sp_fame σ q 1 ((dd + M) / 30 - dd / 30) := ((qd_pass (P := 4) (F := 5) hI.2.2.2.2.2.2.2.2.1 x z M hM).2 q 1 hq (by decide)).1
/-- who is next -/
theorem lw_next {σ : hs_St} (h : ¬ (sp_best σ 5 4).1 < 0) : ∃ q, q < 4 ∧ (sp_best σ 5 4).1 = nI q ∧ ¬ σ 4 q 5 = 0 ∧ ∀ p, p < 4 → bn_el σ 5 p → ¬ bn_ah σ p q := by
  rcases bn_inv σ 5 4 (by decide) with ⟨e, -⟩ | ⟨q, hq, e, h1, h2⟩
  · rw [e] at h
    exact absurd (by decide) h
  · exact ⟨q, hq, by rw [e], h1.1, h2⟩
