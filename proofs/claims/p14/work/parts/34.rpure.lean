/-! THE REFERENCE'S DAYS: its functions, what they keep -/
def hs_row (ρ : hs_St) (k i : Nat) (g : Nat → Int32) : hs_St := fun a b j => if a = k ∧ b = i then g j else ρ a b j
theorem mh_W.putG {D : va_G} {cI cB : ClassId} {L : hs_Lo} {A : Nat → Prop} {ρ : hs_St} {H H1 : Heap} (h : mh_W D cI cB L ρ A H) {k i : Nat} (hx : mh_ix k i) {ρ2 : hs_St} (he : va_at D vwCl (L k i, mh_ct cI cB L ρ2 k i) H1) (oq : ∀ q : Nat, q < H.size → q ≠ L k i → H1[q]? = H[q]?) (hs : ∀ k' i', mh_ix k' i' → ¬ (k' = k ∧ i' = i) → ∀ j, ρ2 k' i' j = ρ k' i' j) : mh_W D cI cB L ρ2 A H1 := by
  refine ⟨fun k' i' hx' => ?_, h.2.1, h.2.2⟩
  by_cases e : k' = k ∧ i' = i
  · obtain ⟨rfl, rfl⟩ := e
    exact he
  · have hne : L k' i' ≠ L k i := fun z => e (h.2.2 _ _ _ _ hx' hx z)
    have hc : mh_ct cI cB L ρ2 k' i' = mh_ct cI cB L ρ k' i' := by
      have hf : ρ2 k' i' = ρ k' i' := funext (hs k' i' hx' e)
      unfold mh_ct
      by_cases e0 : k' = 0
      · subst e0
        have hi : i' = 0 := by
          rcases hx' with z | z
          · exact z.2
          · omega
        subst hi
        rw [if_pos rfl, if_pos rfl, hf]
      · rw [if_neg e0, if_neg e0, hf]
    rw [hc]
    exact (h.1 k' i' hx').kept (oq _ (h.1 k' i' hx').lt hne)
def mp_mons (ρ : hs_St) (q : Nat) : Nat → hs_St
  | 0 => ρ
  | n + 1 => hs_row (mp_mons ρ q n) 11 q (mp_month (mp_mons ρ q n 11 q) n)
def mp_monAll (ρ : hs_St) : Nat → hs_St
  | 0 => ρ
  | n + 1 => mp_mons (mp_monAll ρ n) n 3
def mp_dawn (ρ : hs_St) (P : Nat) : hs_St := if ρ 0 0 9 + 1 - (ρ 0 0 9 + 1) / 30 * 30 = 0 then mp_monAll (hs_sg ρ 0 0 9 (ρ 0 0 9 + 1)) P else hs_sg ρ 0 0 9 (ρ 0 0 9 + 1)
def mp_works (ρ : hs_St) : Nat → Int32 × hs_St
  | 0 => (0, ρ)
  | n + 1 => if 6 ≤ (mp_works ρ n).2 14 n 2 then ((mp_works ρ n).1 + 0, (mp_works ρ n).2) else if (mp_works ρ n).2 14 n 7 = 7 then ((mp_works ρ n).1 + 0, (mp_works ρ n).2) else ((mp_works ρ n).1 + (mp_work (mp_works ρ n).2 n).1, (mp_work (mp_works ρ n).2 n).2)
def mp_wadvs (ρ : hs_St) : Nat → Nat
  | 0 => 0
  | n + 1 => if 6 ≤ (mp_works ρ n).2 14 n 2 then mp_wadvs ρ n else if (mp_works ρ n).2 14 n 7 = 7 then mp_wadvs ρ n else mp_wadvs ρ n + mp_wadv (mp_works ρ n).2 n
def mp_come (ρ : hs_St) (x : Int32) : Int32 := x * (100 - 5 * ρ 0 0 11) / 100
def mp_paid (ρ : hs_St) (x : Int32) : hs_St := hs_sg (hs_sg ρ 0 0 10 (ρ 0 0 10 + mp_come ρ x)) 0 0 12 (ρ 0 0 12 + ρ 0 0 11 * mp_come ρ x)
def mp_touch (ρ : hs_St) (all come : Int32) : Nat → Nat → Int32
  | 0 => fun _ => 0
  | n + 1 => upd (mp_touch ρ all come n) n (if all = 0 then 0 else come * mp_draw ρ n / all)
def mp_wears (ρ : hs_St) (g : Nat → Int32) (z : Int32) (c : Int32) : Nat → Int32 × hs_St
  | 0 => (c, ρ)
  | n + 1 => if mp_isShown (mp_wears ρ g z c n).2 n = 0 then ((mp_wears ρ g z c n).1 + 0, (mp_wears ρ g z c n).2) else ((mp_wears ρ g z c n).1 + (mp_wear (mp_wears ρ g z c n).2 n ((mp_wears ρ g z c n).2 14 n 0).toNatClampNeg ((mp_wears ρ g z c n).2 14 n 7).toNatClampNeg (g n) z).1, (mp_wear (mp_wears ρ g z c n).2 n ((mp_wears ρ g z c n).2 14 n 0).toNatClampNeg ((mp_wears ρ g z c n).2 14 n 7).toNatClampNeg (g n) z).2)
def mp_trips (ρ : hs_St) : Nat → hs_St
  | 0 => ρ
  | n + 1 => if mp_trips ρ n 14 n 7 = 6 then mp_trip (mp_trips ρ n) n (mp_trips ρ n 14 n 0).toNatClampNeg (mp_trips ρ n 14 n 9).toNatClampNeg else mp_trips ρ n
theorem mh_ok.of {P F R : Nat} {ρ τ : hs_St} (h : mh_ok P F R ρ) (h0 : τ 0 0 6 = ρ 0 0 6 ∧ τ 0 0 7 = ρ 0 0 7 ∧ τ 0 0 8 = ρ 0 0 8) (hf : ∀ f, f < F → τ 14 f 0 = ρ 14 f 0 ∧ τ 14 f 1 = ρ 14 f 1 ∧ τ 14 f 9 = ρ 14 f 9 ∧ (τ 14 f 2 = ρ 14 f 2 ∨ ∃ j, j ≤ 6 ∧ τ 14 f 2 = nI j) ∧ (τ 14 f 7 = ρ 14 f 7 ∨ τ 14 f 7 = 5 ∨ τ 14 f 7 = 7)) : mh_ok P F R τ := by
  obtain ⟨o1, o2, o3, o4, o5, o6, o7⟩ := h
  refine ⟨o1, o2, o3, h0.1.trans o4, h0.2.1.trans o5, h0.2.2.trans o6, fun f hF => ?_⟩
  obtain ⟨a, b, c, d, e⟩ := o7 f hF
  obtain ⟨h1, h2, h3, h4, h5⟩ := hf f hF
  refine ⟨by rw [h1]; exact a, by rw [h2]; exact b, ?_, ?_, by rw [h3]; exact e⟩
  · rcases h4 with z | z
    · rw [z]; exact c
    · exact z
  · rcases h5 with z | z | z
    · rw [z]; exact d
    · exact Or.inr (Or.inl z)
    · exact Or.inr (Or.inr (Or.inr z))
theorem mh_ok.row {P F R : Nat} {ρ : hs_St} (h : mh_ok P F R ρ) (q : Nat) (g : Nat → Int32) : mh_ok P F R (hs_row ρ 11 q g) := by
  have e : ∀ a b j, a ≠ 11 → hs_row ρ 11 q g a b j = ρ a b j := fun a b j z => if_neg (fun y => z y.1)
  exact h.of ⟨e _ _ _ (by decide), e _ _ _ (by decide), e _ _ _ (by decide)⟩ (fun f _ => ⟨e _ _ _ (by decide), e _ _ _ (by decide), e _ _ _ (by decide), Or.inl (e _ _ _ (by decide)), Or.inl (e _ _ _ (by decide))⟩)
theorem mh_ok.mons {P F R : Nat} {ρ : hs_St} (h : mh_ok P F R ρ) (q : Nat) : ∀ n, mh_ok P F R (mp_mons ρ q n)
  | 0 => h
  | n + 1 => (mh_ok.mons h q n).row q _
theorem mh_ok.monAll {P F R : Nat} {ρ : hs_St} (h : mh_ok P F R ρ) : ∀ n, mh_ok P F R (mp_monAll ρ n)
  | 0 => h
  | n + 1 => (mh_ok.monAll h n).mons n 3
theorem mh_ok.sg0 {P F R : Nat} {ρ : hs_St} (h : mh_ok P F R ρ) (j : Nat) (v : Int32) (hj : 9 ≤ j) : mh_ok P F R (hs_sg ρ 0 0 j v) := h.of ⟨by rw [pc9, if_neg (by omega)], by rw [pc9, if_neg (by omega)], by rw [pc9, if_neg (by omega)]⟩ (fun f _ => ⟨by rw [pc9, if_neg (by omega)], by rw [pc9, if_neg (by omega)], by rw [pc9, if_neg (by omega)], Or.inl (by rw [pc9, if_neg (by omega)]), Or.inl (by rw [pc9, if_neg (by omega)])⟩)
theorem mh_ok.dawn {P F R : Nat} {ρ : hs_St} (h : mh_ok P F R ρ) : mh_ok P F R (mp_dawn ρ P) := by
  unfold mp_dawn
  split
  · exact (h.sg0 9 _ (by decide)).monAll P
  · exact h.sg0 9 _ (by decide)
/-- a day's work touches a figure's step, left, hands, flaw alone -/
theorem mp_step_off (ρ : hs_St) (f a b j : Nat) (h : ¬ (a = 14 ∧ b = f ∧ (j = 2 ∨ j = 3 ∨ j = 5))) : mp_step ρ f a b j = ρ a b j := by
  unfold mp_step mp_put
  split
  · rw [pc9, if_neg (by omega), pc9, if_neg (by omega), pc9, if_neg (by omega)]
  · rw [pc9, if_neg (by omega), pc9, if_neg (by omega)]
theorem mp_step_2 (ρ : hs_St) (f : Nat) : mp_step ρ f 14 f 2 = ρ 14 f 2 + 1 := by
  unfold mp_step mp_put
  split
  · rw [pc9, if_neg (by omega), pc9, if_neg (by omega), pc9, if_pos ⟨rfl, rfl, rfl⟩]
  · rw [pc9, if_neg (by omega), pc9, if_pos ⟨rfl, rfl, rfl⟩]
theorem mp_climb_off (f a b j : Nat) (h : ¬ (a = 14 ∧ b = f ∧ (j = 2 ∨ j = 3 ∨ j = 5))) : ∀ (k : Nat) (w : Int32) (ρ : hs_St), (mp_climb f k w ρ).2 a b j = ρ a b j
  | 0, w, ρ => rfl
  | k + 1, w, ρ => by
    unfold mp_climb
    split
    · rfl
    · split
      · rfl
      · rw [mp_climb_off f a b j h k]
        exact mp_step_off ρ f a b j h
theorem mp_climb_2 (f : Nat) : ∀ (k : Nat) (w : Int32) (ρ : hs_St) (i : Nat), i + k ≤ 6 → ρ 14 f 2 = nI i → ∃ i', i ≤ i' ∧ i' ≤ i + k ∧ (mp_climb f k w ρ).2 14 f 2 = nI i' ∧ i' = i + mp_adv f k w ρ
  | 0, w, ρ, i, h, e => ⟨i, Nat.le_refl _, Nat.le_refl _, e, rfl⟩
  | k + 1, w, ρ, i, h, e => by
    unfold mp_climb mp_adv
    by_cases a : w < ρ 14 f 3
    · rw [if_pos a, if_pos a]
      exact ⟨i, Nat.le_refl _, by omega, e, rfl⟩
    · rw [if_neg a, if_neg a]
      by_cases b : 6 ≤ ρ 14 f 2
      · rw [if_pos b, if_pos b]
        exact ⟨i, Nat.le_refl _, by omega, e, rfl⟩
      · rw [if_neg b, if_neg b]
        obtain ⟨i', h1, h2, h3, h4⟩ := mp_climb_2 f k (w - ρ 14 f 3) (mp_step ρ f) (i + 1) (by omega) (by rw [mp_step_2, e, nI_1])
        exact ⟨i', by omega, by omega, h3, by omega⟩
theorem mp_fin_off (f a b j : Nat) (x : Int32 × hs_St) (h : ¬ (a = 14 ∧ b = f ∧ (j = 3 ∨ j = 4))) : (mp_fin f x).2 a b j = x.2 a b j := by
  unfold mp_fin
  split
  · show hs_sg x.2 14 f 4 0 a b j = _
    rw [pc9, if_neg (by omega)]
  · show hs_sg x.2 14 f 3 _ a b j = _
    rw [pc9, if_neg (by omega)]
theorem mp_work_off (ρ : hs_St) (f a b j : Nat) (h : ¬ (a = 14 ∧ b = f ∧ (j = 2 ∨ j = 3 ∨ j = 4 ∨ j = 5))) : (mp_work ρ f).2 a b j = ρ a b j := by
  unfold mp_work
  rw [mp_fin_off _ _ _ _ _ (by omega), mp_climb_off _ _ _ _ (by omega)]
theorem mp_work_2 (ρ : hs_St) (f i : Nat) (hi : i ≤ 6) (e : ρ 14 f 2 = nI i) : i + mp_wadv ρ f ≤ 6 ∧ (mp_work ρ f).2 14 f 2 = nI (i + mp_wadv ρ f) := by
  have hc : (ρ 14 f 2).toNatClampNeg = i := by rw [e]; exact nI_clamp (by omega)
  unfold mp_work mp_wadv
  rw [hc, mp_fin_off _ _ _ _ _ (by omega)]
  obtain ⟨i', h1, h2, h3, h4⟩ := mp_climb_2 f (6 - i) (ρ 14 f 4) ρ i (by omega) e
  rw [h4] at h3
  exact ⟨by omega, h3⟩
theorem mh_ok.work {P F R : Nat} {ρ : hs_St} (h : mh_ok P F R ρ) {f : Nat} (hf : f < F) : mh_ok P F R (mp_work ρ f).2 := by
  refine h.of ⟨mp_work_off _ _ _ _ _ (by omega), mp_work_off _ _ _ _ _ (by omega), mp_work_off _ _ _ _ _ (by omega)⟩ (fun g _ => ⟨mp_work_off _ _ _ _ _ (by omega), mp_work_off _ _ _ _ _ (by omega), mp_work_off _ _ _ _ _ (by omega), ?_, Or.inl (mp_work_off _ _ _ _ _ (by omega))⟩)
  by_cases e : g = f
  · subst e
    obtain ⟨-, -, ⟨i, hi, ei⟩, -⟩ := h.2.2.2.2.2.2 g hf
    obtain ⟨h1, h2⟩ := mp_work_2 ρ g i hi ei
    exact Or.inr ⟨_, h1, h2⟩
  · exact Or.inl (mp_work_off _ _ _ _ _ (by omega))
theorem mh_ok.works {P F R : Nat} {ρ : hs_St} (h : mh_ok P F R ρ) : ∀ n, n ≤ F → mh_ok P F R (mp_works ρ n).2
  | 0, _ => h
  | n + 1, hn => by
    unfold mp_works
    split
    · exact mh_ok.works h n (by omega)
    · split
      · exact mh_ok.works h n (by omega)
      · exact (mh_ok.works h n (by omega)).work (by omega)
theorem mh_ok.wear {P F R : Nat} {ρ : hs_St} (h : mh_ok P F R ρ) (f q r : Nat) (x z : Int32) : mh_ok P F R (mp_wear ρ f q r x z).2 := by
  have hw : ∀ a b j, ¬ (a = 14 ∧ (j = 10 ∨ j = 6)) → a ≠ 11 → mp_worn ρ f q r x z a b j = ρ a b j := fun a b j h1 h2 => by
    unfold mp_worn
    rw [pc9, if_neg (by omega), pc9, if_neg (by omega), pc9, if_neg (by omega)]
  have hw2 : ∀ a b j, ¬ (a = 14 ∧ (j = 10 ∨ j = 6 ∨ j = 7)) → a ≠ 11 → (mp_wear ρ f q r x z).2 a b j = ρ a b j := fun a b j h1 h2 => by
    unfold mp_wear
    split
    · show hs_sg (mp_worn ρ f q r x z) 14 f 7 7 a b j = _
      rw [pc9, if_neg (by omega)]
      exact hw a b j (by omega) h2
    · exact hw a b j (by omega) h2
  refine h.of ⟨hw2 _ _ _ (by omega) (by decide), hw2 _ _ _ (by omega) (by decide), hw2 _ _ _ (by omega) (by decide)⟩ (fun g _ => ⟨hw2 _ _ _ (by omega) (by decide), hw2 _ _ _ (by omega) (by decide), hw2 _ _ _ (by omega) (by decide), Or.inl (hw2 _ _ _ (by omega) (by decide)), ?_⟩)
  unfold mp_wear
  split
  · by_cases e : g = f
    · subst e
      exact Or.inr (Or.inr (by show hs_sg (mp_worn ρ g q r x z) 14 g 7 7 14 g 7 = 7; rw [pc9, if_pos ⟨rfl, rfl, rfl⟩]))
    · exact Or.inl (by show hs_sg (mp_worn ρ f q r x z) 14 f 7 7 14 g 7 = _; rw [pc9, if_neg (by omega)]; exact hw _ _ _ (by omega) (by decide))
  · exact Or.inl (hw _ _ _ (by omega) (by decide))
theorem mh_ok.wears {P F R : Nat} {ρ : hs_St} (h : mh_ok P F R ρ) (g : Nat → Int32) (z c : Int32) : ∀ n, mh_ok P F R (mp_wears ρ g z c n).2
  | 0 => h
  | n + 1 => by
    unfold mp_wears
    split
    · exact mh_ok.wears h g z c n
    · exact (mh_ok.wears h g z c n).wear n _ _ _ _
theorem mh_ok.trip {P F R : Nat} {ρ : hs_St} (h : mh_ok P F R ρ) (f q a : Nat) : mh_ok P F R (mp_trip ρ f q a) := by
  have hw : ∀ k b j, ¬ (k = 14 ∧ (j = 8 ∨ j = 6)) → ¬ (k = 0 ∧ j = 12) → mp_trip1 ρ f q a k b j = ρ k b j := fun k b j h1 h2 => by
    unfold mp_trip1
    rw [pc9, if_neg (by omega), pc9, if_neg (by omega), pc9, if_neg (by omega)]
  have hw2 : ∀ k b j, ¬ (k = 14 ∧ (j = 8 ∨ j = 6 ∨ j = 7)) → ¬ (k = 0 ∧ j = 12) → mp_trip ρ f q a k b j = ρ k b j := fun k b j h1 h2 => by
    unfold mp_trip
    split
    · rw [pc9, if_neg (by omega)]
      exact hw k b j (by omega) h2
    · exact hw k b j (by omega) h2
  refine h.of ⟨hw2 _ _ _ (by omega) (by omega), hw2 _ _ _ (by omega) (by omega), hw2 _ _ _ (by omega) (by omega)⟩ (fun g _ => ⟨hw2 _ _ _ (by omega) (by omega), hw2 _ _ _ (by omega) (by omega), hw2 _ _ _ (by omega) (by omega), Or.inl (hw2 _ _ _ (by omega) (by omega)), ?_⟩)
  unfold mp_trip
  split
  · by_cases e : g = f
    · subst e
      exact Or.inr (Or.inl (by rw [pc9, if_pos ⟨rfl, rfl, rfl⟩]))
    · exact Or.inl (by rw [pc9, if_neg (by omega)]; exact hw _ _ _ (by omega) (by omega))
  · exact Or.inl (hw _ _ _ (by omega) (by omega))
theorem mh_ok.trips {P F R : Nat} {ρ : hs_St} (h : mh_ok P F R ρ) : ∀ n, mh_ok P F R (mp_trips ρ n)
  | 0 => h
  | n + 1 => by
    unfold mp_trips
    split
    · exact (mh_ok.trips h n).trip n _ _
    · exact mh_ok.trips h n
theorem mh_ok.paid {P F R : Nat} {ρ : hs_St} (h : mh_ok P F R ρ) (x : Int32) : mh_ok P F R (mp_paid ρ x) := (h.sg0 10 _ (by decide)).sg0 12 _ (by decide)
/-- a day -/
def mp_eve (ρ : hs_St) (P F : Nat) (x : Int32) : hs_St := mp_paid (mp_works (mp_dawn ρ P) F).2 x
def mp_go (ρ : hs_St) (P F : Nat) (x z : Int32) : Int32 × hs_St := ((mp_wears (mp_eve ρ P F x) (mp_touch (mp_eve ρ P F x) (mp_draws (mp_eve ρ P F x) 0 4 F) (mp_come (mp_works (mp_dawn ρ P) F).2 x) F) z (mp_works (mp_dawn ρ P) F).1 F).1, mp_trips (mp_wears (mp_eve ρ P F x) (mp_touch (mp_eve ρ P F x) (mp_draws (mp_eve ρ P F x) 0 4 F) (mp_come (mp_works (mp_dawn ρ P) F).2 x) F) z (mp_works (mp_dawn ρ P) F).1 F).2 F)
theorem mh_ok.go {P F R : Nat} {ρ : hs_St} (h : mh_ok P F R ρ) (x z : Int32) : mh_ok P F R (mp_go ρ P F x z).2 := (((h.dawn.works F (Nat.le_refl _)).paid x).wears _ z _ F).trips F
section MHD
variable {p : Program} {l : Launch} {e : Env} {R : Room} {s : State} {m : MethodId} {args : Array Value} {below : List Frame} {meth : Method} {c0 : Code} {H : Heap} {locs : List Loc} {cells slots : Nat} {Q : State → Prop}
variable {cc : ByteArray} {pc : Nat} {ls : Array Slot} {rest : List Value} {D : va_G} {d : hs_Dm} {cB : ClassId} {L : hs_Lo} {A : Nat → Prop} {ρ : hs_St}
variable {bytes : ByteArray} {maxL nL na index : Nat} {Ts : List Cond} {own : String} {st : List Value}
/-- a month of one fame in the house -/
theorem mh_mon {q9 j : Nat} (S : CallFix p m c0 cc nL s args Ts own) (hq9 : q9 < 10) (hj : j < 3) (cw : CallB R s args own index yX5_month bytes maxL none wsX5_month ({ frames := 2, cells := 0, slots := 0, locals := 60 } : Room) 0 0 na ∧ (Cond.static yX5_month).before args s = true) (hKK : mh_K D d cB s) (hW : mh_W D d.1 cB L ρ A H) (hS : va_S A s.heap H locs) (hn : 2 = na) (hsize : ls.size = nL) (hrest : (rest.map fun v => v.category).sum ≤ 8) (hdg : decode cc pc = .ok (.invokestatic index, 3)) (hf : cells + 0 ≤ R.cells ∧ slots + 0 ≤ R.slots) (hst : st = .int (nI j) :: .ref (L 11 q9) :: rest)
    (kk : ∀ (H1 : Heap) (locs1 : List Loc), mh_W D d.1 cB L (hs_row ρ 11 q9 (mp_month (ρ 11 q9) j)) A H1 → H.size ≤ H1.size → va_S A s.heap H1 locs1 → W p l e R s m args below meth c0 H1 locs1 cells slots Q (F0 m (pc + 3) ls rest)) : W p l e R s m args below meth c0 H locs cells slots Q (F0 m pc ls st) := by
  subst hst
  have hx : mh_ix 11 q9 := mh_ixR (k := 1) (by decide) (by decide) hq9
  have hc : va_at D vwCl (L 11 q9, .inl (d.1, 9, .inl (ρ 11 q9))) H := by
    have h := hW.1 11 q9 hx
    rw [mh_ctR _ (by decide)] at h
    exact h
  refine va_callv (va_runS (As := [.ref (L 11 q9), .int (nI j)]) S (kX5_month l D d (L 11 q9) (ρ 11 q9) j hj) cw ⟨mo_blind, fun U hU hW2 => ⟨rfl, by rw [hU]; exact hc, va_K.moved hW2.alike hKK.1, va_Nw.warmM hW2 hKK.2.2.2.1⟩⟩ rfl hn hsize rfl (lv_room hrest) hdg hf) hS (fun q _ h => by rw [h]; exact hW.2.1 _ _ hx) (fun q h => by rw [h]; exact hW.2.1 _ _ hx) (fun u t H1 locs1 ht _ _ hB hz hq hS1 => ?_)
  have hB : va_at D vwCl (L 11 q9, .inl (d.1, 9, .inl (mp_month (ρ 11 q9) j))) t.heap := hB
  rw [ht] at hB
  refine kk H1 locs1 (hW.putG hx ?_ (fun q h1 h2 => hq q h1 h2) (fun k' i' _ hn9 j' => if_neg hn9)) hz hS1
  rw [mh_ctR _ (by decide)]
  have e9 : hs_row ρ 11 q9 (mp_month (ρ 11 q9) j) 11 q9 = mp_month (ρ 11 q9) j := funext (fun z => if_pos ⟨rfl, rfl⟩)
  rw [e9]
  exact hB
end MHD
