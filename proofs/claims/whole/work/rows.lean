section
-- ===== PART A: goes FIRST, ahead of the names: the tables' words, and 'selects' of the private methods out of them =====
/-- a private method of a class that the tables say can be made, by its rows of tables_1 -/
def lw_okq (q : MethodName × Nat) : Prop := (q.1.cls ≠ "java/lang/invoke/MethodHandle" ∧ q.1.cls ≠ "java/lang/invoke/VarHandle") ∧ Cond.instantiable q.1.cls q.2 ∈ tables_1 ∧ Cond.privateMethod q.1 ∈ tables_1 ∧ Cond.instanceMethod q.1 ∈ tables_1
theorem lw_p0 : lw_okq (⟨"java/lang/Throwable", "fillInStackTrace", "(I)Ljava/lang/Throwable;"⟩, 6) := ⟨⟨by decide +kernel, by decide +kernel⟩, List.mem_of_getElem? (i := 276) (by decide +kernel), List.mem_of_getElem? (i := 274) (by decide +kernel), List.mem_of_getElem? (i := 275) (by decide +kernel)⟩
theorem lw_p1 : lw_okq (⟨"Waxrow", "digestWithPerson", "(JI)J"⟩, 2) := ⟨⟨by decide +kernel, by decide +kernel⟩, List.mem_of_getElem? (i := 18) (by decide +kernel), List.mem_of_getElem? (i := 376) (by decide +kernel), List.mem_of_getElem? (i := 377) (by decide +kernel)⟩
theorem lw_p2 : lw_okq (⟨"WaxrowModel", "no", "(I)I"⟩, 2) := ⟨⟨by decide +kernel, by decide +kernel⟩, List.mem_of_getElem? (i := 727) (by decide +kernel), List.mem_of_getElem? (i := 816) (by decide +kernel), List.mem_of_getElem? (i := 817) (by decide +kernel)⟩
theorem lw_p3 : lw_okq (⟨"WaxrowModel", "isPerson", "(I)Z"⟩, 2) := ⟨⟨by decide +kernel, by decide +kernel⟩, List.mem_of_getElem? (i := 727) (by decide +kernel), List.mem_of_getElem? (i := 824) (by decide +kernel), List.mem_of_getElem? (i := 825) (by decide +kernel)⟩
theorem lw_p4 : lw_okq (⟨"WaxrowModel", "isFigure", "(I)Z"⟩, 2) := ⟨⟨by decide +kernel, by decide +kernel⟩, List.mem_of_getElem? (i := 727) (by decide +kernel), List.mem_of_getElem? (i := 867) (by decide +kernel), List.mem_of_getElem? (i := 868) (by decide +kernel)⟩
theorem lw_p5 : lw_okq (⟨"WaxrowModel", "isAtHand", "([I)Z"⟩, 2) := ⟨⟨by decide +kernel, by decide +kernel⟩, List.mem_of_getElem? (i := 727) (by decide +kernel), List.mem_of_getElem? (i := 879) (by decide +kernel), List.mem_of_getElem? (i := 880) (by decide +kernel)⟩
theorem lw_p6 : lw_okq (⟨"WaxrowModel$House", "height", "(I)I"⟩, 14) := ⟨⟨by decide +kernel, by decide +kernel⟩, List.mem_of_getElem? (i := 733) (by decide +kernel), List.mem_of_getElem? (i := 892) (by decide +kernel), List.mem_of_getElem? (i := 893) (by decide +kernel)⟩
theorem lw_p7 : lw_okq (⟨"WaxrowModel", "isRoom", "(I)Z"⟩, 2) := ⟨⟨by decide +kernel, by decide +kernel⟩, List.mem_of_getElem? (i := 727) (by decide +kernel), List.mem_of_getElem? (i := 920) (by decide +kernel), List.mem_of_getElem? (i := 921) (by decide +kernel)⟩
theorem lw_p8 : lw_okq (⟨"WaxrowModel$House", "work", "([I)I"⟩, 14) := ⟨⟨by decide +kernel, by decide +kernel⟩, List.mem_of_getElem? (i := 733) (by decide +kernel), List.mem_of_getElem? (i := 969) (by decide +kernel), List.mem_of_getElem? (i := 970) (by decide +kernel)⟩
theorem lw_p9 : lw_okq (⟨"WaxrowModel$House", "wear", "([III)I"⟩, 14) := ⟨⟨by decide +kernel, by decide +kernel⟩, List.mem_of_getElem? (i := 733) (by decide +kernel), List.mem_of_getElem? (i := 984) (by decide +kernel), List.mem_of_getElem? (i := 985) (by decide +kernel)⟩
theorem lw_p10 : lw_okq (⟨"WaxrowModel$House", "travel", "([I)V"⟩, 14) := ⟨⟨by decide +kernel, by decide +kernel⟩, List.mem_of_getElem? (i := 733) (by decide +kernel), List.mem_of_getElem? (i := 988) (by decide +kernel), List.mem_of_getElem? (i := 989) (by decide +kernel)⟩
theorem lw_p11 : lw_okq (⟨"WaxrowModel", "personNow", "(II)I"⟩, 2) := ⟨⟨by decide +kernel, by decide +kernel⟩, List.mem_of_getElem? (i := 727) (by decide +kernel), List.mem_of_getElem? (i := 997) (by decide +kernel), List.mem_of_getElem? (i := 998) (by decide +kernel)⟩
theorem lw_p12 : lw_okq (⟨"WaxrowModel", "figureNow", "([II)I"⟩, 2) := ⟨⟨by decide +kernel, by decide +kernel⟩, List.mem_of_getElem? (i := 727) (by decide +kernel), List.mem_of_getElem? (i := 1010) (by decide +kernel), List.mem_of_getElem? (i := 1011) (by decide +kernel)⟩
theorem lw_p13 : lw_okq (⟨"WaxrowModel", "roomNow", "(II)I"⟩, 2) := ⟨⟨by decide +kernel, by decide +kernel⟩, List.mem_of_getElem? (i := 727) (by decide +kernel), List.mem_of_getElem? (i := 1018) (by decide +kernel), List.mem_of_getElem? (i := 1019) (by decide +kernel)⟩
theorem lw_p14 : lw_okq (⟨"WaxrowModel", "manyNow", "(I)I"⟩, 2) := ⟨⟨by decide +kernel, by decide +kernel⟩, List.mem_of_getElem? (i := 727) (by decide +kernel), List.mem_of_getElem? (i := 1027) (by decide +kernel), List.mem_of_getElem? (i := 1028) (by decide +kernel)⟩
theorem lw_p15 : lw_okq (⟨"WaxrowModel", "countAt", "(II)I"⟩, 2) := ⟨⟨by decide +kernel, by decide +kernel⟩, List.mem_of_getElem? (i := 727) (by decide +kernel), List.mem_of_getElem? (i := 1031) (by decide +kernel), List.mem_of_getElem? (i := 1032) (by decide +kernel)⟩
def lw_privs_1 : List (MethodName × Nat) := [(⟨"java/lang/Throwable", "fillInStackTrace", "(I)Ljava/lang/Throwable;"⟩, 6), (⟨"Waxrow", "digestWithPerson", "(JI)J"⟩, 2), (⟨"WaxrowModel", "no", "(I)I"⟩, 2), (⟨"WaxrowModel", "isPerson", "(I)Z"⟩, 2), (⟨"WaxrowModel", "isFigure", "(I)Z"⟩, 2), (⟨"WaxrowModel", "isAtHand", "([I)Z"⟩, 2), (⟨"WaxrowModel$House", "height", "(I)I"⟩, 14), (⟨"WaxrowModel", "isRoom", "(I)Z"⟩, 2), (⟨"WaxrowModel$House", "work", "([I)I"⟩, 14), (⟨"WaxrowModel$House", "wear", "([III)I"⟩, 14), (⟨"WaxrowModel$House", "travel", "([I)V"⟩, 14), (⟨"WaxrowModel", "personNow", "(II)I"⟩, 2), (⟨"WaxrowModel", "figureNow", "([II)I"⟩, 2), (⟨"WaxrowModel", "roomNow", "(II)I"⟩, 2), (⟨"WaxrowModel", "manyNow", "(I)I"⟩, 2), (⟨"WaxrowModel", "countAt", "(II)I"⟩, 2)]
theorem lw_r1 : ∀ q ∈ lw_privs_1, lw_okq q := List.forall_mem_cons.mpr ⟨lw_p0, List.forall_mem_cons.mpr ⟨lw_p1, List.forall_mem_cons.mpr ⟨lw_p2, List.forall_mem_cons.mpr ⟨lw_p3, List.forall_mem_cons.mpr ⟨lw_p4, List.forall_mem_cons.mpr ⟨lw_p5, List.forall_mem_cons.mpr ⟨lw_p6, List.forall_mem_cons.mpr ⟨lw_p7, List.forall_mem_cons.mpr ⟨lw_p8, List.forall_mem_cons.mpr ⟨lw_p9, List.forall_mem_cons.mpr ⟨lw_p10, List.forall_mem_cons.mpr ⟨lw_p11, List.forall_mem_cons.mpr ⟨lw_p12, List.forall_mem_cons.mpr ⟨lw_p13, List.forall_mem_cons.mpr ⟨lw_p14, List.forall_mem_cons.mpr ⟨lw_p15, fun _ h => absurd h List.not_mem_nil⟩⟩⟩⟩⟩⟩⟩⟩⟩⟩⟩⟩⟩⟩⟩⟩
theorem lw_p16 : lw_okq (⟨"WaxrowModel", "fameNow", "(III)I"⟩, 2) := ⟨⟨by decide +kernel, by decide +kernel⟩, List.mem_of_getElem? (i := 727) (by decide +kernel), List.mem_of_getElem? (i := 1043) (by decide +kernel), List.mem_of_getElem? (i := 1044) (by decide +kernel)⟩
theorem lw_p17 : lw_okq (⟨"WaxrowModel", "readyNow", "([I)I"⟩, 2) := ⟨⟨by decide +kernel, by decide +kernel⟩, List.mem_of_getElem? (i := 727) (by decide +kernel), List.mem_of_getElem? (i := 1052) (by decide +kernel), List.mem_of_getElem? (i := 1053) (by decide +kernel)⟩
theorem lw_p18 : lw_okq (⟨"WaxrowModel", "meltsNow", "(III)I"⟩, 2) := ⟨⟨by decide +kernel, by decide +kernel⟩, List.mem_of_getElem? (i := 727) (by decide +kernel), List.mem_of_getElem? (i := 1060) (by decide +kernel), List.mem_of_getElem? (i := 1061) (by decide +kernel)⟩
theorem lw_p19 : lw_okq (⟨"WaxrowModel", "nextNow", "()I"⟩, 2) := ⟨⟨by decide +kernel, by decide +kernel⟩, List.mem_of_getElem? (i := 727) (by decide +kernel), List.mem_of_getElem? (i := 1078) (by decide +kernel), List.mem_of_getElem? (i := 1079) (by decide +kernel)⟩
theorem lw_p20 : lw_okq (⟨"WaxrowModel", "hasFigure", "(I)Z"⟩, 2) := ⟨⟨by decide +kernel, by decide +kernel⟩, List.mem_of_getElem? (i := 727) (by decide +kernel), List.mem_of_getElem? (i := 1082) (by decide +kernel), List.mem_of_getElem? (i := 1083) (by decide +kernel)⟩
def lw_privs_2 : List (MethodName × Nat) := [(⟨"WaxrowModel", "fameNow", "(III)I"⟩, 2), (⟨"WaxrowModel", "readyNow", "([I)I"⟩, 2), (⟨"WaxrowModel", "meltsNow", "(III)I"⟩, 2), (⟨"WaxrowModel", "nextNow", "()I"⟩, 2), (⟨"WaxrowModel", "hasFigure", "(I)Z"⟩, 2)]
theorem lw_r2 : ∀ q ∈ lw_privs_2, lw_okq q := List.forall_mem_cons.mpr ⟨lw_p16, List.forall_mem_cons.mpr ⟨lw_p17, List.forall_mem_cons.mpr ⟨lw_p18, List.forall_mem_cons.mpr ⟨lw_p19, List.forall_mem_cons.mpr ⟨lw_p20, fun _ h => absurd h List.not_mem_nil⟩⟩⟩⟩⟩
def lw_privs : List (MethodName × Nat) := lw_privs_1 ++ (lw_privs_2)
def lw_tbl : List Cond := k2_sels lw_privs ++ tables_1
theorem lw_privs_ok : ∀ q ∈ lw_privs, lw_okq q := by
  show ∀ q ∈ lw_privs_1 ++ (lw_privs_2), lw_okq q
  exact List.forall_mem_append.mpr ⟨lw_r1, lw_r2⟩
/-- the streams that the claim lets the run draw from -/
abbrev lw_cs : List Choice := [Jvm.Choice.named "NaN.bits"]
theorem lw_bits : nanBits ∈ lw_cs := by first | decide | exact List.mem_cons_self | simp [lw_cs, nanBits]
end
section
/-! ===== BEGIN words of one list among another's, by their places ===== -/
theorem goodIn_r {big : List Cond} (ws : List Cond) (ps : List Nat) (hp : ws = ps.filterMap (fun i => big[i]?)) (h : ws.all goodWord = true) : GoodIn big ws := by
  intro w hw
  have h1 := List.all_eq_true.mp h w hw
  rw [hp] at hw
  obtain ⟨i, -, hi⟩ := List.mem_filterMap.mp hw
  have hm : w ∈ big := by first | exact List.mem_of_getElem? hi | exact List.getElem?_mem hi
  exact ⟨hm, good_of_word h1⟩
theorem goodIn_app {big a b : List Cond} (ha : GoodIn big a) (hb : GoodIn big b) : GoodIn big (a ++ b) := fun w h => (List.mem_append.mp h).elim (ha w) (hb w)
theorem goodIn_ca {big a b : List Cond} {c : Cond} (ha : GoodIn big (c :: a)) (hb : GoodIn big b) : GoodIn big (c :: (a ++ b)) := fun w h => (List.mem_cons.mp h).elim (fun e => ha w (List.mem_cons.mpr (Or.inl e))) (fun h => (List.mem_append.mp h).elim (fun h => ha w (List.mem_cons.mpr (Or.inr h))) (hb w))
theorem goodIn_sub {big ws : List Cond} (hm : ∀ w ∈ ws, w ∈ big) (h : ws.all goodWord = true) : GoodIn big ws := fun w hw => ⟨hm w hw, good_of_word (List.all_eq_true.mp h w hw)⟩
/-! ===== END ===== -/


/-! ===== BEGIN exceptions that leave a method, and their catching by the caller (launches without stack traces) ===== -/
section VXA
/-! The laws vx_back, vx_callV, vx_callS, vx_callSW, vx_throw0, vx_throwS follow proofs of the library, with one case more: JvmDerived/Free/Laws.lean (Back.of_free), Shelf42/LK1.lean (callV, callS), Shelf/KitTraced.lean (throwNew0V, throwNewS). -/
/-- where a method has thrown q: the class by its name, the cell, what was written, the world -/
def vx_T (XC : String → State → State → Prop) (st : State) (q : Addr) (t : State) (mc ms : Nat) (free : Addr → Prop) : Prop :=
  ∃ (E : String) (ce : Cell) (L : List Loc), XC E st t ∧ t.heap[q]? = some ce ∧ ce.vm = .none ∧ st.vm.findClass E = some ce.cls ∧ st.WarmedH t.vm ∧ st.sameButNew ({ t with vm := st.vm } : State) L mc ms ∧ ∀ z ∈ L, free z.base
def vx_Q (Qc : Array Value → State → Outcome → State → Prop) (XC : String → State → State → Prop) (mc ms : Nat) (free : Addr → Prop) : Array Value → State → Outcome → State → Prop := fun a st o t =>
  (Qc a st o t ∧ ∃ L, FrameEnd st o t L mc ms ∧ ∀ q ∈ L, free q.base) ∨ ∃ q, o = .threw q ∧ vx_T XC st q t mc ms free
/-- a callee that returns or throws -/
def vx_Met (l : Launch) (y : MethodName) (ws : List Cond) (rm : Room) (Pc : Array Value → State → Prop) (Qc : Array Value → State → Outcome → State → Prop) (XC : String → State → State → Prop) (mc ms : Nat) (free : Addr → Prop) : Prop :=
  MetFree l y (headSpec ws rm) Pc (fun _ _ _ _ _ => True) (vx_Q Qc XC mc ms free)
def vx_Post (XC : String → State → State → Prop) (mc ms : Nat) (free : Addr → Prop) : Pt → Array Value → Addr → Pt → Prop := fun A a q B =>
  ∃ (g : JFrame) (mk : MethodId) (t : State) (L : List Loc) (E : String) (ce : Cell), B.U.heap = t.heap ∧ B.U.vm = t.vm ∧ XC E (A.U.calling g mk a) t ∧ t.heap[q]? = some ce ∧ ce.vm = .none ∧ A.U.vm.findClass E = some ce.cls ∧ B.locs = A.locs ++ L ∧ (∀ z ∈ L, free z.base) ∧ B.cells = A.cells + mc ∧ B.slots = A.slots + ms
def vx_Back (l : Launch) (R : Room) (p : Program) (e : Env) (below : List Frame) (s : State) (sargs : Array Value) (y : MethodName) (len W9 : Nat)
    (Pre : Pt → Array Value → Prop) (Post : Pt → Array Value → Option Value → Pt → Prop) (PostX : Pt → Array Value → Addr → Pt → Prop) : Prop :=
  ∀ (m : MethodId) (meth : Method) (c : Code) (A : Pt) (g : JFrame) (ig : Instr) (mk : MethodId) (a : Array Value),
    Stand p l e R s m sargs below meth c A.U A.locs A.cells A.slots → g.method = m → g.locals.size = c.maxLocals → decode c.code g.pc = .ok (ig, len) →
    2 * g.monitorRoom + (g.stack.map fun v => v.category).sum ≤ W9 → A.U.methodNamed? y = some mk → Pre A a →
    (∃ (v : Option Value) (B : Pt), Stand p l e R s m sargs below meth c B.U B.locs B.cells B.slots ∧ Post A a v B ∧
      Steps p.tables e below (doInvoke e (A.U.setTop g) [] mk a).1 (B.U.setTop { g with pc := g.pc + len, stack := v.toList ++ g.stack })) ∨
    (∃ (q : Addr) (B : Pt), Stand p l e R s m sargs below meth c B.U B.locs B.cells B.slots ∧ PostX A a q B ∧
      Steps p.tables e below (doInvoke e (A.U.setTop g) [] mk a).1 ((B.U.setTop g).pushFrame (.throwing q)))
section Payer
variable {l : Launch} {R : Room} {p : Program} {e : Env} {below : List Frame} {s : State} {sargs : Array Value} {y : MethodName} {len W9 : Nat}
theorem vx_back {ws : List Cond} {rm : Room} {Pc : Array Value → State → Prop} {Qc : Array Value → State → Outcome → State → Prop} {XC : String → State → State → Prop} {mc ms : Nat} {free : Addr → Prop} {bytes : ByteArray} {maxL : Nat} {ret : Option FieldType}
    (hM : vx_Met l y ws rm Pc Qc XC mc ms free) (hblind : FrameBlind Pc) (hrc : rm.cells = mc) (hrs : rm.slots = ms)
    (hframes : rm.frames + 1 ≤ R.frames) (hlocals : W9 + (maxL + 11) + rm.locals ≤ R.locals)
    (hws : ∀ w ∈ ws, ∀ a' U, s.WarmedH U.vm → w.before a' U = true) (hcode : Cond.code y bytes maxL ret ∈ ws) (hinit : ∀ a' U, s.WarmedH U.vm → (Cond.initialized y.cls).before a' U = true) :
    vx_Back l R p e below s sargs y len W9 (PreOf R mc ms Pc) (PostOf Qc mc ms free) (vx_Post XC mc ms free) := by
  intro m meth c A g ig mk a X hg hsize hdg hW hn hp
  have h1 : (headSpec ws rm).pre.before a A.U = true := atoms_intro fun w hw => hws w hw _ _ X.warmed
  have h2 : (Cond.code y bytes maxL ret).before a A.U = true := hws _ hcode _ _ X.warmed
  have h3 : (Cond.initialized y.cls).before a A.U = true := hinit _ _ X.warmed
  have h4 : A.cells + (headSpec ws rm).room.cells ≤ R.cells := by rw [show (headSpec ws rm).room.cells = mc from hrc]; exact hp.1
  have h5 : A.slots + (headSpec ws rm).room.slots ≤ R.slots := by rw [show (headSpec ws rm).room.slots = ms from hrs]; exact hp.2.1
  have hPc : Pc a (A.U.calling g mk a) := hblind _ _ _ _ hp.2.2
  obtain ⟨U, Ls, c0, s0⟩ := A
  dsimp only [Pt.U, Pt.locs, Pt.cells, Pt.slots] at h1 h2 h3 h4 h5 X hn hPc ⊢
  obtain ⟨methY, cY, hmY, hcY, -, hlY, -, -, -, -⟩ := Cond.code_spec hn h2
  obtain ⟨kY, hkY, -⟩ := className_of_methodNamed hn
  have hinitY : kY.init = .initialized := Cond.initialized_spec (findClass_of_methodNamed hn) hkY h3
  have h : At U g.method c below := by rw [hg]; exact X.here
  have hlocals9 : W9 + (maxL + 11) + (headSpec ws rm).room.locals ≤ R.locals := hlocals
  have happ : (headSpec ws rm).appliesLoose y e.platform (U.calling g mk a) = true :=
    Spec.appliesLoose_calling (g := g) h hdg hn hkY hinitY
      (X.room_calling (g := g) (R' := (headSpec ws rm).room) hsize hmY hcY hframes (by rw [hlY]; omega) h4 h5) h1
  obtain ⟨mid, hmid⟩ := h.above
  have hfr : (U.setTop g).frames = (.java g :: mid) ++ below := by rw [State.frames_setTop' g h.top, hmid]; rfl
  obtain ⟨o, s₂, hsteps, -, hend, hq⟩ := Steps.callFree hM p X.admits X.cas X.clock (acts := []) hfr happ hPc trivial
  have hq' : vx_Q Qc XC mc ms free a (U.calling g mk a) o s₂ := hq
  rw [State.frames_setTop' g h.top] at hend
  obtain ⟨g₀, hg0⟩ := Option.isSome_iff_exists.mp h.top
  obtain ⟨r, hr⟩ := State.topJava?_eq_some.mp hg0
  have hr' : (({ U with heap := s₂.heap, slotsUsed := s₂.slotsUsed } : State).setVm s₂.vm).frames = .java g₀ :: r := hr
  rcases hq' with ⟨hqc, L, hfe, hL⟩ | ⟨q, rfl, E, ce, L, hx, hce, hcv, hcl, hW₂, hsm, hL⟩
  · obtain ⟨⟨v, rfl⟩, hW₂, e2, q2, q3, q4, q5, q6⟩ := id hfe
    have e3 : s₂ = ({ (U.calling g mk a).setFrames s₂.frames with heap := s₂.heap, slotsUsed := s₂.slotsUsed } : State).setVm s₂.vm := by
      have : s₂ = ({ s₂ with vm := (U.calling g mk a).vm } : State).setVm s₂.vm := rfl
      rw [e2] at this
      exact this
    obtain ⟨c₂, i₂, len₂, hc₂, hd₂, hf₂⟩ := hend
    have hW' : U.WarmedH s₂.vm := hW₂
    have hcc : c₂ = c := by
      have h1 : s₂.code? g.method = U.code? g.method := by
        rw [State.code?_eq, State.code?_eq, hW'.alike.method?]
      exact Option.some.inj (hc₂.symm.trans (h1.trans h.code))
    subst hcc
    have hlen : len₂ = len := by rw [hdg] at hd₂; cases hd₂; rfl
    subst hlen
    have hs₂ : s₂ = (({ U with heap := s₂.heap, slotsUsed := s₂.slotsUsed } : State).setVm s₂.vm).setTop { g with pc := g.pc + len₂, stack := v.toList ++ g.stack } := by
      refine e3.trans ?_
      rw [hf₂, State.calling_eq h.top, State.setFrames_setFrames, State.setTop_of_frames _ hr', hr]
      rfl
    have hsame : U.sameButNew ({ U with heap := s₂.heap, slotsUsed := s₂.slotsUsed } : State) L mc ms := by
      refine ⟨?_, q2, q3, q4, q5, q6⟩
      obtain ⟨t, ht, -⟩ := State.frames_cons hr
      show ({ U with heap := s₂.heap, slotsUsed := s₂.slotsUsed } : State) = { U.setFrames U.frames with heap := s₂.heap, slotsUsed := s₂.slotsUsed }
      rw [State.setFrames_self ht]
    subst hg
    refine Or.inl ⟨v, ⟨(({ U with heap := s₂.heap, slotsUsed := s₂.slotsUsed } : State).setVm s₂.vm), Ls ++ L, c0 + mc, s0 + ms⟩,
      ⟨X.admits, X.cas, X.clock, X.frames, X.room, X.hears, X.method, X.code, (X.here.setHeapUsed s₂.heap s₂.slotsUsed).setVm hW'.alike, X.tail, State.WarmedH.trans X.warmed hW', X.limits, X.bytes, X.same.trans (hsame.setVm s.vm)⟩,
      ⟨g, mk, s₂, L, rfl, rfl, hqc, rfl, hL, rfl, rfl⟩, ?_⟩
    show Steps p.tables e below _ ((({ U with heap := s₂.heap, slotsUsed := s₂.slotsUsed } : State).setVm s₂.vm).setTop { g with pc := g.pc + len₂, stack := v.toList ++ g.stack })
    rw [← hs₂]
    exact hsteps
  · obtain ⟨e2, q2, q3, q4, q5, q6⟩ := id hsm
    have e3 : s₂ = ({ (U.calling g mk a).setFrames s₂.frames with heap := s₂.heap, slotsUsed := s₂.slotsUsed } : State).setVm s₂.vm := by
      have : s₂ = ({ s₂ with vm := (U.calling g mk a).vm } : State).setVm s₂.vm := rfl
      rw [e2] at this
      exact this
    have hf₂ : s₂.frames = .throwing q :: .java g :: U.frames.tail := hend
    have hW' : U.WarmedH s₂.vm := hW₂
    have hs₂ : s₂ = ((({ U with heap := s₂.heap, slotsUsed := s₂.slotsUsed } : State).setVm s₂.vm).setTop g).pushFrame (.throwing q) := by
      refine e3.trans ?_
      rw [hf₂, State.calling_eq h.top, State.setFrames_setFrames, State.pushFrame, State.frames_setTop _ hr', State.setTop_of_frames _ hr', State.setFrames_setFrames, hr]
      rfl
    have hsame : U.sameButNew ({ U with heap := s₂.heap, slotsUsed := s₂.slotsUsed } : State) L mc ms := by
      refine ⟨?_, q2, q3, q4, q5, q6⟩
      obtain ⟨t, ht, -⟩ := State.frames_cons hr
      show ({ U with heap := s₂.heap, slotsUsed := s₂.slotsUsed } : State) = { U.setFrames U.frames with heap := s₂.heap, slotsUsed := s₂.slotsUsed }
      rw [State.setFrames_self ht]
    subst hg
    refine Or.inr ⟨q, ⟨(({ U with heap := s₂.heap, slotsUsed := s₂.slotsUsed } : State).setVm s₂.vm), Ls ++ L, c0 + mc, s0 + ms⟩,
      ⟨X.admits, X.cas, X.clock, X.frames, X.room, X.hears, X.method, X.code, (X.here.setHeapUsed s₂.heap s₂.slotsUsed).setVm hW'.alike, X.tail, State.WarmedH.trans X.warmed hW', X.limits, X.bytes, X.same.trans (hsame.setVm s.vm)⟩,
      ⟨g, mk, s₂, L, E, ce, rfl, rfl, hx, hce, hcv, hcl, rfl, hL, rfl, rfl⟩, ?_⟩
    show Steps p.tables e below _ (((({ U with heap := s₂.heap, slotsUsed := s₂.slotsUsed } : State).setVm s₂.vm).setTop g).pushFrame (.throwing q))
    rw [← hs₂]
    exact hsteps
end Payer
section Calls
variable {p : Program} {l : Launch} {e : Env} {R : Room} {s : State} {m : MethodId} {args : Array Value} {below : List Frame} {meth : Method} {c : Code} {T : State} {locs : List Loc} {cells slots : Nat}
theorem vx_callV (X : Stand p l e R s m args below meth c T locs cells slots) (hexec : p.tables.exec = Jvm.exec) {own C : String} {index : Nat} {y : MethodName} {bytes : ByteArray} {maxL : Nat} {ret : Option FieldType}
    (hown : s.vm.findClass own = some m.cls) (hlink : (Cond.methodLink own index y).before args s = true) (hinst : (Cond.instanceMethod y).before args s = true) (hsel : (Cond.selects C y y).before args s = true)
    (hcode : (Cond.code y bytes maxL ret).before args s = true) (hy : y.cls ≠ "java/lang/invoke/MethodHandle" ∧ y.cls ≠ "java/lang/invoke/VarHandle")
    {W9 : Nat} {Pre : Pt → Array Value → Prop} {Post : Pt → Array Value → Option Value → Pt → Prop} {PostX : Pt → Array Value → Addr → Pt → Prop} (hK : vx_Back l R p e below s args y 3 W9 Pre Post PostX)
    {b : Addr} {cellB : Cell} (hcell : T.heap[b]? = some cellB) (hobj : cellB.vm.isStatics = false) (hcls : s.vm.findClass C = some cellB.cls)
    {g : JFrame} (hg : g.method = m) (hsize : g.locals.size = c.maxLocals) {argsL rest : List Value} (hlen : ∀ sig, parseMethodDescriptor y.desc = some sig → argsL.length = sig.parameters.length)
    (hstack : g.stack = argsL.reverse ++ .ref b :: rest) (hW : 2 * g.monitorRoom + (rest.map fun v => v.category).sum ≤ W9) (hdg : decode c.code g.pc = .ok (.invokevirtual index, 3))
    (hpre : ∀ vm₁, s.WarmedH vm₁ → Pre ⟨T.setVm vm₁, locs, cells, slots⟩ (Value.ref b :: argsL).toArray) :
    (∃ (v : Option Value) (vm₁ : Vm) (B : Pt), s.WarmedH vm₁ ∧ Stand p l e R s m args below meth c B.U B.locs B.cells B.slots ∧ Post ⟨T.setVm vm₁, locs, cells, slots⟩ (Value.ref b :: argsL).toArray v B ∧
      ∀ target, Steps p.tables e below (B.U.setTop { g with pc := g.pc + 3, stack := v.toList ++ rest }) target → Steps p.tables e below (T.setTop g) target) ∨
    (∃ (q : Addr) (vm₁ : Vm) (B : Pt), s.WarmedH vm₁ ∧ Stand p l e R s m args below meth c B.U B.locs B.cells B.slots ∧ PostX ⟨T.setVm vm₁, locs, cells, slots⟩ (Value.ref b :: argsL).toArray q B ∧
      Steps p.tables e below (T.setTop g) ((B.U.setTop { g with stack := rest }).pushFrame (.throwing q))) := by
  obtain ⟨mk, methM, hnamed, hmethM, hstM, habM⟩ := Cond.instanceMethod_spec hinst
  obtain ⟨methM', cM, hmethM', -, -, -, -, -, -, hsigM⟩ := Cond.code_spec hnamed hcode
  cases hmethM.symm.trans hmethM'
  obtain ⟨c2, r2, m2, q1, q2, q3, q4, kP, hkP, hkPi⟩ := Cond.selects_spec hsel
  cases hcls.symm.trans q1
  cases (State.methodFound?_of_named hnamed hy).symm.trans q2
  cases hnamed.symm.trans q3
  have hselP : selectMethod e.platform s.vm cellB.cls mk = .method mk := by rw [Launch.admits_selectMethod X.admits]; exact q4
  obtain ⟨vm₁, X₁, hstep₁⟩ := X.invokevirtual hexec hown hlink hnamed hmethM hstM hkP hkPi hy (a := b) (cell := cellB) hcell
    (fun z h => by rw [h] at hobj; cases hobj) hselP hmethM habM hkP hkPi (g := g) hg (argsL := argsL) (rest := rest) (hlen _ hsigM) hstack hdg
  rcases hK m meth c ⟨T.setVm vm₁, locs, cells, slots⟩ { g with stack := rest } (.invokevirtual index) mk (Value.ref b :: argsL).toArray X₁ hg hsize hdg hW (X₁.named hnamed) (hpre vm₁ X₁.warmed) with ⟨v, B, X', hpost, hsteps⟩ | ⟨q, B, X', hpost, hsteps⟩
  · exact Or.inl ⟨v, vm₁, B, X₁.warmed, X', hpost, fun target h => hstep₁ _ fun acts => by rw [doInvoke_state]; exact hsteps.trans h⟩
  · exact Or.inr ⟨q, vm₁, B, X₁.warmed, X', hpost, hstep₁ _ fun acts => by rw [doInvoke_state]; exact hsteps⟩
theorem vx_callS (X : Stand p l e R s m args below meth c T locs cells slots) (hexec : p.tables.exec = Jvm.exec) {own : String} {index : Nat} {y : MethodName} {bytes : ByteArray} {maxL : Nat} {ret : Option FieldType}
    (hown : s.vm.findClass own = some m.cls) (hlink : (Cond.methodLink own index y).before args s = true) (hstat : (Cond.static y).before args s = true) (hinit : (Cond.initialized y.cls).before args s = true)
    (hcode : (Cond.code y bytes maxL ret).before args s = true) (hy : y.cls ≠ "java/lang/invoke/MethodHandle" ∧ y.cls ≠ "java/lang/invoke/VarHandle")
    {W9 : Nat} {Pre : Pt → Array Value → Prop} {Post : Pt → Array Value → Option Value → Pt → Prop} {PostX : Pt → Array Value → Addr → Pt → Prop} (hK : vx_Back l R p e below s args y 3 W9 Pre Post PostX)
    {g : JFrame} (hg : g.method = m) (hsize : g.locals.size = c.maxLocals) {argsL rest : List Value} (hlen : ∀ sig, parseMethodDescriptor y.desc = some sig → argsL.length = sig.parameters.length)
    (hstack : g.stack = argsL.reverse ++ rest) (hW : 2 * g.monitorRoom + (rest.map fun v => v.category).sum ≤ W9) (hdg : decode c.code g.pc = .ok (.invokestatic index, 3))
    (hpre : ∀ vm₁, s.WarmedH vm₁ → Pre ⟨T.setVm vm₁, locs, cells, slots⟩ argsL.toArray) :
    (∃ (v : Option Value) (vm₁ : Vm) (B : Pt), s.WarmedH vm₁ ∧ Stand p l e R s m args below meth c B.U B.locs B.cells B.slots ∧ Post ⟨T.setVm vm₁, locs, cells, slots⟩ argsL.toArray v B ∧
      ∀ target, Steps p.tables e below (B.U.setTop { g with pc := g.pc + 3, stack := v.toList ++ rest }) target → Steps p.tables e below (T.setTop g) target) ∨
    (∃ (q : Addr) (vm₁ : Vm) (B : Pt), s.WarmedH vm₁ ∧ Stand p l e R s m args below meth c B.U B.locs B.cells B.slots ∧ PostX ⟨T.setVm vm₁, locs, cells, slots⟩ argsL.toArray q B ∧
      Steps p.tables e below (T.setTop g) ((B.U.setTop { g with stack := rest }).pushFrame (.throwing q))) := by
  obtain ⟨mk, hnamed⟩ := Cond.code_named hcode
  obtain ⟨methM, cM, hmethM, -, -, -, -, -, -, hsigM⟩ := Cond.code_spec hnamed hcode
  have hstatic : methM.isStatic = true := Cond.static_spec hnamed hmethM hstat
  obtain ⟨kP, hkP, -⟩ := className_of_methodNamed hnamed
  have hinitP : kP.init = .initialized := Cond.initialized_spec (findClass_of_methodNamed hnamed) hkP hinit
  obtain ⟨vm₁, X₁, hstep₁⟩ := X.invokestatic hexec hown hlink hnamed hmethM hstatic hkP hinitP hy (g := g) hg (argsL := argsL) (rest := rest) (hlen _ hsigM) hstack hdg
  rcases hK m meth c ⟨T.setVm vm₁, locs, cells, slots⟩ { g with stack := rest } (.invokestatic index) mk argsL.toArray X₁ hg hsize hdg hW (X₁.named hnamed) (hpre vm₁ X₁.warmed) with ⟨v, B, X', hpost, hsteps⟩ | ⟨q, B, X', hpost, hsteps⟩
  · exact Or.inl ⟨v, vm₁, B, X₁.warmed, X', hpost, fun target h => hstep₁ _ fun acts => by rw [doInvoke_state]; exact hsteps.trans h⟩
  · exact Or.inr ⟨q, vm₁, B, X₁.warmed, X', hpost, hstep₁ _ fun acts => by rw [doInvoke_state]; exact hsteps⟩
end Calls
theorem vx_cls {s : State} {T : State} {vm₁ : Vm} {E : String} {k : ClassId} (hW : s.WarmedH vm₁) (h : (T.setVm vm₁).vm.findClass E = some k) : s.vm.findClass E = some k := by
  have h1 : vm₁.findClass E = some k := h
  rw [hW.alike.findClass] at h1
  exact h1
/-- the method's frame g, with q thrown over it -/
def vx_W (p : Program) (l : Launch) (e : Env) (R : Room) (s : State) (m : MethodId) (args : Array Value) (below : List Frame) (meth : Method) (c : Code) (H : Heap) (locs : List Loc) (cells slots : Nat) (Q : State → Prop) (g : JFrame) (q : Addr) : Prop :=
  ∀ T : State, T.heap = H → Stand p l e R s m args below meth c T locs cells slots → ∃ t, Steps p.tables e below ((T.setTop g).pushFrame (.throwing q)) t ∧ Q t
def vx_Run (p : Program) (l : Launch) (e : Env) (R : Room) (s : State) (m : MethodId) (args : Array Value) (below : List Frame) (meth : Method) (c : Code) (H : Heap) (locs : List Loc) (cells slots mc ms : Nat) (g : JFrame) (rest : List Value) (Qa : State → Outcome → State → Prop) (XC : String → State → State → Prop) (free : Addr → Prop) : Prop :=
  ∀ T : State, T.heap = H → Stand p l e R s m args below meth c T locs cells slots →
    (∃ (v : Option Value) (st₀ t T' : State) (L : List Loc), st₀.heap = H ∧ Stand p l e R s m args below meth c T' (locs ++ L) (cells + mc) (slots + ms) ∧ (∀ q ∈ L, free q.base) ∧ T'.heap = t.heap ∧ T'.vm = t.vm ∧ Qa st₀ (.returned v) t ∧
      Goes p e below T g T' { g with pc := g.pc + 3, stack := v.toList ++ rest }) ∨
    (∃ (q : Addr) (st₀ t T' : State) (L : List Loc) (E : String) (ce : Cell), st₀.heap = H ∧ Stand p l e R s m args below meth c T' (locs ++ L) (cells + mc) (slots + ms) ∧ (∀ z ∈ L, free z.base) ∧ T'.heap = t.heap ∧ T'.vm = t.vm ∧ XC E st₀ t ∧ t.heap[q]? = some ce ∧ ce.vm = .none ∧ s.vm.findClass E = some ce.cls ∧
      Steps p.tables e below (T.setTop g) ((T'.setTop { g with stack := rest }).pushFrame (.throwing q)))
def vx_X {S : Type} (px : S → Prop) (B : String → S → State → Prop) (A : Nat → Prop) : String → State → State → Prop := fun E st t => ∃ u : S, px u ∧ B E u t ∧ va_F A st t
section Runs
variable {p : Program} {l : Launch} {e : Env} {R : Room} {s : State} {m : MethodId} {args : Array Value} {below : List Frame} {meth : Method} {c : Code} {H : Heap} {locs : List Loc} {cells slots : Nat}
variable {y : MethodName} {bytes cc : ByteArray} {maxL nL mc ms n index : Nat} {ret : Option FieldType} {ws : List Cond} {rm : Room} {Pc : Array Value → State → Prop} {Qc : Array Value → State → Outcome → State → Prop} {XC : String → State → State → Prop} {free : Addr → Prop} {Ts : List Cond} {own C : String} {b : Addr} {As rest : List Value} {g : JFrame}
theorem vx_callBack (cb : CallB R s args own index y bytes maxL ret ws rm mc ms n) (hM : vx_Met l y ws rm Pc Qc XC mc ms free) (hbl : FrameBlind Pc) : vx_Back l R p e below s args y 3 8 (PreOf R mc ms Pc) (PostOf Qc mc ms free) (vx_Post XC mc ms free) := by
  obtain ⟨hrc, hrs, hfr, hlo, hws, hcw, -, hini, -⟩ := cb
  exact vx_back (bytes := bytes) (maxL := maxL) (ret := ret) hM hbl hrc hrs hfr hlo hws hcw (fun a' U hW => word_at hW (Or.inl (by first | rfl | simp [Cond.onTables, Cond.keeps, Cond.steady])) hini)
theorem vx_runV (S : CallFix p m c cc nL s args Ts own) (hM : vx_Met l y ws rm Pc Qc XC mc ms free) (cw : CallW R s args own C index y bytes maxL ret ws rm mc ms n) (hp : PreV s H C b Pc As)
    (hg : g.method = m) (hn : As.length = n) (hsize : g.locals.size = nL) (hstack : g.stack = As.reverse ++ .ref b :: rest) (hW : 2 * g.monitorRoom + (rest.map fun v => v.category).sum ≤ 8) (hdg : decode cc g.pc = .ok (.invokevirtual index, 3)) (hf : cells + mc ≤ R.cells ∧ slots + ms ≤ R.slots) :
    vx_Run p l e R s m args below meth c H locs cells slots mc ms g rest (Qc (Value.ref b :: As).toArray) XC free := by
  have hK : vx_Back l R p e below s args y 3 8 (PreOf R mc ms Pc) (PostOf Qc mc ms free) (vx_Post XC mc ms free) := vx_callBack cw.1 hM hp.1
  obtain ⟨⟨-, -, -, -, -, -, hcode, -, hy, hlen, hl⟩, hin, hse⟩ := cw
  obtain ⟨hx, hb, hml, ho, -⟩ := S
  obtain ⟨-, ⟨cellB, hcB, hoB, hclB⟩, hPc⟩ := hp
  intro T hT X
  rcases vx_callV X hx (C := C) (bytes := bytes) (maxL := maxL) (ret := ret) ho hl hin hse hcode hy hK (by rw [hT]; exact hcB) hoB hclB hg (hsize.trans hml.symm) (argsL := As) (rest := rest) (fun sig h => hn.trans (hlen sig h)) hstack hW (by rw [hb]; exact hdg)
    (fun vm₁ hW₁ => ⟨hf.1, hf.2, hPc (T.setVm vm₁) hT hW₁⟩) with ⟨v, vm₁, ⟨U', l2, c2, s2⟩, hW₁, X', ⟨g', mk, t, L, e1, e2, hq, h1, hL, h2, h3⟩, st⟩ | ⟨q, vm₁, ⟨U', l2, c2, s2⟩, hW₁, X', ⟨g', mk, t, L, E, ce, e1, e2, hq, hce, hcv, hcl, h1, hL, h2, h3⟩, st⟩
  · dsimp only [Pt.U, Pt.locs, Pt.cells, Pt.slots] at X' e1 e2 h1 h2 h3 st
    subst h1; subst h2; subst h3
    exact Or.inl ⟨v, (T.setVm vm₁).calling g' mk (Value.ref b :: As).toArray, t, U', L, hT, X', hL, e1, e2, hq, st⟩
  · dsimp only [Pt.U, Pt.locs, Pt.cells, Pt.slots] at X' e1 e2 h1 h2 h3 st hcl
    subst h1; subst h2; subst h3
    exact Or.inr ⟨q, (T.setVm vm₁).calling g' mk (Value.ref b :: As).toArray, t, U', L, E, ce, hT, X', hL, e1, e2, hq, hce, hcv, vx_cls hW₁ hcl, st⟩
theorem vx_runS (S : CallFix p m c cc nL s args Ts own) (hM : vx_Met l y ws rm Pc Qc XC mc ms free) (cw : CallB R s args own index y bytes maxL ret ws rm mc ms n ∧ (Cond.static y).before args s = true) (hp : PreS s H Pc As)
    (hg : g.method = m) (hn : As.length = n) (hsize : g.locals.size = nL) (hstack : g.stack = As.reverse ++ rest) (hW : 2 * g.monitorRoom + (rest.map fun v => v.category).sum ≤ 8) (hdg : decode cc g.pc = .ok (.invokestatic index, 3)) (hf : cells + mc ≤ R.cells ∧ slots + ms ≤ R.slots) :
    vx_Run p l e R s m args below meth c H locs cells slots mc ms g rest (Qc As.toArray) XC free := by
  have hK : vx_Back l R p e below s args y 3 8 (PreOf R mc ms Pc) (PostOf Qc mc ms free) (vx_Post XC mc ms free) := vx_callBack cw.1 hM hp.1
  obtain ⟨⟨-, -, -, -, -, -, hcode, hini, hy, hlen, hl⟩, hstt⟩ := cw
  obtain ⟨hx, hb, hml, ho, -⟩ := S
  intro T hT X
  rcases vx_callS X hx (bytes := bytes) (maxL := maxL) (ret := ret) ho hl hstt hini hcode hy hK hg (hsize.trans hml.symm) (argsL := As) (rest := rest) (fun sig h => hn.trans (hlen sig h)) hstack hW (by rw [hb]; exact hdg)
    (fun vm₁ hW₁ => ⟨hf.1, hf.2, hp.2 (T.setVm vm₁) hT hW₁⟩) with ⟨v, vm₁, ⟨U', l2, c2, s2⟩, hW₁, X', ⟨g', mk, t, L, e1, e2, hq, h1, hL, h2, h3⟩, st⟩ | ⟨q, vm₁, ⟨U', l2, c2, s2⟩, hW₁, X', ⟨g', mk, t, L, E, ce, e1, e2, hq, hce, hcv, hcl, h1, hL, h2, h3⟩, st⟩
  · dsimp only [Pt.U, Pt.locs, Pt.cells, Pt.slots] at X' e1 e2 h1 h2 h3 st
    subst h1; subst h2; subst h3
    exact Or.inl ⟨v, (T.setVm vm₁).calling g' mk As.toArray, t, U', L, hT, X', hL, e1, e2, hq, st⟩
  · dsimp only [Pt.U, Pt.locs, Pt.cells, Pt.slots] at X' e1 e2 h1 h2 h3 st hcl
    subst h1; subst h2; subst h3
    exact Or.inr ⟨q, (T.setVm vm₁).calling g' mk As.toArray, t, U', L, E, ce, hT, X', hL, e1, e2, hq, hce, hcv, vx_cls hW₁ hcl, st⟩
end Runs
section Rows
variable {p : Program} {l : Launch} {e : Env} {R : Room} {s : State} {m : MethodId} {args : Array Value} {below : List Frame} {meth : Method} {c : Code} {H : Heap} {locs : List Loc} {cells slots : Nat} {Q : State → Prop}
variable {mc ms : Nat} {free : Addr → Prop} {A0 A1 : Nat → Prop} {H0 : Heap} {a : Array Value} {pc : Nat} {ls : Array Slot} {st0 rest : List Value}
theorem vx_keep {st₀ t T' : State} {L : List Loc} (h0 : st₀.heap = H) (e1 : T'.heap = t.heap) (hS : va_S A0 H0 H locs) (hA : ∀ q, q < H.size → A1 q → A0 q) (hf : ∀ q, free q → A0 q) (hL : ∀ q ∈ L, free q.base) (hF : va_F A1 st₀ t) :
    H.size ≤ T'.heap.size ∧ (∀ q : Nat, q < H.size → ¬ A1 q → T'.heap[q]? = H[q]?) ∧ va_S A0 H0 T'.heap (locs ++ L) := by
  obtain ⟨hz, hk⟩ := hF
  rw [h0] at hz hk
  exact ⟨by rw [e1]; exact hz, fun q h1 h2 => by rw [e1]; exact hk q h1 h2,
    ⟨Nat.le_trans hS.1 (by rw [e1]; exact hz), fun q h1 h2 => by rw [e1, hk q (Nat.lt_of_lt_of_le h1 hS.1) (fun z => h2 (hA q (Nat.lt_of_lt_of_le h1 hS.1) z))]; exact hS.2.1 q h1 h2, fun q hq => by
      rcases List.mem_append.mp hq with h | h
      · exact hS.2.2 q h
      · exact hf _ (hL q h)⟩⟩
theorem vx_calli {S SX : Type} {post : Int32 → S → Prop} {px : SX → Prop} {B : S → State → Prop} {BX : String → SX → State → Prop} {AX : Nat → Prop} (hr : vx_Run p l e R s m args below meth c H locs cells slots mc ms (F0 m pc ls st0) rest (va_Qi post B A1 a) (vx_X px BX AX) free) (hS : va_S A0 H0 H locs) (hA : ∀ q, q < H.size → A1 q → A0 q) (hf : ∀ q, free q → A0 q) (hAX : ∀ q, q < H.size → AX q → A0 q)
    (kx : ∀ (E : String) (ce : Cell) (q9 : Addr) (u : SX) (t : State) (H1 : Heap) (locs1 : List Loc), t.heap = H1 → s.vm.Alike t.vm → px u → BX E u t → H.size ≤ H1.size → (∀ q : Nat, q < H.size → ¬ AX q → H1[q]? = H[q]?) → va_S A0 H0 H1 locs1 → H1[q9]? = some ce → ce.vm = .none → s.vm.findClass E = some ce.cls → vx_W p l e R s m args below meth c H1 locs1 (cells + mc) (slots + ms) Q (F0 m pc ls rest) q9)
    (kk : ∀ (r : Int32) (u : S) (t : State) (H1 : Heap) (locs1 : List Loc), t.heap = H1 → s.vm.Alike t.vm → post r u → B u t → H.size ≤ H1.size → (∀ q : Nat, q < H.size → ¬ A1 q → H1[q]? = H[q]?) → va_S A0 H0 H1 locs1 → W p l e R s m args below meth c H1 locs1 (cells + mc) (slots + ms) Q (F0 m (pc + 3) ls (.int r :: rest))) : W p l e R s m args below meth c H locs cells slots Q (F0 m pc ls st0) := by
  intro T hT X
  rcases hr T hT X with ⟨v, st₀, t, T', L, h0, X', hL, e1, e2, ⟨⟨r, u, hv, hp, hb⟩, hF⟩, st⟩ | ⟨q, st₀, t, T', L, E, ce, h0, X', hL, e1, e2, ⟨u, hp, hb, hF⟩, hce, hcv, hcl, st⟩
  · cases hv
    obtain ⟨k1, k2, k3⟩ := vx_keep h0 e1 hS hA hf hL hF
    obtain ⟨t2, a1, b1⟩ := kk r u t T'.heap (locs ++ L) e1.symm (by rw [← e2]; exact X'.warmed.alike) hp hb k1 k2 k3 T' rfl X'
    exact ⟨t2, st t2 a1, b1⟩
  · obtain ⟨k1, k2, k3⟩ := vx_keep h0 e1 hS hAX hf hL hF
    obtain ⟨t2, a1, b1⟩ := kx E ce q u t T'.heap (locs ++ L) e1.symm (by rw [← e2]; exact X'.warmed.alike) hp hb k1 k2 k3 (by rw [e1]; exact hce) hcv hcl T' rfl X'
    exact ⟨t2, st.trans a1, b1⟩
theorem vx_calll {S SX : Type} {post : Int64 → S → Prop} {px : SX → Prop} {B : S → State → Prop} {BX : String → SX → State → Prop} {AX : Nat → Prop} (hr : vx_Run p l e R s m args below meth c H locs cells slots mc ms (F0 m pc ls st0) rest (va_Ql post B A1 a) (vx_X px BX AX) free) (hS : va_S A0 H0 H locs) (hA : ∀ q, q < H.size → A1 q → A0 q) (hf : ∀ q, free q → A0 q) (hAX : ∀ q, q < H.size → AX q → A0 q)
    (kx : ∀ (E : String) (ce : Cell) (q9 : Addr) (u : SX) (t : State) (H1 : Heap) (locs1 : List Loc), t.heap = H1 → s.vm.Alike t.vm → px u → BX E u t → H.size ≤ H1.size → (∀ q : Nat, q < H.size → ¬ AX q → H1[q]? = H[q]?) → va_S A0 H0 H1 locs1 → H1[q9]? = some ce → ce.vm = .none → s.vm.findClass E = some ce.cls → vx_W p l e R s m args below meth c H1 locs1 (cells + mc) (slots + ms) Q (F0 m pc ls rest) q9)
    (kk : ∀ (r : Int64) (u : S) (t : State) (H1 : Heap) (locs1 : List Loc), t.heap = H1 → s.vm.Alike t.vm → post r u → B u t → H.size ≤ H1.size → (∀ q : Nat, q < H.size → ¬ A1 q → H1[q]? = H[q]?) → va_S A0 H0 H1 locs1 → W p l e R s m args below meth c H1 locs1 (cells + mc) (slots + ms) Q (F0 m (pc + 3) ls (.long r :: rest))) : W p l e R s m args below meth c H locs cells slots Q (F0 m pc ls st0) := by
  intro T hT X
  rcases hr T hT X with ⟨v, st₀, t, T', L, h0, X', hL, e1, e2, ⟨⟨r, u, hv, hp, hb⟩, hF⟩, st⟩ | ⟨q, st₀, t, T', L, E, ce, h0, X', hL, e1, e2, ⟨u, hp, hb, hF⟩, hce, hcv, hcl, st⟩
  · cases hv
    obtain ⟨k1, k2, k3⟩ := vx_keep h0 e1 hS hA hf hL hF
    obtain ⟨t2, a1, b1⟩ := kk r u t T'.heap (locs ++ L) e1.symm (by rw [← e2]; exact X'.warmed.alike) hp hb k1 k2 k3 T' rfl X'
    exact ⟨t2, st t2 a1, b1⟩
  · obtain ⟨k1, k2, k3⟩ := vx_keep h0 e1 hS hAX hf hL hF
    obtain ⟨t2, a1, b1⟩ := kx E ce q u t T'.heap (locs ++ L) e1.symm (by rw [← e2]; exact X'.warmed.alike) hp hb k1 k2 k3 (by rw [e1]; exact hce) hcv hcl T' rfl X'
    exact ⟨t2, st.trans a1, b1⟩
theorem vx_callf {S SX : Type} {post : UInt32 → S → Prop} {px : SX → Prop} {B : S → State → Prop} {BX : String → SX → State → Prop} {AX : Nat → Prop} (hr : vx_Run p l e R s m args below meth c H locs cells slots mc ms (F0 m pc ls st0) rest (va_Qf post B A1 a) (vx_X px BX AX) free) (hS : va_S A0 H0 H locs) (hA : ∀ q, q < H.size → A1 q → A0 q) (hf : ∀ q, free q → A0 q) (hAX : ∀ q, q < H.size → AX q → A0 q)
    (kx : ∀ (E : String) (ce : Cell) (q9 : Addr) (u : SX) (t : State) (H1 : Heap) (locs1 : List Loc), t.heap = H1 → s.vm.Alike t.vm → px u → BX E u t → H.size ≤ H1.size → (∀ q : Nat, q < H.size → ¬ AX q → H1[q]? = H[q]?) → va_S A0 H0 H1 locs1 → H1[q9]? = some ce → ce.vm = .none → s.vm.findClass E = some ce.cls → vx_W p l e R s m args below meth c H1 locs1 (cells + mc) (slots + ms) Q (F0 m pc ls rest) q9)
    (kk : ∀ (r : UInt32) (u : S) (t : State) (H1 : Heap) (locs1 : List Loc), t.heap = H1 → s.vm.Alike t.vm → post r u → B u t → H.size ≤ H1.size → (∀ q : Nat, q < H.size → ¬ A1 q → H1[q]? = H[q]?) → va_S A0 H0 H1 locs1 → W p l e R s m args below meth c H1 locs1 (cells + mc) (slots + ms) Q (F0 m (pc + 3) ls (.float r :: rest))) : W p l e R s m args below meth c H locs cells slots Q (F0 m pc ls st0) := by
  intro T hT X
  rcases hr T hT X with ⟨v, st₀, t, T', L, h0, X', hL, e1, e2, ⟨⟨r, u, hv, hp, hb⟩, hF⟩, st⟩ | ⟨q, st₀, t, T', L, E, ce, h0, X', hL, e1, e2, ⟨u, hp, hb, hF⟩, hce, hcv, hcl, st⟩
  · cases hv
    obtain ⟨k1, k2, k3⟩ := vx_keep h0 e1 hS hA hf hL hF
    obtain ⟨t2, a1, b1⟩ := kk r u t T'.heap (locs ++ L) e1.symm (by rw [← e2]; exact X'.warmed.alike) hp hb k1 k2 k3 T' rfl X'
    exact ⟨t2, st t2 a1, b1⟩
  · obtain ⟨k1, k2, k3⟩ := vx_keep h0 e1 hS hAX hf hL hF
    obtain ⟨t2, a1, b1⟩ := kx E ce q u t T'.heap (locs ++ L) e1.symm (by rw [← e2]; exact X'.warmed.alike) hp hb k1 k2 k3 (by rw [e1]; exact hce) hcv hcl T' rfl X'
    exact ⟨t2, st.trans a1, b1⟩
theorem vx_calld {S SX : Type} {post : UInt64 → S → Prop} {px : SX → Prop} {B : S → State → Prop} {BX : String → SX → State → Prop} {AX : Nat → Prop} (hr : vx_Run p l e R s m args below meth c H locs cells slots mc ms (F0 m pc ls st0) rest (va_Qd post B A1 a) (vx_X px BX AX) free) (hS : va_S A0 H0 H locs) (hA : ∀ q, q < H.size → A1 q → A0 q) (hf : ∀ q, free q → A0 q) (hAX : ∀ q, q < H.size → AX q → A0 q)
    (kx : ∀ (E : String) (ce : Cell) (q9 : Addr) (u : SX) (t : State) (H1 : Heap) (locs1 : List Loc), t.heap = H1 → s.vm.Alike t.vm → px u → BX E u t → H.size ≤ H1.size → (∀ q : Nat, q < H.size → ¬ AX q → H1[q]? = H[q]?) → va_S A0 H0 H1 locs1 → H1[q9]? = some ce → ce.vm = .none → s.vm.findClass E = some ce.cls → vx_W p l e R s m args below meth c H1 locs1 (cells + mc) (slots + ms) Q (F0 m pc ls rest) q9)
    (kk : ∀ (r : UInt64) (u : S) (t : State) (H1 : Heap) (locs1 : List Loc), t.heap = H1 → s.vm.Alike t.vm → post r u → B u t → H.size ≤ H1.size → (∀ q : Nat, q < H.size → ¬ A1 q → H1[q]? = H[q]?) → va_S A0 H0 H1 locs1 → W p l e R s m args below meth c H1 locs1 (cells + mc) (slots + ms) Q (F0 m (pc + 3) ls (.double r :: rest))) : W p l e R s m args below meth c H locs cells slots Q (F0 m pc ls st0) := by
  intro T hT X
  rcases hr T hT X with ⟨v, st₀, t, T', L, h0, X', hL, e1, e2, ⟨⟨r, u, hv, hp, hb⟩, hF⟩, st⟩ | ⟨q, st₀, t, T', L, E, ce, h0, X', hL, e1, e2, ⟨u, hp, hb, hF⟩, hce, hcv, hcl, st⟩
  · cases hv
    obtain ⟨k1, k2, k3⟩ := vx_keep h0 e1 hS hA hf hL hF
    obtain ⟨t2, a1, b1⟩ := kk r u t T'.heap (locs ++ L) e1.symm (by rw [← e2]; exact X'.warmed.alike) hp hb k1 k2 k3 T' rfl X'
    exact ⟨t2, st t2 a1, b1⟩
  · obtain ⟨k1, k2, k3⟩ := vx_keep h0 e1 hS hAX hf hL hF
    obtain ⟨t2, a1, b1⟩ := kx E ce q u t T'.heap (locs ++ L) e1.symm (by rw [← e2]; exact X'.warmed.alike) hp hb k1 k2 k3 (by rw [e1]; exact hce) hcv hcl T' rfl X'
    exact ⟨t2, st.trans a1, b1⟩
theorem vx_callv {S SX : Type} {post : S → Prop} {px : SX → Prop} {B : S → State → Prop} {BX : String → SX → State → Prop} {AX : Nat → Prop} (hr : vx_Run p l e R s m args below meth c H locs cells slots mc ms (F0 m pc ls st0) rest (va_Qv post B A1 a) (vx_X px BX AX) free) (hS : va_S A0 H0 H locs) (hA : ∀ q, q < H.size → A1 q → A0 q) (hf : ∀ q, free q → A0 q) (hAX : ∀ q, q < H.size → AX q → A0 q)
    (kx : ∀ (E : String) (ce : Cell) (q9 : Addr) (u : SX) (t : State) (H1 : Heap) (locs1 : List Loc), t.heap = H1 → s.vm.Alike t.vm → px u → BX E u t → H.size ≤ H1.size → (∀ q : Nat, q < H.size → ¬ AX q → H1[q]? = H[q]?) → va_S A0 H0 H1 locs1 → H1[q9]? = some ce → ce.vm = .none → s.vm.findClass E = some ce.cls → vx_W p l e R s m args below meth c H1 locs1 (cells + mc) (slots + ms) Q (F0 m pc ls rest) q9)
    (kk : ∀ (u : S) (t : State) (H1 : Heap) (locs1 : List Loc), t.heap = H1 → s.vm.Alike t.vm → post u → B u t → H.size ≤ H1.size → (∀ q : Nat, q < H.size → ¬ A1 q → H1[q]? = H[q]?) → va_S A0 H0 H1 locs1 → W p l e R s m args below meth c H1 locs1 (cells + mc) (slots + ms) Q (F0 m (pc + 3) ls (rest))) : W p l e R s m args below meth c H locs cells slots Q (F0 m pc ls st0) := by
  intro T hT X
  rcases hr T hT X with ⟨v, st₀, t, T', L, h0, X', hL, e1, e2, ⟨⟨u, hv, hp, hb⟩, hF⟩, st⟩ | ⟨q, st₀, t, T', L, E, ce, h0, X', hL, e1, e2, ⟨u, hp, hb, hF⟩, hce, hcv, hcl, st⟩
  · cases hv
    obtain ⟨k1, k2, k3⟩ := vx_keep h0 e1 hS hA hf hL hF
    obtain ⟨t2, a1, b1⟩ := kk u t T'.heap (locs ++ L) e1.symm (by rw [← e2]; exact X'.warmed.alike) hp hb k1 k2 k3 T' rfl X'
    exact ⟨t2, st t2 a1, b1⟩
  · obtain ⟨k1, k2, k3⟩ := vx_keep h0 e1 hS hAX hf hL hF
    obtain ⟨t2, a1, b1⟩ := kx E ce q u t T'.heap (locs ++ L) e1.symm (by rw [← e2]; exact X'.warmed.alike) hp hb k1 k2 k3 (by rw [e1]; exact hce) hcv hcl T' rfl X'
    exact ⟨t2, st.trans a1, b1⟩
/-- caught by the row x of this method's table; the rows ahead don't take it -/
theorem vx_catch {own name : String} {E : String} {ce : Cell} {q : Addr} (hown : s.vm.findClass own = some m.cls) (pre : List ExceptionTableEntry) (x : ExceptionTableEntry) (suf : List ExceptionTableEntry) (hsplit : c.exceptionTable.toList = pre ++ x :: suf)
    (hpass : ∀ z ∈ pre, covers z pc = false ∨ (z.catchType ≠ 0 ∧ ∃ nm : String, (Cond.classLink own z.catchType nm).before args s = true ∧ va_Nc E nm s)) (hx : covers x pc = true) (h0 : x.catchType ≠ 0)
    (hlink : (Cond.classLink own x.catchType name).before args s = true) (hcast : (Cond.castable E name).before args s = true) (hcell : H[q]? = some ce) (hv : ce.vm = .none) (hcl : s.vm.findClass E = some ce.cls)
    (kk : W p l e R s m args below meth c H locs cells slots Q (F0 m x.handlerPc ls [.ref q])) : vx_W p l e R s m args below meth c H locs cells slots Q (F0 m pc ls rest) q := by
  intro T hT X
  have hpl : e.platform.magicAccessors = ({} : Platform).magicAccessors := by rw [X.admits.platform]
  obtain ⟨c3, c4, hc3, hc4, hasg⟩ := Cond.castable_spec hcast
  cases Option.some.inj (hc3.symm.trans hcl)
  obtain ⟨c5, hc5, hcl5⟩ := Cond.classLink_spec hown hlink e.platform hpl
  cases Option.some.inj (hc4.symm.trans hc5)
  obtain ⟨vm', X', st⟩ := X.thenCaughtThrough q (g := F0 m pc ls rest) rfl (Steps.refl _) (by rw [hT]; exact hcell) (by rw [hv]; rfl) (by obtain ⟨k9, h9, -⟩ := Vm.findClass_spec hcl; exact ⟨k9, h9⟩) pre x suf hsplit
    (fun z hz => by
      rcases hpass z hz with h | ⟨hz0, nm, hl1, hn1⟩
      · exact Or.inl h
      · obtain ⟨c6, hc6, hcl6⟩ := Cond.classLink_spec hown hl1 e.platform hpl
        obtain ⟨a8, b8, h1, h2, h3⟩ := hn1
        cases Option.some.inj (h1.symm.trans hcl)
        cases Option.some.inj (h2.symm.trans hc6)
        exact Or.inr ⟨hz0, _, hcl6, h3⟩) hx (Or.inr ⟨h0, c4, hcl5, hasg⟩)
  obtain ⟨t, a1, b1⟩ := kk (T.setVm vm') hT X'
  exact ⟨t, st.trans a1, b1⟩
end Rows
section Ends
variable {p : Program} {l : Launch} {e : Env} {R : Room} {s : State} {m : MethodId} {args : Array Value} {below : List Frame} {meth : Method} {c : Code} {H : Heap} {locs : List Loc} {cells slots : Nat} {Q : State → Prop}
variable {mc ms : Nat} {free : Addr → Prop} {A0 A1 : Nat → Prop} {H0 : Heap} {a : Array Value} {ls : Array Slot} {st0 rest : List Value}
variable {Qc : Array Value → State → Outcome → State → Prop} {XC : String → State → State → Prop}
/-- what a body that may throw owes at its end -/
def vx_MQ (below : List Frame) (Qc : Array Value → State → Outcome → State → Prop) (XC : String → State → State → Prop) (a : Array Value) (s : State) (mc ms : Nat) (free : Addr → Prop) : State → Prop := fun t =>
  ∃ o, t.status = .running ∧ Ended t below o ∧ vx_Q Qc XC mc ms free a s o t
theorem vx_ret {g : JFrame} {mc ms : Nat} (k : W p l e R s m args below meth c H locs cells slots (MQ below Qc args s mc ms free) g) : W p l e R s m args below meth c H locs cells slots (vx_MQ below Qc XC args s mc ms free) g := by
  intro T hT X
  obtain ⟨t, a1, o, b1, b2, b3, b4⟩ := k T hT X
  exact ⟨t, a1, o, b1, b2, Or.inl ⟨b3, b4⟩⟩
/-- not caught here: it goes on to the caller -/
theorem vx_widen {g : JFrame} {q : Addr} {k n : Nat} (h1 : cells ≤ k) (h2 : slots ≤ n) (kk : vx_W p l e R s m args below meth c H locs k n Q g q) : vx_W p l e R s m args below meth c H locs cells slots Q g q := fun T hT X => kk T hT (stand_widen X h1 h2)
theorem vx_out {pc : Nat} {E : String} {ce : Cell} {q : Addr} {mc ms : Nat} (hout : ∀ x ∈ c.exceptionTable.toList, covers x pc = false) (hlocks : meth.locks = false) (hcell : H[q]? = some ce) (hv : ce.vm = .none) (hcl : s.vm.findClass E = some ce.cls)
    (hx : ∀ t : State, t.heap = H → s.vm.Alike t.vm → XC E s t) (hf : ∀ z ∈ locs, free z.base) (hc : cells ≤ mc) (hs : slots ≤ ms) :
    vx_W p l e R s m args below meth c H locs cells slots (vx_MQ below Qc XC args s mc ms free) (F0 m pc ls rest) q := by
  intro T hT X
  obtain ⟨st1, hrun, hend, hW, hsm⟩ := X.leaveThrown q (g := F0 m pc ls rest) rfl rfl rfl hout hlocks
  have hcell9 : (T.setFrames (.throwing q :: below)).heap[q]? = some ce := by
    show T.heap[q]? = some ce
    rw [hT]; exact hcell
  exact ⟨_, st1, .threw q, hrun, hend, Or.inr ⟨q, rfl, E, ce, locs, hx _ hT hW.alike, hcell9, hv, hcl, hW, hsm.mono hc hs, hf⟩⟩
theorem vx_frame {U : State} {k n : Nat} (h : s.sameButNew ({ U with vm := s.vm } : State) locs k n) : s.heap.size ≤ U.heap.size ∧ ∀ q : Nat, q < s.heap.size → (∀ z ∈ locs, z.base ≠ q) → U.heap[q]? = s.heap[q]? := by
  obtain ⟨-, h2, -, -, -, h6⟩ := h
  refine ⟨h2, fun q hq hz => ?_⟩
  obtain ⟨c9, e1, e2, e3, e4⟩ := h6 q _ (Array.getElem?_eq_getElem hq)
  have hs : c9.slots = (s.heap[q]).slots := Array.ext_getElem? fun i => e4 i fun hm => hz _ hm rfl
  have h9 : c9 = s.heap[q] := by
    rw [hs] at e2
    exact e2
  have e5 : U.heap[q]? = some c9 := e1
  rw [e5, h9, Array.getElem?_eq_getElem hq]
/-- the words of a throw but the four that speak of the heap -/
def vx_no (w : Cond) : Bool := decide (w ≠ .isRef (.static Bundle.tN "UNASSIGNED_STACK" Bundle.steD)) && decide (w ≠ .isRef (.static Bundle.tN "SUPPRESSED_SENTINEL" Bundle.listD)) && decide (w ≠ .laysStatic Bundle.tN "UNASSIGNED_STACK" Bundle.steD) && decide (w ≠ .laysStatic Bundle.tN "SUPPRESSED_SENTINEL" Bundle.listD)
def vx_at0 (own : String) (ic : Nat) (X : String) (names : List String) : List Cond := (Bundle.ownAtoms0 own ic X names).filter vx_no
def vx_atS (own : String) (ic : Nat) (X : String) (names : List String) : List Cond := (Bundle.ownAtoms own ic X names).filter vx_no
/-- a word that the tables alone decide, or a good one -/
def vx_ot (w : Cond) : Bool := w.onTables || goodWord w
theorem vx_ot_at {args a' : Array Value} {s U : State} {w : Cond} (hW : s.WarmedH U.vm) (hvm : s.vm = U.vm) (hg : vx_ot w = true) (h : w.before args s = true) : w.before a' U = true := by
  simp only [vx_ot, Bool.or_eq_true] at hg
  rcases hg with hg | hg
  · exact va_tabs hg hvm h
  · exact word_at hW (good_of_word hg) h
/-- a list's words: the good ones out of the method's own list, the others by premises of their own -/
theorem vx_hat {args : Array Value} {s : State} {L B : List Cond} (h1 : ∀ w ∈ L.filter goodWord, w.before args s = true) (h2 : ∀ w ∈ L.filter (fun w => !goodWord w), w ∈ B) (h3 : ∀ w ∈ B, w.before args s = true) : ∀ w ∈ L, w.before args s = true := by
  intro w hw
  by_cases g : goodWord w = true
  · exact h1 w (List.mem_filter.mpr ⟨hw, g⟩)
  · refine h3 w (h2 w (List.mem_filter.mpr ⟨hw, ?_⟩))
    show (!goodWord w) = true
    cases hgw : goodWord w
    · rfl
    · exact absurd hgw g
theorem vx_c {args : Array Value} {s : State} {w : Cond} {B : List Cond} (h : w.before args s = true) (t : ∀ w ∈ B, w.before args s = true) : ∀ w' ∈ w :: B, w'.before args s = true := fun w' h' => (List.mem_cons.mp h').elim (fun e => by rw [e]; exact h) (t w')
theorem vx_n {args : Array Value} {s : State} : ∀ w ∈ ([] : List Cond), w.before args s = true := fun _ h => nomatch h
theorem vx_own {args : Array Value} {s : State} {L : List Cond} (h1 : ∀ w ∈ L.filter vx_no, w.before args s = true)
    (hU : (Cond.isRef (.static Bundle.tN "UNASSIGNED_STACK" Bundle.steD)).before args s = true) (hN : (Cond.isRef (.static Bundle.tN "SUPPRESSED_SENTINEL" Bundle.listD)).before args s = true)
    (lU : (Cond.laysStatic Bundle.tN "UNASSIGNED_STACK" Bundle.steD).before args s = true) (lN : (Cond.laysStatic Bundle.tN "SUPPRESSED_SENTINEL" Bundle.listD).before args s = true) : ∀ w ∈ L, w.before args s = true := by
  intro w hw
  by_cases e1 : w = .isRef (.static Bundle.tN "UNASSIGNED_STACK" Bundle.steD)
  · rw [e1]; exact hU
  · by_cases e2 : w = .isRef (.static Bundle.tN "SUPPRESSED_SENTINEL" Bundle.listD)
    · rw [e2]; exact hN
    · by_cases e3 : w = .laysStatic Bundle.tN "UNASSIGNED_STACK" Bundle.steD
      · rw [e3]; exact lU
      · by_cases e4 : w = .laysStatic Bundle.tN "SUPPRESSED_SENTINEL" Bundle.listD
        · rw [e4]; exact lN
        · exact h1 w (List.mem_filter.mpr ⟨hw, by unfold vx_no; rw [decide_eq_true e1, decide_eq_true e2, decide_eq_true e3, decide_eq_true e4]; rfl⟩)
/-- where a static field lies, its class's statics cell in H -/
def vx_L (C n d : String) (A : Nat → Prop) (U : State) (H : Heap) : Prop := ∃ (c : ClassId) (k : Class) (i : Nat) (f : Field) (a : Nat) (cell : Cell), U.vm.findClass C = some c ∧ U.fieldFound? C n d = some (c, k, i, f) ∧ f.isStatic = true ∧ k.statics = some a ∧ H[a]? = some cell ∧ cell.vm.isStatics = true ∧ cell.cls = c ∧ f.slot < cell.slots.size ∧ k.staticTypes[f.slot]? = some f.type ∧ ¬ A a
theorem vx_L.moved {C n d : String} {A : Nat → Prop} {u U : State} {H : Heap} (hvm : u.vm.Alike U.vm) (h : vx_L C n d A u H) : vx_L C n d A U H := by
  obtain ⟨c, k, i, f, a, cell, h1, h2, h3, h4, h5, h6, h7, h8, h9, h10⟩ := h
  obtain ⟨k', hi', he⟩ := State.fieldFound?_setVm hvm h2
  exact ⟨c, k', i, f, a, cell, by rw [hvm.findClass]; exact h1, hi', h3, by rw [he]; exact h4, h5, h6, h7, h8, by rw [he]; exact h9, h10⟩
theorem vx_L.kept {C n d : String} {A : Nat → Prop} {U : State} {H H1 : Heap} (h : vx_L C n d A U H) (hq : ∀ a : Nat, a < H.size → ¬ A a → H1[a]? = H[a]?) : vx_L C n d A U H1 := by
  obtain ⟨c, k, i, f, a, cell, h1, h2, h3, h4, h5, h6, h7, h8, h9, h10⟩ := h
  exact ⟨c, k, i, f, a, cell, h1, h2, h3, h4, by rw [hq a (Array.getElem?_eq_some_iff.mp h5).1 h10]; exact h5, h6, h7, h8, h9, h10⟩
theorem vx_L.narrow {C n d : String} {A B : Nat → Prop} {U : State} {H : Heap} (h : vx_L C n d A U H) (hAB : ∀ q, B q → A q) : vx_L C n d B U H := by
  obtain ⟨c, k, i, f, a, cell, h1, h2, h3, h4, h5, h6, h7, h8, h9, h10⟩ := h
  exact ⟨c, k, i, f, a, cell, h1, h2, h3, h4, h5, h6, h7, h8, h9, fun z => h10 (hAB _ z)⟩
theorem vx_L.word {C n d : String} {A : Nat → Prop} {s : State} {args : Array Value} (h : vx_L C n d A s s.heap) : (Cond.laysStatic C n d).before args s = true := by
  obtain ⟨c, k, i, f, a, cell, h1, h2, h3, h4, h5, h6, h7, h8, h9, -⟩ := h
  show (Cond.laysStatic C n d).holds args s none s [] = true
  exact Cond.laysStatic_of h1 h2 h3 h4 h5 h6 h7 h8 h9
/-- .. and what it holds: null or some reference -/
def vx_Zq (C n d : String) (A : Nat → Prop) (U : State) (H : Heap) : Prop := va_Zq C n d A U H ∧ vx_L C n d A U H
theorem vx_Zq.moved {C n d : String} {A : Nat → Prop} {u U : State} {H : Heap} (hvm : u.vm.Alike U.vm) (h : vx_Zq C n d A u H) : vx_Zq C n d A U H := ⟨va_Zq.moved hvm h.1, vx_L.moved hvm h.2⟩
theorem vx_Zq.kept {C n d : String} {A : Nat → Prop} {U : State} {H H1 : Heap} (h : vx_Zq C n d A U H) (hq : ∀ a : Nat, a < H.size → ¬ A a → H1[a]? = H[a]?) : vx_Zq C n d A U H1 := ⟨va_Zq.kept h.1 hq, vx_L.kept h.2 hq⟩
theorem vx_Zq.narrow {C n d : String} {A B : Nat → Prop} {U : State} {H : Heap} (h : vx_Zq C n d A U H) (hAB : ∀ q, B q → A q) : vx_Zq C n d B U H := ⟨va_Zq.narrow h.1 hAB, vx_L.narrow h.2 hAB⟩
theorem vx_Zqof {args : Array Value} {s : State} {C n d : String} {A : Nat → Prop} (hl : (Cond.laysStatic C n d).before args s = true) (hini : (Cond.initialized C).before args s = true) (h : (Cond.isRef (.static C n d)).before args s = true) (hA : ∀ a : Nat, a < s.heap.size → ¬ A a) : vx_Zq C n d A s s.heap := by
  refine ⟨va_Zqof hl hini h hA, ?_⟩
  obtain ⟨c, k, i, f, a, cell, h1, h2, h3, h4, h5, h6, h7, h8, h9⟩ := Cond.laysStatic_spec hl
  exact ⟨c, k, i, f, a, cell, h1, h2, h3, h4, h5, h6, h7, h8, h9, hA a (Array.getElem?_eq_some_iff.mp h5).1⟩
theorem vx_isRef {C n d : String} {v : Value} {A : Nat → Prop} {s : State} {args : Array Value} (h : va_Z C n d v A s s.heap) (hv : v.isRef = true) : (Cond.isRef (.static C n d)).before args s = true := by
  obtain ⟨cf, kf, fi, f, a, cell, h1, h2, h3, h4, h5, h6, h7, -⟩ := h
  have he : (Term.static C n d).eval args s none [] s = some v := by
    simp [Term.eval, State.fieldNamed?, h1, h2, h4, h5, h6, h7]
  simp only [Cond.before, Cond.holds, Cond.value, he]
  cases v <;> simp_all [Value.isRef]
theorem vx_isRefq {C n d : String} {A : Nat → Prop} {s : State} {args : Array Value} (h : va_Zq C n d A s s.heap) : (Cond.isRef (.static C n d)).before args s = true := by
  rcases h with h | ⟨t, h⟩
  · exact vx_isRef h rfl
  · exact vx_isRef h rfl
/-- the same frame, seen from here: as if the method were called anew in this heap -/
theorem vx_rebase {T : State} (X : Stand p l e R s m args below meth c T locs cells slots) {R' : Room} (hf : R'.frames ≤ R.frames) (hl : R'.locals ≤ R.locals) (hc : cells + R'.cells ≤ R.cells) (hs : slots + R'.slots ≤ R.slots) :
    Stand p l e R' ((T.setVm s.vm).setFrames (.invoking m args :: below)) m args below meth c T [] 0 0 := by
  have htop : (T.setVm s.vm).topJava?.isSome := X.here.top
  have hF : ((T.setVm s.vm).setFrames (.invoking m args :: below)).frames = .invoking m args :: below := State.frames_setFrames _ (State.cur_lt_of_top htop)
  obtain ⟨g₀, hg0⟩ := Option.isSome_iff_exists.mp htop
  obtain ⟨r, hr⟩ := State.topJava?_eq_some.mp hg0
  have hl9 : e.platform.stackLimits (T.setVm s.vm).me = e.platform.stackLimits s.me := X.limits
  have hb9 : (T.setVm s.vm).me.stackBytes = s.me.stackBytes := X.bytes
  refine ⟨X.admits, X.cas, X.clock, hF, ?_, X.hears, X.method, X.code, X.here, X.tail, X.warmed, ?_, ?_, ?_⟩
  · have h := X.room
    have hU : ((T.setVm s.vm).setFrames (.invoking m args :: below)).localsInUse = s.localsInUse := by
      rw [State.localsInUse_invoking hF (meth := meth) (c := c) X.method X.code, State.localsInUse_invoking X.frames X.method X.code]
    simp only [State.hasRoom, Bool.and_eq_true, decide_eq_true_eq] at h ⊢
    obtain ⟨⟨⟨⟨h1, h2, h3, h4, h5, h6⟩, h7⟩, h8⟩, h9⟩ := h
    rw [X.frames, List.length_cons] at h2 h3
    have q1 := X.heapSize
    have q2 := X.used
    simp only [hF, hU, List.length_cons, State.stackLimits_setFrames, State.stackBytes_setFrames, hl9, hb9]
    refine ⟨⟨⟨⟨by omega, by omega, by omega, by omega, by omega, h6⟩, ?_⟩, ?_⟩, X.book⟩
    · show T.heap.size + R'.cells ≤ e.platform.maxCells
      omega
    · show T.slotsUsed + R'.slots ≤ e.platform.maxSlots
      omega
  · rw [State.stackLimits_setFrames]; rfl
  · rw [State.stackBytes_setFrames]; rfl
  · refine ⟨?_, Nat.le_refl _, Nat.le_refl _, ?_, ?_, fun a c9 h9 => ⟨c9, h9, rfl, rfl, fun _ _ => rfl⟩⟩
    · obtain ⟨t, ht, -⟩ := State.frames_cons hr
      show T.setVm s.vm = { ((T.setVm s.vm).setFrames (.invoking m args :: below)).setFrames (T.setVm s.vm).frames with heap := T.heap, slotsUsed := T.slotsUsed }
      rw [State.setFrames_setFrames, State.setFrames_self ht]
      rfl
    · show T.slotsUsed = T.slotsUsed + ((T.heap.toList.drop T.heap.size).map (·.slots.size)).sum
      rw [List.drop_eq_nil_of_le (Nat.le_of_eq Array.length_toList)]
      rfl
    · show ((T.heap.toList.drop T.heap.size).map (·.slots.size)).sum ≤ 0
      rw [List.drop_eq_nil_of_le (Nat.le_of_eq Array.length_toList)]
      exact Nat.le_refl _
/-- 'throw new E()': new; dup; invokespecial; athrow -/
theorem vx_throw0 {cc : ByteArray} {pc : Nat} (hexec : p.tables.exec = Jvm.exec) (hb : c.code = cc) (hl : l.stackTraces = false) {own cls : String} {names : List String} {ik ic mc ms : Nat} {A : Nat → Prop}
    (hown : s.vm.findClass own = some m.cls) (hcls : Bundle.fit cls = true) (hnames : ∀ n ∈ names, Bundle.fit n = true)
    (hk : (Cond.classLink own ik cls).before args s = true) (hini : (Cond.initialized cls).before args s = true) (hat : ∀ w ∈ vx_at0 own ic cls names, w.before args s = true)
    (hgood : ∀ w ∈ Cond.classLink own ik cls :: Cond.initialized cls :: vx_at0 own ic cls names, vx_ot w = true)
    (hU : vx_Zq Bundle.tN "UNASSIGNED_STACK" Bundle.steD A s s.heap) (hN : vx_Zq Bundle.tN "SUPPRESSED_SENTINEL" Bundle.listD A s s.heap) (hS : va_S A s.heap H locs) (hsize : ls.size = c.maxLocals)
    (d0 : decode cc pc = .ok (.new ik, 3)) (d3 : decode cc (pc + 3) = .ok (.dup, 1)) (d4 : decode cc (pc + 4) = .ok (.invokespecial ic, 3)) (d7 : decode cc (pc + 7) = .ok (.athrow, 1))
    (hout : ∀ x ∈ c.exceptionTable.toList, covers x (pc + 7) = false)
    (hRframes : names.length + 3 < R.frames) (hRlocals : (rest.map fun v => v.category).sum + (13 * (names.length + 1) + 42) ≤ R.locals) (hRcells : cells + 1 ≤ R.cells) (hRslots : slots + 6 ≤ R.slots) (hlocks : meth.locks = false)
    (hx : ∀ t : State, s.vm.Alike t.vm → H.size ≤ t.heap.size → (∀ q : Nat, q < H.size → t.heap[q]? = H[q]?) → XC cls s t)
    (hf : ∀ z ∈ locs, free z.base) (hc : cells + 1 ≤ mc) (hs : slots + 6 ≤ ms) :
    W p l e R s m args below meth c H locs cells slots (vx_MQ below Qc XC args s mc ms free) (F0 m pc ls rest) := by
  intro T hT X
  have htr : e.platform.stackTraces = false := (show e.platform.stackTraces = l.stackTraces by rw [X.admits.platform]).trans hl
  have Y := vx_rebase X (R' := { frames := R.frames, locals := R.locals, cells := 1, slots := 6 }) (Nat.le_refl _) (Nat.le_refl _) hRcells hRslots
  obtain ⟨s', hA⟩ : ∃ z, z = (T.setVm s.vm).setFrames (.invoking m args :: below) := ⟨_, rfl⟩
  rw [← hA] at Y
  have hvm : s'.vm = s.vm := by rw [hA]; rfl
  have hhp : s'.heap = H := by rw [hA]; exact hT
  have hW0 : s.WarmedH s'.vm := by rw [hvm]; exact State.WarmedH.refl s
  have hat' : ∀ w ∈ vx_at0 own ic cls names, w.before args s' = true := fun w hw => vx_ot_at hW0 hvm.symm (hgood w (List.mem_cons_of_mem _ (List.mem_cons_of_mem _ hw))) (hat w hw)
  have hk' : (Cond.classLink own ik cls).before args s' = true := vx_ot_at hW0 hvm.symm (hgood _ List.mem_cons_self) hk
  have hini' : (Cond.initialized cls).before args s' = true := vx_ot_at hW0 hvm.symm (hgood _ (List.mem_cons_of_mem _ List.mem_cons_self)) hini
  have hU' : vx_Zq Bundle.tN "UNASSIGNED_STACK" Bundle.steD A s' s'.heap := by rw [hhp]; exact vx_Zq.moved hW0.alike (hU.kept hS.2.1)
  have hN' : vx_Zq Bundle.tN "SUPPRESSED_SENTINEL" Bundle.listD A s' s'.heap := by rw [hhp]; exact vx_Zq.moved hW0.alike (hN.kept hS.2.1)
  have h : ∀ w ∈ Bundle.ownAtoms0 own ic cls names, w.before args s' = true := vx_own hat' (vx_isRefq hU'.1) (vx_isRefq hN'.1) hU'.2.word hN'.2.word
  have hown' : s'.vm.findClass own = some m.cls := by rw [hvm]; exact hown
  have hins : (Cond.instantiable cls 6).before args s' = true := h _ (by simp [Bundle.ownAtoms0])
  obtain ⟨vm₁, cX, kX, hfX, hkX, -, -, X₁, st1⟩ := Y.newCold hexec (own := own) (C := cls) (index := ik) (n := 6) hown' hk' hins hini'
    (g := F0 m pc ls rest) rfl (by rw [hb]; exact d0) (Nat.le_refl _) (Nat.le_refl _)
  generalize hT1 : (T.setVm vm₁).pushCell { cls := cX, slots := kX.instanceTypes.map defaultValue, vm := .none } = T1 at X₁ st1
  have hcat : (Value.ref T.heap.size).category = 1 := rfl
  have hcellA : T1.heap[T.heap.size]? = some (freshCell cX kX) := by rw [← hT1]; exact State.heap_pushCell_size _ _
  have d3' : decode c.code (pc + 3) = .ok (.dup, 1) := by rw [hb]; exact d3
  obtain ⟨U, hsteps, hrun, hend, hW, hsame, ce, hce, hO⟩ := X₁.ctorThrow0 hexec htr (own := own) (cls := cls) (names := names) (ic := ic) hown' hcls hnames h (fun x hx => nomatch hx) hfX hkX hcellA (by rw [hhp, hT]; exact Nat.le_refl _)
    (g := { method := m, pc := pc + 4, locals := ls, stack := .ref T.heap.size :: .ref T.heap.size :: rest, locked := none }) rfl hsize rfl rfl (rest := rest) rfl
    (by rw [hb]; exact d4) (by rw [hb]; exact d7) hout hRframes (by simp only [List.map_cons, List.sum_cons, hcat]; omega) hlocks
  obtain ⟨f1, f2⟩ := vx_frame hsame
  rw [hhp] at f1 f2
  have hWs : s.WarmedH U.vm := State.WarmedH.trans hW0 hW
  have hcl : s.vm.findClass cls = some ce.cls := by
    have h9 := hO.cls
    rw [hvm] at h9
    exact h9
  have hall : s.sameButNew ({ U with vm := s.vm } : State) locs mc ms := by
    subst hA
    obtain ⟨e1, e2⟩ := hsame
    rw [State.setFrames_setFrames] at e1
    have h2 : (T.setVm s.vm).sameButNew ({ U with vm := s.vm } : State) [] (0 + 1) (0 + 6) := ⟨e1, e2⟩
    have h3 := X.same.trans h2
    rw [List.append_nil] at h3
    exact h3.mono hc hs
  refine ⟨U, ?_, .threw T.heap.size, hrun, hend, Or.inr ⟨T.heap.size, rfl, cls, ce, locs, hx U hWs.alike f1 (fun q hq => f2 q hq (fun z hz => nomatch hz)), hce, hO.vm, hcl, hWs, hall, hf⟩⟩
  refine st1 _ ?_
  show Steps p.tables e below (T1.setTop { method := m, pc := pc + 3, locals := ls, stack := .ref T.heap.size :: rest, locked := none }) _
  jvm_step X₁.here [X₁.here.top, hexec, d3', Value.category]
  exact hsteps
/-- 'throw new E("text")': new; dup; ldc; invokespecial; athrow -/
theorem vx_throwS {cc : ByteArray} {pc : Nat} (hexec : p.tables.exec = Jvm.exec) (hb : c.code = cc) (hl : l.stackTraces = false) {own cls text : String} {names : List String} {ik is ic mc ms sa : Nat} {A : Nat → Prop}
    (hown : s.vm.findClass own = some m.cls) (hcls : Bundle.fit cls = true) (hnames : ∀ n ∈ names, Bundle.fit n = true)
    (hk : (Cond.classLink own ik cls).before args s = true) (hini : (Cond.initialized cls).before args s = true) (hstr : vk_R own is text sa s) (hat : ∀ w ∈ vx_atS own ic cls names, w.before args s = true)
    (hgood : ∀ w ∈ Cond.classLink own ik cls :: Cond.initialized cls :: vx_atS own ic cls names, vx_ot w = true)
    (hU : vx_Zq Bundle.tN "UNASSIGNED_STACK" Bundle.steD A s s.heap) (hN : vx_Zq Bundle.tN "SUPPRESSED_SENTINEL" Bundle.listD A s s.heap) (hS : va_S A s.heap H locs) (hsize : ls.size = c.maxLocals)
    (d0 : decode cc pc = .ok (.new ik, 3)) (d3 : decode cc (pc + 3) = .ok (.dup, 1)) (d4 : decode cc (pc + 4) = .ok (.ldc is, 2)) (d6 : decode cc (pc + 6) = .ok (.invokespecial ic, 3)) (d9 : decode cc (pc + 9) = .ok (.athrow, 1))
    (hout : ∀ x ∈ c.exceptionTable.toList, covers x (pc + 9) = false)
    (hRframes : names.length + 3 < R.frames) (hRlocals : (rest.map fun v => v.category).sum + (13 * (names.length + 1) + 43) ≤ R.locals) (hRcells : cells + 1 ≤ R.cells) (hRslots : slots + 6 ≤ R.slots) (hlocks : meth.locks = false)
    (hx : ∀ t : State, s.vm.Alike t.vm → H.size ≤ t.heap.size → (∀ q : Nat, q < H.size → t.heap[q]? = H[q]?) → XC cls s t)
    (hf : ∀ z ∈ locs, free z.base) (hc : cells + 1 ≤ mc) (hs : slots + 6 ≤ ms) :
    W p l e R s m args below meth c H locs cells slots (vx_MQ below Qc XC args s mc ms free) (F0 m pc ls rest) := by
  intro T hT X
  have htr : e.platform.stackTraces = false := (show e.platform.stackTraces = l.stackTraces by rw [X.admits.platform]).trans hl
  have Y := vx_rebase X (R' := { frames := R.frames, locals := R.locals, cells := 1, slots := 6 }) (Nat.le_refl _) (Nat.le_refl _) hRcells hRslots
  obtain ⟨s', hA⟩ : ∃ z, z = (T.setVm s.vm).setFrames (.invoking m args :: below) := ⟨_, rfl⟩
  rw [← hA] at Y
  have hvm : s'.vm = s.vm := by rw [hA]; rfl
  have hhp : s'.heap = H := by rw [hA]; exact hT
  have hW0 : s.WarmedH s'.vm := by rw [hvm]; exact State.WarmedH.refl s
  have hat' : ∀ w ∈ vx_atS own ic cls names, w.before args s' = true := fun w hw => vx_ot_at hW0 hvm.symm (hgood w (List.mem_cons_of_mem _ (List.mem_cons_of_mem _ hw))) (hat w hw)
  have hk' : (Cond.classLink own ik cls).before args s' = true := vx_ot_at hW0 hvm.symm (hgood _ List.mem_cons_self) hk
  have hini' : (Cond.initialized cls).before args s' = true := vx_ot_at hW0 hvm.symm (hgood _ (List.mem_cons_of_mem _ List.mem_cons_self)) hini
  have hU' : vx_Zq Bundle.tN "UNASSIGNED_STACK" Bundle.steD A s' s'.heap := by rw [hhp]; exact vx_Zq.moved hW0.alike (hU.kept hS.2.1)
  have hN' : vx_Zq Bundle.tN "SUPPRESSED_SENTINEL" Bundle.listD A s' s'.heap := by rw [hhp]; exact vx_Zq.moved hW0.alike (hN.kept hS.2.1)
  have h : ∀ w ∈ Bundle.ownAtoms own ic cls names, w.before args s' = true := vx_own hat' (vx_isRefq hU'.1) (vx_isRefq hN'.1) hU'.2.word hN'.2.word
  have hown' : s'.vm.findClass own = some m.cls := by rw [hvm]; exact hown
  have hins : (Cond.instantiable cls 6).before args s' = true := h _ (by simp [Bundle.ownAtoms])
  obtain ⟨vm₁, cX, kX, hfX, hkX, -, -, X₁, st1⟩ := Y.newCold hexec (own := own) (C := cls) (index := ik) (n := 6) hown' hk' hins hini'
    (g := F0 m pc ls rest) rfl (by rw [hb]; exact d0) (Nat.le_refl _) (Nat.le_refl _)
  generalize hT1 : (T.setVm vm₁).pushCell { cls := cX, slots := kX.instanceTypes.map defaultValue, vm := .none } = T1 at X₁ st1
  have hcat : (Value.ref T.heap.size).category = 1 := rfl
  have hcellA : T1.heap[T.heap.size]? = some (freshCell cX kX) := by rw [← hT1]; exact State.heap_pushCell_size _ _
  have d3' : decode c.code (pc + 3) = .ok (.dup, 1) := by rw [hb]; exact d3
  have d4' : decode c.code (pc + 4) = .ok (.ldc is, 2) := by rw [hb]; exact d4
  have hstr' : vk_R own is text sa s' := vk_R.warm hW0 hstr
  obtain ⟨U, hsteps, hrun, hend, hW, hsame, ce, hce, hO⟩ := X₁.ctorThrowS hexec htr (own := own) (cls := cls) (names := names) (ic := ic) hown' hcls hnames h (fun x hx => nomatch hx) hfX hkX hcellA (by rw [hhp, hT]; exact Nat.le_refl _) (msg := .ref sa) rfl
    (g := { method := m, pc := pc + 6, locals := ls, stack := .ref sa :: .ref T.heap.size :: .ref T.heap.size :: rest, locked := none }) rfl hsize rfl rfl (rest := rest) rfl
    (by rw [hb]; exact d6) (by rw [hb]; exact d9) hout hRframes (by simp only [List.map_cons, List.sum_cons, hcat]; omega) hlocks
  obtain ⟨f1, f2⟩ := vx_frame hsame
  rw [hhp] at f1 f2
  have hWs : s.WarmedH U.vm := State.WarmedH.trans hW0 hW
  have hcl : s.vm.findClass cls = some ce.cls := by
    have h9 := hO.cls
    rw [hvm] at h9
    exact h9
  have hall : s.sameButNew ({ U with vm := s.vm } : State) locs mc ms := by
    subst hA
    obtain ⟨e1, e2⟩ := hsame
    rw [State.setFrames_setFrames] at e1
    have h2 : (T.setVm s.vm).sameButNew ({ U with vm := s.vm } : State) [] (0 + 1) (0 + 6) := ⟨e1, e2⟩
    have h3 := X.same.trans h2
    rw [List.append_nil] at h3
    exact h3.mono hc hs
  refine ⟨U, ?_, .threw T.heap.size, hrun, hend, Or.inr ⟨T.heap.size, rfl, cls, ce, locs, hx U hWs.alike f1 (fun q hq => f2 q hq (fun z hz => nomatch hz)), hce, hO.vm, hcl, hWs, hall, hf⟩⟩
  refine st1 _ ?_
  show Steps p.tables e below (T1.setTop { method := m, pc := pc + 3, locals := ls, stack := .ref T.heap.size :: rest, locked := none }) _
  jvm_step X₁.here [X₁.here.top, hexec, d3', Value.category]
  exact X₁.ldcString hexec (own := own) (text := text) (index := is) (a := sa) hown' hstr'.1 hstr'.2
    (g := { method := m, pc := pc + 4, locals := ls, stack := .ref T.heap.size :: .ref T.heap.size :: rest, locked := none }) rfl d4' _ hsteps
/-- 'throw new E("text")', the text by a wide index -/
theorem vx_throwSW {cc : ByteArray} {pc : Nat} (hexec : p.tables.exec = Jvm.exec) (hb : c.code = cc) (hl : l.stackTraces = false) {own cls text : String} {names : List String} {ik is ic mc ms sa : Nat} {A : Nat → Prop}
    (hown : s.vm.findClass own = some m.cls) (hcls : Bundle.fit cls = true) (hnames : ∀ n ∈ names, Bundle.fit n = true)
    (hk : (Cond.classLink own ik cls).before args s = true) (hini : (Cond.initialized cls).before args s = true) (hstr : vk_R own is text sa s) (hat : ∀ w ∈ vx_atS own ic cls names, w.before args s = true)
    (hgood : ∀ w ∈ Cond.classLink own ik cls :: Cond.initialized cls :: vx_atS own ic cls names, vx_ot w = true)
    (hU : vx_Zq Bundle.tN "UNASSIGNED_STACK" Bundle.steD A s s.heap) (hN : vx_Zq Bundle.tN "SUPPRESSED_SENTINEL" Bundle.listD A s s.heap) (hS : va_S A s.heap H locs) (hsize : ls.size = c.maxLocals)
    (d0 : decode cc pc = .ok (.new ik, 3)) (d3 : decode cc (pc + 3) = .ok (.dup, 1)) (d4 : decode cc (pc + 4) = .ok (.ldc_w is, 3)) (d7 : decode cc (pc + 7) = .ok (.invokespecial ic, 3)) (d10 : decode cc (pc + 10) = .ok (.athrow, 1))
    (hout : ∀ x ∈ c.exceptionTable.toList, covers x (pc + 10) = false)
    (hRframes : names.length + 3 < R.frames) (hRlocals : (rest.map fun v => v.category).sum + (13 * (names.length + 1) + 43) ≤ R.locals) (hRcells : cells + 1 ≤ R.cells) (hRslots : slots + 6 ≤ R.slots) (hlocks : meth.locks = false)
    (hx : ∀ t : State, s.vm.Alike t.vm → H.size ≤ t.heap.size → (∀ q : Nat, q < H.size → t.heap[q]? = H[q]?) → XC cls s t)
    (hf : ∀ z ∈ locs, free z.base) (hc : cells + 1 ≤ mc) (hs : slots + 6 ≤ ms) :
    W p l e R s m args below meth c H locs cells slots (vx_MQ below Qc XC args s mc ms free) (F0 m pc ls rest) := by
  intro T hT X
  have htr : e.platform.stackTraces = false := (show e.platform.stackTraces = l.stackTraces by rw [X.admits.platform]).trans hl
  have Y := vx_rebase X (R' := { frames := R.frames, locals := R.locals, cells := 1, slots := 6 }) (Nat.le_refl _) (Nat.le_refl _) hRcells hRslots
  obtain ⟨s', hA⟩ : ∃ z, z = (T.setVm s.vm).setFrames (.invoking m args :: below) := ⟨_, rfl⟩
  rw [← hA] at Y
  have hvm : s'.vm = s.vm := by rw [hA]; rfl
  have hhp : s'.heap = H := by rw [hA]; exact hT
  have hW0 : s.WarmedH s'.vm := by rw [hvm]; exact State.WarmedH.refl s
  have hat' : ∀ w ∈ vx_atS own ic cls names, w.before args s' = true := fun w hw => vx_ot_at hW0 hvm.symm (hgood w (List.mem_cons_of_mem _ (List.mem_cons_of_mem _ hw))) (hat w hw)
  have hk' : (Cond.classLink own ik cls).before args s' = true := vx_ot_at hW0 hvm.symm (hgood _ List.mem_cons_self) hk
  have hini' : (Cond.initialized cls).before args s' = true := vx_ot_at hW0 hvm.symm (hgood _ (List.mem_cons_of_mem _ List.mem_cons_self)) hini
  have hU' : vx_Zq Bundle.tN "UNASSIGNED_STACK" Bundle.steD A s' s'.heap := by rw [hhp]; exact vx_Zq.moved hW0.alike (hU.kept hS.2.1)
  have hN' : vx_Zq Bundle.tN "SUPPRESSED_SENTINEL" Bundle.listD A s' s'.heap := by rw [hhp]; exact vx_Zq.moved hW0.alike (hN.kept hS.2.1)
  have h : ∀ w ∈ Bundle.ownAtoms own ic cls names, w.before args s' = true := vx_own hat' (vx_isRefq hU'.1) (vx_isRefq hN'.1) hU'.2.word hN'.2.word
  have hown' : s'.vm.findClass own = some m.cls := by rw [hvm]; exact hown
  have hins : (Cond.instantiable cls 6).before args s' = true := h _ (by simp [Bundle.ownAtoms])
  obtain ⟨vm₁, cX, kX, hfX, hkX, -, -, X₁, st1⟩ := Y.newCold hexec (own := own) (C := cls) (index := ik) (n := 6) hown' hk' hins hini'
    (g := F0 m pc ls rest) rfl (by rw [hb]; exact d0) (Nat.le_refl _) (Nat.le_refl _)
  generalize hT1 : (T.setVm vm₁).pushCell { cls := cX, slots := kX.instanceTypes.map defaultValue, vm := .none } = T1 at X₁ st1
  have hcat : (Value.ref T.heap.size).category = 1 := rfl
  have hcellA : T1.heap[T.heap.size]? = some (freshCell cX kX) := by rw [← hT1]; exact State.heap_pushCell_size _ _
  have d3' : decode c.code (pc + 3) = .ok (.dup, 1) := by rw [hb]; exact d3
  have d4' : decode c.code (pc + 4) = .ok (.ldc_w is, 3) := by rw [hb]; exact d4
  have hstr' : vk_R own is text sa s' := vk_R.warm hW0 hstr
  obtain ⟨U, hsteps, hrun, hend, hW, hsame, ce, hce, hO⟩ := X₁.ctorThrowS hexec htr (own := own) (cls := cls) (names := names) (ic := ic) hown' hcls hnames h (fun x hx => nomatch hx) hfX hkX hcellA (by rw [hhp, hT]; exact Nat.le_refl _) (msg := .ref sa) rfl
    (g := { method := m, pc := pc + 7, locals := ls, stack := .ref sa :: .ref T.heap.size :: .ref T.heap.size :: rest, locked := none }) rfl hsize rfl rfl (rest := rest) rfl
    (by rw [hb]; exact d7) (by rw [hb]; exact d10) hout hRframes (by simp only [List.map_cons, List.sum_cons, hcat]; omega) hlocks
  obtain ⟨f1, f2⟩ := vx_frame hsame
  rw [hhp] at f1 f2
  have hWs : s.WarmedH U.vm := State.WarmedH.trans hW0 hW
  have hcl : s.vm.findClass cls = some ce.cls := by
    have h9 := hO.cls
    rw [hvm] at h9
    exact h9
  have hall : s.sameButNew ({ U with vm := s.vm } : State) locs mc ms := by
    subst hA
    obtain ⟨e1, e2⟩ := hsame
    rw [State.setFrames_setFrames] at e1
    have h2 : (T.setVm s.vm).sameButNew ({ U with vm := s.vm } : State) [] (0 + 1) (0 + 6) := ⟨e1, e2⟩
    have h3 := X.same.trans h2
    rw [List.append_nil] at h3
    exact h3.mono hc hs
  refine ⟨U, ?_, .threw T.heap.size, hrun, hend, Or.inr ⟨T.heap.size, rfl, cls, ce, locs, hx U hWs.alike f1 (fun q hq => f2 q hq (fun z hz => nomatch hz)), hce, hO.vm, hcl, hWs, hall, hf⟩⟩
  refine st1 _ ?_
  show Steps p.tables e below (T1.setTop { method := m, pc := pc + 3, locals := ls, stack := .ref T.heap.size :: rest, locked := none }) _
  jvm_step X₁.here [X₁.here.top, hexec, d3', Value.category]
  exact X₁.ldcStringW hexec (own := own) (text := text) (index := is) (a := sa) hown' hstr'.1 hstr'.2
    (g := { method := m, pc := pc + 4, locals := ls, stack := .ref T.heap.size :: .ref T.heap.size :: rest, locked := none }) rfl d4' _ hsteps
end Ends
section Bodies
variable {l : Launch}
theorem vx_ofW {y : MethodName} {ws ws' : List Cond} {rm : Room} {Pc : Array Value → State → Prop} {Qc : Array Value → State → Outcome → State → Prop} {XC : String → State → State → Prop} {mc ms : Nat} {free : Addr → Prop} {cc : ByteArray} {maxL : Nat} {ret : Option FieldType}
    (hy : plainName y.cls = true) (hw : ws = Cond.code y cc maxL ret :: ws')
    (body : ∀ p e s m args below meth c s₁, BodyLoose p l y (headSpec ws rm) cc maxL ret e s m args below meth c s₁ → c.maxLocals = maxL → (∀ x ∈ c.exceptionTable.toList, False) → Pc args s →
      W p l e (headSpec ws rm).room s m args below meth c s.heap [] 0 0 (vx_MQ below Qc XC args s mc ms free) (entryFrame m args maxL)) : vx_Met l y ws rm Pc Qc XC mc ms free := by
  refine MetFree.of_bodyS (code := cc) (maxLocals := maxL) (ret := ret) hy ?_ ?_
  · intro args s m h hn
    obtain ⟨meth, c, h1, h2, h3, h4, h5, h6, -, -⟩ := Cond.code_spec hn (atoms_spec (ws := ws) h _ (by rw [hw]; exact List.mem_cons_self))
    exact ⟨meth, c, h1, h2, h3, h4, h5, h6⟩
  · intro p e s m args below meth c s₁ B hml hP _
    have hh0 : s₁.heap = s.heap := by rw [B.state]; rfl
    have ht : ∀ x ∈ c.exceptionTable.toList, False := by
      obtain ⟨meth9, c9, h1, h2, -, -, -, -, h7, -⟩ := Cond.code_spec B.named (atoms_spec (ws := ws) B.pre _ (by rw [hw]; exact List.mem_cons_self))
      cases Option.some.inj (h1.symm.trans B.method)
      cases Option.some.inj (h2.symm.trans (Stand.of_body B).code)
      intro x hx
      rw [Array.isEmpty_iff.mp h7] at hx
      cases hx
    obtain ⟨t, a1, o, b1, b2, b3⟩ := body p e s m args below meth c s₁ B hml ht hP s₁ hh0 (Stand.of_body B)
    exact ⟨t, o, a1, b1, b2, b3⟩
/-- the table of a body with handlers -/
theorem vx_table {p : Program} {x y : MethodName} {S : Spec} {cc bytes : ByteArray} {maxL maxL' : Nat} {ret ret' : Option FieldType} {e : Env} {s s₁ : State} {m : MethodId} {args : Array Value} {below : List Frame} {meth : Method} {c : Code} {hh : List (Nat × Nat × Nat × Nat)}
    (B : BodyLoose p l y S cc maxL ret e s m args below meth c s₁) (h : (Cond.codeWith y bytes maxL' ret' hh).before args s = true) : c.exceptionTable.toList = tableOf hh := by
  obtain ⟨m9, meth9, c9, hn9, h1, h2, -, -, h6, -⟩ := Cond.codeWith_spec h
  cases Option.some.inj (hn9.symm.trans B.named)
  cases Option.some.inj (h1.symm.trans B.method)
  cases Option.some.inj (h2.symm.trans (Stand.of_body B).code)
  rw [← h6, table_eq]
end Bodies
end VXA
/-! ===== END ===== -/
/-! ===== BEGIN a static call of a method with an exception table ===== -/
section VXS
variable {p : Program} {l : Launch} {e : Env} {R : Room} {s : State} {m : MethodId} {args : Array Value} {below : List Frame} {meth : Method} {c : Code} {T : State} {H : Heap} {locs : List Loc} {cells slots : Nat}
abbrev vx_CSW (R : Room) (s : State) (args : Array Value) (own : String) (index : Nat) (y : MethodName) (bytes : ByteArray) (maxL : Nat) (ret : Option FieldType) (hh : List (Nat × Nat × Nat × Nat)) (ws : List Cond) (rm : Room) (mc ms n : Nat) : Prop :=
  (rm.cells = mc ∧ rm.slots = ms ∧ rm.frames + 1 ≤ R.frames ∧ 8 + (maxL + 11) + rm.locals ≤ R.locals ∧ (∀ w ∈ ws, ∀ (a' : Array Value) (U : State), s.WarmedH U.vm → w.before a' U = true) ∧ Cond.codeWith y bytes maxL ret hh ∈ ws) ∧
  (Cond.codeWith y bytes maxL ret hh).before args s = true ∧ (Cond.initialized y.cls).before args s = true ∧ (y.cls ≠ "java/lang/invoke/MethodHandle" ∧ y.cls ≠ "java/lang/invoke/VarHandle") ∧
  (∀ sig, parseMethodDescriptor y.desc = some sig → n = sig.parameters.length) ∧ (Cond.methodLink own index y).before args s = true ∧ (Cond.static y).before args s = true
theorem vx_cwSW {own : String} {index maxL mc ms : Nat} {y : MethodName} {bytes : ByteArray} {ret : Option FieldType} {hh : List (Nat × Nat × Nat × Nat)} {Ts ws ws' : List Cond} {rm : Room} (n : Nat) (ht : ∀ w ∈ Ts, w.before args s = true) (hT : GoodIn Ts (va_wsS own index y ws)) (hw : ws = Cond.codeWith y bytes maxL ret hh :: ws') (hrc : rm.cells = mc) (hrs : rm.slots = ms)
    (hd : y.cls ≠ "java/lang/invoke/MethodHandle" ∧ y.cls ≠ "java/lang/invoke/VarHandle" ∧ (parseMethodDescriptor y.desc).map (fun d => d.parameters.length) = some n) (hR : rm.frames + 1 ≤ R.frames ∧ 8 + (maxL + 11) + rm.locals ≤ R.locals) :
    vx_CSW R s args own index y bytes maxL ret hh ws rm mc ms n := by
  have ok : ∀ w ∈ va_wsS own index y ws, w.before args s = true := fun w h => ht w (hT w h).1
  have hG : GoodIn Ts ws := fun w h => hT w (by unfold va_wsS; exact List.mem_append_right _ h)
  have hc : Cond.codeWith y bytes maxL ret hh ∈ ws := by rw [hw]; exact List.mem_cons_self
  refine ⟨⟨hrc, hrs, hR.1, hR.2, pay_in ht hG, hc⟩, ht _ (hG _ hc).1, ok _ (by simp [va_wsS]), ⟨hd.1, hd.2.1⟩, fun sig h => ?_, ok _ (by simp [va_wsS]), ok _ (by simp [va_wsS])⟩
  have h2 := hd.2.2
  rw [h] at h2
  exact (Option.some.inj h2).symm
theorem vx_callSW (X : Stand p l e R s m args below meth c T locs cells slots) (hexec : p.tables.exec = Jvm.exec) {own : String} {index : Nat} {y : MethodName} {bytes : ByteArray} {maxL : Nat} {ret : Option FieldType} {hh : List (Nat × Nat × Nat × Nat)}
    (hown : s.vm.findClass own = some m.cls) (hlink : (Cond.methodLink own index y).before args s = true) (hstat : (Cond.static y).before args s = true) (hinit : (Cond.initialized y.cls).before args s = true)
    (hcode : (Cond.codeWith y bytes maxL ret hh).before args s = true) (hy : y.cls ≠ "java/lang/invoke/MethodHandle" ∧ y.cls ≠ "java/lang/invoke/VarHandle")
    {W9 : Nat} {Pre : Pt → Array Value → Prop} {Post : Pt → Array Value → Option Value → Pt → Prop} (hK : Back l R p e below s args y 3 W9 Pre Post)
    {g : JFrame} (hg : g.method = m) (hsize : g.locals.size = c.maxLocals) {argsL rest : List Value} (hlen : ∀ sig, parseMethodDescriptor y.desc = some sig → argsL.length = sig.parameters.length)
    (hstack : g.stack = argsL.reverse ++ rest) (hW : 2 * g.monitorRoom + (rest.map fun v => v.category).sum ≤ W9) (hdg : decode c.code g.pc = .ok (.invokestatic index, 3))
    (hpre : ∀ vm₁, s.WarmedH vm₁ → Pre ⟨T.setVm vm₁, locs, cells, slots⟩ argsL.toArray) :
    ∃ (v : Option Value) (vm₁ : Vm) (B : Pt), s.WarmedH vm₁ ∧ Stand p l e R s m args below meth c B.U B.locs B.cells B.slots ∧ Post ⟨T.setVm vm₁, locs, cells, slots⟩ argsL.toArray v B ∧
      ∀ target, Steps p.tables e below (B.U.setTop { g with pc := g.pc + 3, stack := v.toList ++ rest }) target → Steps p.tables e below (T.setTop g) target := by
  obtain ⟨mk, methM, cM, hnamed, hmethM, -, -, -, -, -, -, hsigM⟩ := Cond.codeWith_spec hcode
  have hstatic : methM.isStatic = true := Cond.static_spec hnamed hmethM hstat
  obtain ⟨kP, hkP, -⟩ := className_of_methodNamed hnamed
  have hinitP : kP.init = .initialized := Cond.initialized_spec (findClass_of_methodNamed hnamed) hkP hinit
  obtain ⟨vm₁, X₁, hstep₁⟩ := X.invokestatic hexec hown hlink hnamed hmethM hstatic hkP hinitP hy (g := g) hg (argsL := argsL) (rest := rest) (hlen _ hsigM) hstack hdg
  obtain ⟨v, B, X', hpost, hsteps⟩ := hK m meth c ⟨T.setVm vm₁, locs, cells, slots⟩ { g with stack := rest } (.invokestatic index) mk argsL.toArray X₁ hg hsize hdg hW (X₁.named hnamed) (hpre vm₁ X₁.warmed)
  exact ⟨v, vm₁, B, X₁.warmed, X', hpost, fun target h => hstep₁ _ fun acts => by rw [doInvoke_state]; exact hsteps.trans h⟩
theorem vx_runSW {y : MethodName} {bytes cc : ByteArray} {maxL nL mc ms n index : Nat} {ret : Option FieldType} {hh : List (Nat × Nat × Nat × Nat)} {ws : List Cond} {rm : Room} {Pc : Array Value → State → Prop} {Qc : Array Value → State → Outcome → State → Prop} {free : Addr → Prop} {Ts : List Cond} {own : String} {As rest : List Value} {g : JFrame}
    (S : CallFix p m c cc nL s args Ts own) (hM : Met l y ws rm Pc Qc mc ms free) (cw : vx_CSW R s args own index y bytes maxL ret hh ws rm mc ms n) (hp : PreS s H Pc As)
    (hg : g.method = m) (hn : As.length = n) (hsize : g.locals.size = nL) (hstack : g.stack = As.reverse ++ rest) (hW : 2 * g.monitorRoom + (rest.map fun v => v.category).sum ≤ 8) (hdg : decode cc g.pc = .ok (.invokestatic index, 3)) (hf : cells + mc ≤ R.cells ∧ slots + ms ≤ R.slots) :
    va_Run p l e R s m args below meth c H locs cells slots mc ms g rest (Qc As.toArray) (free) := by
  obtain ⟨⟨hrc, hrs, hfr, hlo, hws, hcw⟩, hcode, hini, hy, hlen, hl, hstt⟩ := cw
  have hK : Back l R p e below s args y 3 8 (PreOf R mc ms Pc) (PostOf Qc mc ms free) := va_backW (hh := hh) (bytes := bytes) (maxL := maxL) (ret := ret) hM hp.1 hrc hrs hfr hlo hws hcw (fun a' U hW => word_at hW (Or.inl (by first | rfl | simp [Cond.onTables, Cond.keeps, Cond.steady])) hini)
  obtain ⟨hx, hb, hml, ho, -⟩ := S
  intro T hT X
  obtain ⟨v, vm₁, ⟨U', l2, c2, s2⟩, hW₁, X', ⟨g', mk, t, L, e1, e2, hq, h1, hL, h2, h3⟩, st⟩ := vx_callSW X hx (hh := hh) (bytes := bytes) (maxL := maxL) (ret := ret) ho hl hstt hini hcode hy hK hg (hsize.trans hml.symm) (argsL := As) (rest := rest) (fun sig h => hn.trans (hlen sig h)) hstack hW (by rw [hb]; exact hdg)
    (fun vm₁ hW₁ => ⟨hf.1, hf.2, hp.2 (T.setVm vm₁) hT hW₁⟩)
  dsimp only [Pt.U, Pt.locs, Pt.cells, Pt.slots] at X' e1 e2 h1 h2 h3 st
  subst h1; subst h2; subst h3
  exact ⟨v, (T.setVm vm₁).calling g' mk As.toArray, t, U', L, hT, X', hL, e1, e2, hq, st⟩
/-- not caught here, past rows that name other classes: it goes on to the caller -/
theorem vx_outP {p : Program} {l : Launch} {e : Env} {R : Room} {s : State} {m : MethodId} {args : Array Value} {below : List Frame} {meth : Method} {c : Code} {H : Heap} {locs : List Loc} {cells slots : Nat} {free : Addr → Prop} {ls : Array Slot} {rest : List Value} {Qc : Array Value → State → Outcome → State → Prop} {XC : String → State → State → Prop}
    {pc : Nat} {own E : String} {ce : Cell} {q : Addr} {mc ms : Nat} (hown : s.vm.findClass own = some m.cls) (hlocks : meth.locks = false)
    (hpass : ∀ z ∈ c.exceptionTable.toList, covers z pc = false ∨ (z.catchType ≠ 0 ∧ ∃ nm : String, (Cond.classLink own z.catchType nm).before args s = true ∧ va_Nc E nm s)) (hcell : H[q]? = some ce) (hv : ce.vm = .none) (hcl : s.vm.findClass E = some ce.cls)
    (hx : ∀ t : State, t.heap = H → s.vm.Alike t.vm → XC E s t) (hf : ∀ z ∈ locs, free z.base) (hc : cells ≤ mc) (hs : slots ≤ ms) :
    vx_W p l e R s m args below meth c H locs cells slots (vx_MQ below Qc XC args s mc ms free) (F0 m pc ls rest) q := by
  intro T hT X
  have hpl : e.platform.magicAccessors = ({} : Platform).magicAccessors := by rw [X.admits.platform]
  obtain ⟨vm', hW', X', st⟩ := X.outThrough hlocks q (g := F0 m pc ls rest) rfl rfl rfl (cell := ce) (by rw [hT]; exact hcell) (by rw [hv]; rfl)
    (by obtain ⟨k9, h9, -⟩ := Vm.findClass_spec hcl; exact ⟨k9, h9⟩) (fun z hz => by
      rcases hpass z hz with h | ⟨hz0, nm, hl1, hn1⟩
      · exact Or.inl h
      · obtain ⟨c6, hc6, hcl6⟩ := Cond.classLink_spec hown hl1 e.platform hpl
        obtain ⟨a8, b8, h1, h2, h3⟩ := hn1
        cases Option.some.inj (h1.symm.trans hcl)
        cases Option.some.inj (h2.symm.trans hc6)
        exact Or.inr ⟨hz0, _, hcl6, h3⟩)
  obtain ⟨g₀, hfr⟩ := X'.frames_eq
  have hcell9 : ((T.setVm vm').setFrames (.throwing q :: below)).heap[q]? = some ce := by
    show T.heap[q]? = some ce
    rw [hT]; exact hcell
  have hend : Ended ((T.setVm vm').setFrames (.throwing q :: below)) below (.threw q) := State.frames_setFrames _ (State.cur_lt_of_frames hfr)
  refine ⟨(T.setVm vm').setFrames (.throwing q :: below), ?_, .threw q, X'.here.running, hend, Or.inr ⟨q, rfl, E, ce, locs, hx _ hT (X'.ends _).1.alike, hcell9, hv, hcl, (X'.ends _).1, (X'.ends _).2.mono hc hs, hf⟩⟩
  rw [X.pushThrowing_eq]
  exact st
/-- a thing of a world lies in the heap -/
theorem vx_lt {D : va_G} {cl : List vw_C} {ws : va_W} {H1 : Heap} (h : va_P D cl ws H1) {k : Nat} {q : Nat × va_E} (hk : ws[k]? = some q) : q.1 < H1.size := (h k q hk).lt
end VXS
/-! ===== END ===== -/
/-! ===== BEGIN methods with a table of their own: called by a name, returning or throwing ===== -/
section VXH
/-! vx_backW, vx_callVX, vx_callSX, vx_callVW, vx_runVW, vx_runVX, vx_runSX, vx_ofWH follow the same proofs as their sisters above (Free/Laws.lean, Shelf42/LK1.lean); vx_outP calls Shelf42/NT130.lean (outThrough). -/
section
variable {l : Launch} {R : Room} {p : Program} {e : Env} {below : List Frame} {s : State} {sargs : Array Value} {y : MethodName} {len W9 : Nat}
theorem vx_backW {ws : List Cond} {rm : Room} {Pc : Array Value → State → Prop} {Qc : Array Value → State → Outcome → State → Prop} {XC : String → State → State → Prop} {mc ms : Nat} {free : Addr → Prop} {bytes : ByteArray} {maxL : Nat} {ret : Option FieldType} {hh : List (Nat × Nat × Nat × Nat)}
    (hM : vx_Met l y ws rm Pc Qc XC mc ms free) (hblind : FrameBlind Pc) (hrc : rm.cells = mc) (hrs : rm.slots = ms)
    (hframes : rm.frames + 1 ≤ R.frames) (hlocals : W9 + (maxL + 11) + rm.locals ≤ R.locals)
    (hws : ∀ w ∈ ws, ∀ a' U, s.WarmedH U.vm → w.before a' U = true) (hcode : Cond.codeWith y bytes maxL ret hh ∈ ws) (hinit : ∀ a' U, s.WarmedH U.vm → (Cond.initialized y.cls).before a' U = true) :
    vx_Back l R p e below s sargs y len W9 (PreOf R mc ms Pc) (PostOf Qc mc ms free) (vx_Post XC mc ms free) := by
  intro m meth c A g ig mk a X hg hsize hdg hW hn hp
  have h1 : (headSpec ws rm).pre.before a A.U = true := atoms_intro fun w hw => hws w hw _ _ X.warmed
  have h2 : (Cond.codeWith y bytes maxL ret hh).before a A.U = true := hws _ hcode _ _ X.warmed
  have h3 : (Cond.initialized y.cls).before a A.U = true := hinit _ _ X.warmed
  have h4 : A.cells + (headSpec ws rm).room.cells ≤ R.cells := by rw [show (headSpec ws rm).room.cells = mc from hrc]; exact hp.1
  have h5 : A.slots + (headSpec ws rm).room.slots ≤ R.slots := by rw [show (headSpec ws rm).room.slots = ms from hrs]; exact hp.2.1
  have hPc : Pc a (A.U.calling g mk a) := hblind _ _ _ _ hp.2.2
  obtain ⟨U, Ls, c0, s0⟩ := A
  dsimp only [Pt.U, Pt.locs, Pt.cells, Pt.slots] at h1 h2 h3 h4 h5 X hn hPc ⊢
  obtain ⟨m9, methY, cY, hn9, hmY, hcY, -, hlY, -⟩ := Cond.codeWith_spec h2
  cases Option.some.inj (hn9.symm.trans hn)
  obtain ⟨kY, hkY, -⟩ := className_of_methodNamed hn
  have hinitY : kY.init = .initialized := Cond.initialized_spec (findClass_of_methodNamed hn) hkY h3
  have h : At U g.method c below := by rw [hg]; exact X.here
  have hlocals9 : W9 + (maxL + 11) + (headSpec ws rm).room.locals ≤ R.locals := hlocals
  have happ : (headSpec ws rm).appliesLoose y e.platform (U.calling g mk a) = true :=
    Spec.appliesLoose_calling (g := g) h hdg hn hkY hinitY
      (X.room_calling (g := g) (R' := (headSpec ws rm).room) hsize hmY hcY hframes (by rw [hlY]; omega) h4 h5) h1
  obtain ⟨mid, hmid⟩ := h.above
  have hfr : (U.setTop g).frames = (.java g :: mid) ++ below := by rw [State.frames_setTop' g h.top, hmid]; rfl
  obtain ⟨o, s₂, hsteps, -, hend, hq⟩ := Steps.callFree hM p X.admits X.cas X.clock (acts := []) hfr happ hPc trivial
  have hq' : vx_Q Qc XC mc ms free a (U.calling g mk a) o s₂ := hq
  rw [State.frames_setTop' g h.top] at hend
  obtain ⟨g₀, hg0⟩ := Option.isSome_iff_exists.mp h.top
  obtain ⟨r, hr⟩ := State.topJava?_eq_some.mp hg0
  have hr' : (({ U with heap := s₂.heap, slotsUsed := s₂.slotsUsed } : State).setVm s₂.vm).frames = .java g₀ :: r := hr
  rcases hq' with ⟨hqc, L, hfe, hL⟩ | ⟨q, rfl, E, ce, L, hx, hce, hcv, hcl, hW₂, hsm, hL⟩
  · obtain ⟨⟨v, rfl⟩, hW₂, e2, q2, q3, q4, q5, q6⟩ := id hfe
    have e3 : s₂ = ({ (U.calling g mk a).setFrames s₂.frames with heap := s₂.heap, slotsUsed := s₂.slotsUsed } : State).setVm s₂.vm := by
      have : s₂ = ({ s₂ with vm := (U.calling g mk a).vm } : State).setVm s₂.vm := rfl
      rw [e2] at this
      exact this
    obtain ⟨c₂, i₂, len₂, hc₂, hd₂, hf₂⟩ := hend
    have hW' : U.WarmedH s₂.vm := hW₂
    have hcc : c₂ = c := by
      have h1 : s₂.code? g.method = U.code? g.method := by
        rw [State.code?_eq, State.code?_eq, hW'.alike.method?]
      exact Option.some.inj (hc₂.symm.trans (h1.trans h.code))
    subst hcc
    have hlen : len₂ = len := by rw [hdg] at hd₂; cases hd₂; rfl
    subst hlen
    have hs₂ : s₂ = (({ U with heap := s₂.heap, slotsUsed := s₂.slotsUsed } : State).setVm s₂.vm).setTop { g with pc := g.pc + len₂, stack := v.toList ++ g.stack } := by
      refine e3.trans ?_
      rw [hf₂, State.calling_eq h.top, State.setFrames_setFrames, State.setTop_of_frames _ hr', hr]
      rfl
    have hsame : U.sameButNew ({ U with heap := s₂.heap, slotsUsed := s₂.slotsUsed } : State) L mc ms := by
      refine ⟨?_, q2, q3, q4, q5, q6⟩
      obtain ⟨t, ht, -⟩ := State.frames_cons hr
      show ({ U with heap := s₂.heap, slotsUsed := s₂.slotsUsed } : State) = { U.setFrames U.frames with heap := s₂.heap, slotsUsed := s₂.slotsUsed }
      rw [State.setFrames_self ht]
    subst hg
    refine Or.inl ⟨v, ⟨(({ U with heap := s₂.heap, slotsUsed := s₂.slotsUsed } : State).setVm s₂.vm), Ls ++ L, c0 + mc, s0 + ms⟩,
      ⟨X.admits, X.cas, X.clock, X.frames, X.room, X.hears, X.method, X.code, (X.here.setHeapUsed s₂.heap s₂.slotsUsed).setVm hW'.alike, X.tail, State.WarmedH.trans X.warmed hW', X.limits, X.bytes, X.same.trans (hsame.setVm s.vm)⟩,
      ⟨g, mk, s₂, L, rfl, rfl, hqc, rfl, hL, rfl, rfl⟩, ?_⟩
    show Steps p.tables e below _ ((({ U with heap := s₂.heap, slotsUsed := s₂.slotsUsed } : State).setVm s₂.vm).setTop { g with pc := g.pc + len₂, stack := v.toList ++ g.stack })
    rw [← hs₂]
    exact hsteps
  · obtain ⟨e2, q2, q3, q4, q5, q6⟩ := id hsm
    have e3 : s₂ = ({ (U.calling g mk a).setFrames s₂.frames with heap := s₂.heap, slotsUsed := s₂.slotsUsed } : State).setVm s₂.vm := by
      have : s₂ = ({ s₂ with vm := (U.calling g mk a).vm } : State).setVm s₂.vm := rfl
      rw [e2] at this
      exact this
    have hf₂ : s₂.frames = .throwing q :: .java g :: U.frames.tail := hend
    have hW' : U.WarmedH s₂.vm := hW₂
    have hs₂ : s₂ = ((({ U with heap := s₂.heap, slotsUsed := s₂.slotsUsed } : State).setVm s₂.vm).setTop g).pushFrame (.throwing q) := by
      refine e3.trans ?_
      rw [hf₂, State.calling_eq h.top, State.setFrames_setFrames, State.pushFrame, State.frames_setTop _ hr', State.setTop_of_frames _ hr', State.setFrames_setFrames, hr]
      rfl
    have hsame : U.sameButNew ({ U with heap := s₂.heap, slotsUsed := s₂.slotsUsed } : State) L mc ms := by
      refine ⟨?_, q2, q3, q4, q5, q6⟩
      obtain ⟨t, ht, -⟩ := State.frames_cons hr
      show ({ U with heap := s₂.heap, slotsUsed := s₂.slotsUsed } : State) = { U.setFrames U.frames with heap := s₂.heap, slotsUsed := s₂.slotsUsed }
      rw [State.setFrames_self ht]
    subst hg
    refine Or.inr ⟨q, ⟨(({ U with heap := s₂.heap, slotsUsed := s₂.slotsUsed } : State).setVm s₂.vm), Ls ++ L, c0 + mc, s0 + ms⟩,
      ⟨X.admits, X.cas, X.clock, X.frames, X.room, X.hears, X.method, X.code, (X.here.setHeapUsed s₂.heap s₂.slotsUsed).setVm hW'.alike, X.tail, State.WarmedH.trans X.warmed hW', X.limits, X.bytes, X.same.trans (hsame.setVm s.vm)⟩,
      ⟨g, mk, s₂, L, E, ce, rfl, rfl, hx, hce, hcv, hcl, rfl, hL, rfl, rfl⟩, ?_⟩
    show Steps p.tables e below _ (((({ U with heap := s₂.heap, slotsUsed := s₂.slotsUsed } : State).setVm s₂.vm).setTop g).pushFrame (.throwing q))
    rw [← hs₂]
    exact hsteps
end
variable {p : Program} {l : Launch} {e : Env} {R : Room} {s : State} {m : MethodId} {args : Array Value} {below : List Frame} {meth : Method} {c : Code} {T : State} {H : Heap} {locs : List Loc} {cells slots : Nat}
theorem vx_callVX (X : Stand p l e R s m args below meth c T locs cells slots) (hexec : p.tables.exec = Jvm.exec) {own C : String} {index : Nat} {y : MethodName} {bytes : ByteArray} {maxL : Nat} {ret : Option FieldType} {hh : List (Nat × Nat × Nat × Nat)}
    (hown : s.vm.findClass own = some m.cls) (hlink : (Cond.methodLink own index y).before args s = true) (hinst : (Cond.instanceMethod y).before args s = true) (hsel : (Cond.selects C y y).before args s = true)
    (hcode : (Cond.codeWith y bytes maxL ret hh).before args s = true) (hy : y.cls ≠ "java/lang/invoke/MethodHandle" ∧ y.cls ≠ "java/lang/invoke/VarHandle")
    {W9 : Nat} {Pre : Pt → Array Value → Prop} {Post : Pt → Array Value → Option Value → Pt → Prop} {PostX : Pt → Array Value → Addr → Pt → Prop} (hK : vx_Back l R p e below s args y 3 W9 Pre Post PostX)
    {b : Addr} {cellB : Cell} (hcell : T.heap[b]? = some cellB) (hobj : cellB.vm.isStatics = false) (hcls : s.vm.findClass C = some cellB.cls)
    {g : JFrame} (hg : g.method = m) (hsize : g.locals.size = c.maxLocals) {argsL rest : List Value} (hlen : ∀ sig, parseMethodDescriptor y.desc = some sig → argsL.length = sig.parameters.length)
    (hstack : g.stack = argsL.reverse ++ .ref b :: rest) (hW : 2 * g.monitorRoom + (rest.map fun v => v.category).sum ≤ W9) (hdg : decode c.code g.pc = .ok (.invokevirtual index, 3))
    (hpre : ∀ vm₁, s.WarmedH vm₁ → Pre ⟨T.setVm vm₁, locs, cells, slots⟩ (Value.ref b :: argsL).toArray) :
    (∃ (v : Option Value) (vm₁ : Vm) (B : Pt), s.WarmedH vm₁ ∧ Stand p l e R s m args below meth c B.U B.locs B.cells B.slots ∧ Post ⟨T.setVm vm₁, locs, cells, slots⟩ (Value.ref b :: argsL).toArray v B ∧
      ∀ target, Steps p.tables e below (B.U.setTop { g with pc := g.pc + 3, stack := v.toList ++ rest }) target → Steps p.tables e below (T.setTop g) target) ∨
    (∃ (q : Addr) (vm₁ : Vm) (B : Pt), s.WarmedH vm₁ ∧ Stand p l e R s m args below meth c B.U B.locs B.cells B.slots ∧ PostX ⟨T.setVm vm₁, locs, cells, slots⟩ (Value.ref b :: argsL).toArray q B ∧
      Steps p.tables e below (T.setTop g) ((B.U.setTop { g with stack := rest }).pushFrame (.throwing q))) := by
  obtain ⟨mk, methM, hnamed, hmethM, hstM, habM⟩ := Cond.instanceMethod_spec hinst
  obtain ⟨m8, methM', cM, hn8, hmethM', -, -, -, -, -, -, hsigM⟩ := Cond.codeWith_spec hcode
  cases Option.some.inj (hn8.symm.trans hnamed)
  cases hmethM.symm.trans hmethM'
  obtain ⟨c2, r2, m2, q1, q2, q3, q4, kP, hkP, hkPi⟩ := Cond.selects_spec hsel
  cases hcls.symm.trans q1
  cases (State.methodFound?_of_named hnamed hy).symm.trans q2
  cases hnamed.symm.trans q3
  have hselP : selectMethod e.platform s.vm cellB.cls mk = .method mk := by rw [Launch.admits_selectMethod X.admits]; exact q4
  obtain ⟨vm₁, X₁, hstep₁⟩ := X.invokevirtual hexec hown hlink hnamed hmethM hstM hkP hkPi hy (a := b) (cell := cellB) hcell
    (fun z h => by rw [h] at hobj; cases hobj) hselP hmethM habM hkP hkPi (g := g) hg (argsL := argsL) (rest := rest) (hlen _ hsigM) hstack hdg
  rcases hK m meth c ⟨T.setVm vm₁, locs, cells, slots⟩ { g with stack := rest } (.invokevirtual index) mk (Value.ref b :: argsL).toArray X₁ hg hsize hdg hW (X₁.named hnamed) (hpre vm₁ X₁.warmed) with ⟨v, B, X', hpost, hsteps⟩ | ⟨q, B, X', hpost, hsteps⟩
  · exact Or.inl ⟨v, vm₁, B, X₁.warmed, X', hpost, fun target h => hstep₁ _ fun acts => by rw [doInvoke_state]; exact hsteps.trans h⟩
  · exact Or.inr ⟨q, vm₁, B, X₁.warmed, X', hpost, hstep₁ _ fun acts => by rw [doInvoke_state]; exact hsteps⟩
theorem vx_callSX (X : Stand p l e R s m args below meth c T locs cells slots) (hexec : p.tables.exec = Jvm.exec) {own : String} {index : Nat} {y : MethodName} {bytes : ByteArray} {maxL : Nat} {ret : Option FieldType} {hh : List (Nat × Nat × Nat × Nat)}
    (hown : s.vm.findClass own = some m.cls) (hlink : (Cond.methodLink own index y).before args s = true) (hstat : (Cond.static y).before args s = true) (hinit : (Cond.initialized y.cls).before args s = true)
    (hcode : (Cond.codeWith y bytes maxL ret hh).before args s = true) (hy : y.cls ≠ "java/lang/invoke/MethodHandle" ∧ y.cls ≠ "java/lang/invoke/VarHandle")
    {W9 : Nat} {Pre : Pt → Array Value → Prop} {Post : Pt → Array Value → Option Value → Pt → Prop} {PostX : Pt → Array Value → Addr → Pt → Prop} (hK : vx_Back l R p e below s args y 3 W9 Pre Post PostX)
    {g : JFrame} (hg : g.method = m) (hsize : g.locals.size = c.maxLocals) {argsL rest : List Value} (hlen : ∀ sig, parseMethodDescriptor y.desc = some sig → argsL.length = sig.parameters.length)
    (hstack : g.stack = argsL.reverse ++ rest) (hW : 2 * g.monitorRoom + (rest.map fun v => v.category).sum ≤ W9) (hdg : decode c.code g.pc = .ok (.invokestatic index, 3))
    (hpre : ∀ vm₁, s.WarmedH vm₁ → Pre ⟨T.setVm vm₁, locs, cells, slots⟩ argsL.toArray) :
    (∃ (v : Option Value) (vm₁ : Vm) (B : Pt), s.WarmedH vm₁ ∧ Stand p l e R s m args below meth c B.U B.locs B.cells B.slots ∧ Post ⟨T.setVm vm₁, locs, cells, slots⟩ argsL.toArray v B ∧
      ∀ target, Steps p.tables e below (B.U.setTop { g with pc := g.pc + 3, stack := v.toList ++ rest }) target → Steps p.tables e below (T.setTop g) target) ∨
    (∃ (q : Addr) (vm₁ : Vm) (B : Pt), s.WarmedH vm₁ ∧ Stand p l e R s m args below meth c B.U B.locs B.cells B.slots ∧ PostX ⟨T.setVm vm₁, locs, cells, slots⟩ argsL.toArray q B ∧
      Steps p.tables e below (T.setTop g) ((B.U.setTop { g with stack := rest }).pushFrame (.throwing q))) := by
  obtain ⟨mk, methM, cM, hnamed, hmethM, -, -, -, -, -, -, hsigM⟩ := Cond.codeWith_spec hcode
  have hstatic : methM.isStatic = true := Cond.static_spec hnamed hmethM hstat
  obtain ⟨kP, hkP, -⟩ := className_of_methodNamed hnamed
  have hinitP : kP.init = .initialized := Cond.initialized_spec (findClass_of_methodNamed hnamed) hkP hinit
  obtain ⟨vm₁, X₁, hstep₁⟩ := X.invokestatic hexec hown hlink hnamed hmethM hstatic hkP hinitP hy (g := g) hg (argsL := argsL) (rest := rest) (hlen _ hsigM) hstack hdg
  rcases hK m meth c ⟨T.setVm vm₁, locs, cells, slots⟩ { g with stack := rest } (.invokestatic index) mk argsL.toArray X₁ hg hsize hdg hW (X₁.named hnamed) (hpre vm₁ X₁.warmed) with ⟨v, B, X', hpost, hsteps⟩ | ⟨q, B, X', hpost, hsteps⟩
  · exact Or.inl ⟨v, vm₁, B, X₁.warmed, X', hpost, fun target h => hstep₁ _ fun acts => by rw [doInvoke_state]; exact hsteps.trans h⟩
  · exact Or.inr ⟨q, vm₁, B, X₁.warmed, X', hpost, hstep₁ _ fun acts => by rw [doInvoke_state]; exact hsteps⟩
theorem vx_callVW (X : Stand p l e R s m args below meth c T locs cells slots) (hexec : p.tables.exec = Jvm.exec) {own C : String} {index : Nat} {y : MethodName} {bytes : ByteArray} {maxL : Nat} {ret : Option FieldType} {hh : List (Nat × Nat × Nat × Nat)}
    (hown : s.vm.findClass own = some m.cls) (hlink : (Cond.methodLink own index y).before args s = true) (hinst : (Cond.instanceMethod y).before args s = true) (hsel : (Cond.selects C y y).before args s = true)
    (hcode : (Cond.codeWith y bytes maxL ret hh).before args s = true) (hy : y.cls ≠ "java/lang/invoke/MethodHandle" ∧ y.cls ≠ "java/lang/invoke/VarHandle")
    {W9 : Nat} {Pre : Pt → Array Value → Prop} {Post : Pt → Array Value → Option Value → Pt → Prop} (hK : Back l R p e below s args y 3 W9 Pre Post)
    {b : Addr} {cellB : Cell} (hcell : T.heap[b]? = some cellB) (hobj : cellB.vm.isStatics = false) (hcls : s.vm.findClass C = some cellB.cls)
    {g : JFrame} (hg : g.method = m) (hsize : g.locals.size = c.maxLocals) {argsL rest : List Value} (hlen : ∀ sig, parseMethodDescriptor y.desc = some sig → argsL.length = sig.parameters.length)
    (hstack : g.stack = argsL.reverse ++ .ref b :: rest) (hW : 2 * g.monitorRoom + (rest.map fun v => v.category).sum ≤ W9) (hdg : decode c.code g.pc = .ok (.invokevirtual index, 3))
    (hpre : ∀ vm₁, s.WarmedH vm₁ → Pre ⟨T.setVm vm₁, locs, cells, slots⟩ (Value.ref b :: argsL).toArray) :
    ∃ (v : Option Value) (vm₁ : Vm) (B : Pt), s.WarmedH vm₁ ∧ Stand p l e R s m args below meth c B.U B.locs B.cells B.slots ∧ Post ⟨T.setVm vm₁, locs, cells, slots⟩ (Value.ref b :: argsL).toArray v B ∧
      ∀ target, Steps p.tables e below (B.U.setTop { g with pc := g.pc + 3, stack := v.toList ++ rest }) target → Steps p.tables e below (T.setTop g) target := by
  obtain ⟨mk, methM, hnamed, hmethM, hstM, habM⟩ := Cond.instanceMethod_spec hinst
  obtain ⟨m8, methM', cM, hn8, hmethM', -, -, -, -, -, -, hsigM⟩ := Cond.codeWith_spec hcode
  cases Option.some.inj (hn8.symm.trans hnamed)
  cases hmethM.symm.trans hmethM'
  obtain ⟨c2, r2, m2, q1, q2, q3, q4, kP, hkP, hkPi⟩ := Cond.selects_spec hsel
  cases hcls.symm.trans q1
  cases (State.methodFound?_of_named hnamed hy).symm.trans q2
  cases hnamed.symm.trans q3
  have hselP : selectMethod e.platform s.vm cellB.cls mk = .method mk := by rw [Launch.admits_selectMethod X.admits]; exact q4
  obtain ⟨vm₁, X₁, hstep₁⟩ := X.invokevirtual hexec hown hlink hnamed hmethM hstM hkP hkPi hy (a := b) (cell := cellB) hcell
    (fun z h => by rw [h] at hobj; cases hobj) hselP hmethM habM hkP hkPi (g := g) hg (argsL := argsL) (rest := rest) (hlen _ hsigM) hstack hdg
  obtain ⟨v, B, X', hpost, hsteps⟩ := hK m meth c ⟨T.setVm vm₁, locs, cells, slots⟩ { g with stack := rest } (.invokevirtual index) mk (Value.ref b :: argsL).toArray X₁ hg hsize hdg hW (X₁.named hnamed) (hpre vm₁ X₁.warmed)
  exact ⟨v, vm₁, B, X₁.warmed, X', hpost, fun target h => hstep₁ _ fun acts => by rw [doInvoke_state]; exact hsteps.trans h⟩
abbrev vx_CVW (R : Room) (s : State) (args : Array Value) (own C : String) (index : Nat) (y : MethodName) (bytes : ByteArray) (maxL : Nat) (ret : Option FieldType) (hh : List (Nat × Nat × Nat × Nat)) (ws : List Cond) (rm : Room) (mc ms n : Nat) : Prop :=
  (rm.cells = mc ∧ rm.slots = ms ∧ rm.frames + 1 ≤ R.frames ∧ 8 + (maxL + 11) + rm.locals ≤ R.locals ∧ (∀ w ∈ ws, ∀ (a' : Array Value) (U : State), s.WarmedH U.vm → w.before a' U = true) ∧ Cond.codeWith y bytes maxL ret hh ∈ ws) ∧
  (Cond.codeWith y bytes maxL ret hh).before args s = true ∧ (Cond.initialized y.cls).before args s = true ∧ (y.cls ≠ "java/lang/invoke/MethodHandle" ∧ y.cls ≠ "java/lang/invoke/VarHandle") ∧
  (∀ sig, parseMethodDescriptor y.desc = some sig → n = sig.parameters.length) ∧ (Cond.methodLink own index y).before args s = true ∧ (Cond.instanceMethod y).before args s = true ∧ (Cond.selects C y y).before args s = true
theorem vx_cwVW {own C : String} {index maxL mc ms : Nat} {y : MethodName} {bytes : ByteArray} {ret : Option FieldType} {hh : List (Nat × Nat × Nat × Nat)} {Ts ws ws' : List Cond} {rm : Room} (n : Nat) (ht : ∀ w ∈ Ts, w.before args s = true) (hT : GoodIn Ts (wsV own index C y ws)) (hw : ws = Cond.codeWith y bytes maxL ret hh :: ws') (hrc : rm.cells = mc) (hrs : rm.slots = ms)
    (hd : y.cls = C ∧ y.cls ≠ "java/lang/invoke/MethodHandle" ∧ y.cls ≠ "java/lang/invoke/VarHandle" ∧ (parseMethodDescriptor y.desc).map (fun d => d.parameters.length) = some n) (hR : rm.frames + 1 ≤ R.frames ∧ 8 + (maxL + 11) + rm.locals ≤ R.locals) :
    vx_CVW R s args own C index y bytes maxL ret hh ws rm mc ms n := by
  obtain ⟨hC, hd⟩ := hd
  subst hC
  have ok : ∀ w ∈ wsV own index y.cls y ws, w.before args s = true := fun w h => ht w (hT w h).1
  have hG : GoodIn Ts ws := fun w h => hT w (by unfold wsV; exact List.mem_append_right _ h)
  have hc : Cond.codeWith y bytes maxL ret hh ∈ ws := by rw [hw]; exact List.mem_cons_self
  refine ⟨⟨hrc, hrs, hR.1, hR.2, pay_in ht hG, hc⟩, ht _ (hG _ hc).1, ok _ (by simp [wsV]), ⟨hd.1, hd.2.1⟩, fun sig h => ?_, ok _ (by simp [wsV]), ok _ (by simp [wsV]), ok _ (by simp [wsV])⟩
  have h2 := hd.2.2
  rw [h] at h2
  exact (Option.some.inj h2).symm
theorem vx_runVW {y : MethodName} {bytes cc : ByteArray} {maxL nL mc ms n index : Nat} {ret : Option FieldType} {hh : List (Nat × Nat × Nat × Nat)} {ws : List Cond} {rm : Room} {Pc : Array Value → State → Prop} {Qc : Array Value → State → Outcome → State → Prop} {free : Addr → Prop} {Ts : List Cond} {own C : String} {b : Addr} {As rest : List Value} {g : JFrame}
    (S : CallFix p m c cc nL s args Ts own) (hM : Met l y ws rm Pc Qc mc ms free) (cw : vx_CVW R s args own C index y bytes maxL ret hh ws rm mc ms n) (hp : PreV s H C b Pc As)
    (hg : g.method = m) (hn : As.length = n) (hsize : g.locals.size = nL) (hstack : g.stack = As.reverse ++ .ref b :: rest) (hW : 2 * g.monitorRoom + (rest.map fun v => v.category).sum ≤ 8) (hdg : decode cc g.pc = .ok (.invokevirtual index, 3)) (hf : cells + mc ≤ R.cells ∧ slots + ms ≤ R.slots) :
    va_Run p l e R s m args below meth c H locs cells slots mc ms g rest (Qc (Value.ref b :: As).toArray) free := by
  obtain ⟨⟨hrc, hrs, hfr, hlo, hws, hcw⟩, hcode, hini, hy, hlen, hl, hin, hse⟩ := cw
  have hK : Back l R p e below s args y 3 8 (PreOf R mc ms Pc) (PostOf Qc mc ms free) := va_backW (hh := hh) (bytes := bytes) (maxL := maxL) (ret := ret) hM hp.1 hrc hrs hfr hlo hws hcw (fun a' U hW => word_at hW (Or.inl (by first | rfl | simp [Cond.onTables, Cond.keeps, Cond.steady])) hini)
  obtain ⟨hx, hb, hml, ho, -⟩ := S
  obtain ⟨-, ⟨cellB, hcB, hoB, hclB⟩, hPc⟩ := hp
  intro T hT X
  obtain ⟨v, vm₁, ⟨U', l2, c2, s2⟩, hW₁, X', ⟨g', mk, t, L, e1, e2, hq, h1, hL, h2, h3⟩, st⟩ := vx_callVW X hx (C := C) (hh := hh) (bytes := bytes) (maxL := maxL) (ret := ret) ho hl hin hse hcode hy hK (by rw [hT]; exact hcB) hoB hclB hg (hsize.trans hml.symm) (argsL := As) (rest := rest) (fun sig h => hn.trans (hlen sig h)) hstack hW (by rw [hb]; exact hdg)
    (fun vm₁ hW₁ => ⟨hf.1, hf.2, hPc (T.setVm vm₁) hT hW₁⟩)
  dsimp only [Pt.U, Pt.locs, Pt.cells, Pt.slots] at X' e1 e2 h1 h2 h3 st
  subst h1; subst h2; subst h3
  exact ⟨v, (T.setVm vm₁).calling g' mk (Value.ref b :: As).toArray, t, U', L, hT, X', hL, e1, e2, hq, st⟩
section
variable {y : MethodName} {bytes cc : ByteArray} {maxL nL mc ms n index : Nat} {ret : Option FieldType} {ws : List Cond} {rm : Room} {Pc : Array Value → State → Prop} {Qc : Array Value → State → Outcome → State → Prop} {XC : String → State → State → Prop} {free : Addr → Prop} {Ts : List Cond} {own C : String} {b : Addr} {As rest : List Value} {g : JFrame}
theorem vx_runVX {hh : List (Nat × Nat × Nat × Nat)} (S : CallFix p m c cc nL s args Ts own) (hM : vx_Met l y ws rm Pc Qc XC mc ms free) (cw : vx_CVW R s args own C index y bytes maxL ret hh ws rm mc ms n) (hp : PreV s H C b Pc As)
    (hg : g.method = m) (hn : As.length = n) (hsize : g.locals.size = nL) (hstack : g.stack = As.reverse ++ .ref b :: rest) (hW : 2 * g.monitorRoom + (rest.map fun v => v.category).sum ≤ 8) (hdg : decode cc g.pc = .ok (.invokevirtual index, 3)) (hf : cells + mc ≤ R.cells ∧ slots + ms ≤ R.slots) :
    vx_Run p l e R s m args below meth c H locs cells slots mc ms g rest (Qc (Value.ref b :: As).toArray) XC free := by
  obtain ⟨⟨hrc, hrs, hfr, hlo, hws, hcw⟩, hcode, hini, hy, hlen, hl, hin, hse⟩ := cw
  have hK : vx_Back l R p e below s args y 3 8 (PreOf R mc ms Pc) (PostOf Qc mc ms free) (vx_Post XC mc ms free) := vx_backW (hh := hh) (bytes := bytes) (maxL := maxL) (ret := ret) hM hp.1 hrc hrs hfr hlo hws hcw (fun a' U hW => word_at hW (Or.inl (by first | rfl | simp [Cond.onTables, Cond.keeps, Cond.steady])) hini)
  obtain ⟨hx, hb, hml, ho, -⟩ := S
  obtain ⟨-, ⟨cellB, hcB, hoB, hclB⟩, hPc⟩ := hp
  intro T hT X
  rcases vx_callVX X hx (C := C) (hh := hh) (bytes := bytes) (maxL := maxL) (ret := ret) ho hl hin hse hcode hy hK (by rw [hT]; exact hcB) hoB hclB hg (hsize.trans hml.symm) (argsL := As) (rest := rest) (fun sig h => hn.trans (hlen sig h)) hstack hW (by rw [hb]; exact hdg)
    (fun vm₁ hW₁ => ⟨hf.1, hf.2, hPc (T.setVm vm₁) hT hW₁⟩) with ⟨v, vm₁, ⟨U', l2, c2, s2⟩, hW₁, X', ⟨g', mk, t, L, e1, e2, hq, h1, hL, h2, h3⟩, st⟩ | ⟨q, vm₁, ⟨U', l2, c2, s2⟩, hW₁, X', ⟨g', mk, t, L, E, ce, e1, e2, hq, hce, hcv, hcl, h1, hL, h2, h3⟩, st⟩
  · dsimp only [Pt.U, Pt.locs, Pt.cells, Pt.slots] at X' e1 e2 h1 h2 h3 st
    subst h1; subst h2; subst h3
    exact Or.inl ⟨v, (T.setVm vm₁).calling g' mk (Value.ref b :: As).toArray, t, U', L, hT, X', hL, e1, e2, hq, st⟩
  · dsimp only [Pt.U, Pt.locs, Pt.cells, Pt.slots] at X' e1 e2 h1 h2 h3 st hcl
    subst h1; subst h2; subst h3
    exact Or.inr ⟨q, (T.setVm vm₁).calling g' mk (Value.ref b :: As).toArray, t, U', L, E, ce, hT, X', hL, e1, e2, hq, hce, hcv, vx_cls hW₁ hcl, st⟩
theorem vx_runSX {hh : List (Nat × Nat × Nat × Nat)} (S : CallFix p m c cc nL s args Ts own) (hM : vx_Met l y ws rm Pc Qc XC mc ms free) (cw : vx_CSW R s args own index y bytes maxL ret hh ws rm mc ms n) (hp : PreS s H Pc As)
    (hg : g.method = m) (hn : As.length = n) (hsize : g.locals.size = nL) (hstack : g.stack = As.reverse ++ rest) (hW : 2 * g.monitorRoom + (rest.map fun v => v.category).sum ≤ 8) (hdg : decode cc g.pc = .ok (.invokestatic index, 3)) (hf : cells + mc ≤ R.cells ∧ slots + ms ≤ R.slots) :
    vx_Run p l e R s m args below meth c H locs cells slots mc ms g rest (Qc As.toArray) XC free := by
  obtain ⟨⟨hrc, hrs, hfr, hlo, hws, hcw⟩, hcode, hini, hy, hlen, hl, hstt⟩ := cw
  have hK : vx_Back l R p e below s args y 3 8 (PreOf R mc ms Pc) (PostOf Qc mc ms free) (vx_Post XC mc ms free) := vx_backW (hh := hh) (bytes := bytes) (maxL := maxL) (ret := ret) hM hp.1 hrc hrs hfr hlo hws hcw (fun a' U hW => word_at hW (Or.inl (by first | rfl | simp [Cond.onTables, Cond.keeps, Cond.steady])) hini)
  obtain ⟨hx, hb, hml, ho, -⟩ := S
  intro T hT X
  rcases vx_callSX X hx (hh := hh) (bytes := bytes) (maxL := maxL) (ret := ret) ho hl hstt hini hcode hy hK hg (hsize.trans hml.symm) (argsL := As) (rest := rest) (fun sig h => hn.trans (hlen sig h)) hstack hW (by rw [hb]; exact hdg)
    (fun vm₁ hW₁ => ⟨hf.1, hf.2, hp.2 (T.setVm vm₁) hT hW₁⟩) with ⟨v, vm₁, ⟨U', l2, c2, s2⟩, hW₁, X', ⟨g', mk, t, L, e1, e2, hq, h1, hL, h2, h3⟩, st⟩ | ⟨q, vm₁, ⟨U', l2, c2, s2⟩, hW₁, X', ⟨g', mk, t, L, E, ce, e1, e2, hq, hce, hcv, hcl, h1, hL, h2, h3⟩, st⟩
  · dsimp only [Pt.U, Pt.locs, Pt.cells, Pt.slots] at X' e1 e2 h1 h2 h3 st
    subst h1; subst h2; subst h3
    exact Or.inl ⟨v, (T.setVm vm₁).calling g' mk As.toArray, t, U', L, hT, X', hL, e1, e2, hq, st⟩
  · dsimp only [Pt.U, Pt.locs, Pt.cells, Pt.slots] at X' e1 e2 h1 h2 h3 st hcl
    subst h1; subst h2; subst h3
    exact Or.inr ⟨q, (T.setVm vm₁).calling g' mk As.toArray, t, U', L, E, ce, hT, X', hL, e1, e2, hq, hce, hcv, vx_cls hW₁ hcl, st⟩
end
end VXH
theorem vx_ofWH {l : Launch} {y : MethodName} {ws ws' : List Cond} {rm : Room} {Pc : Array Value → State → Prop} {Qc : Array Value → State → Outcome → State → Prop} {XC : String → State → State → Prop} {mc ms : Nat} {free : Addr → Prop} {cc : ByteArray} {maxL : Nat} {ret : Option FieldType} {hh : List (Nat × Nat × Nat × Nat)}
    (hy : plainName y.cls = true) (hw : ws = Cond.codeWith y cc maxL ret hh :: ws')
    (body : ∀ p e s m args below meth c s₁, BodyLoose p l y (headSpec ws rm) cc maxL ret e s m args below meth c s₁ → c.maxLocals = maxL → Pc args s →
      W p l e (headSpec ws rm).room s m args below meth c s.heap [] 0 0 (vx_MQ below Qc XC args s mc ms free) (entryFrame m args maxL)) : vx_Met l y ws rm Pc Qc XC mc ms free := by
  refine MetFree.of_bodyS (code := cc) (maxLocals := maxL) (ret := ret) hy ?_ ?_
  · intro args s m h hn
    obtain ⟨m9, meth, c, hn9, h1, h2, h3, h4, -, h5, h6, -⟩ := Cond.codeWith_spec (atoms_spec (ws := ws) h _ (by rw [hw]; exact List.mem_cons_self))
    cases hn.symm.trans hn9
    exact ⟨meth, c, h1, h2, h3, h4, h5, h6⟩
  · intro p e s m args below meth c s₁ B hml hP _
    have hh0 : s₁.heap = s.heap := by rw [B.state]; rfl
    obtain ⟨t, a1, o, b1, b2, b3⟩ := body p e s m args below meth c s₁ B hml hP s₁ hh0 (Stand.of_body B)
    exact ⟨t, o, a1, b1, b2, b3⟩
/-! ===== END ===== -/
end
section
/-! ===== BEGIN printed: names, fields, word lists, decode rows ===== -/
def RX0 : String := "Waxrow$Figure"
def TX0 : u_T := fun k => match k with
  | 0 => ("Waxrow$Figure", "head", "LWaxrow$Person;", false)
  | 1 => ("Waxrow$Figure", "body", "LWaxrow$Person;", false)
  | 2 => ("Waxrow$Figure", "step", "I", false)
  | 3 => ("Waxrow$Figure", "workInStep", "I", false)
  | 4 => ("Waxrow$Figure", "hands", "I", false)
  | 5 => ("Waxrow$Figure", "flaw", "I", false)
  | 6 => ("Waxrow$Figure", "wear", "I", false)
  | 7 => ("Waxrow$Figure", "place", "I", false)
  | 8 => ("Waxrow$Figure", "tourLand", "I", false)
  | 9 => ("Waxrow$Figure", "tourDays", "I", false)
  | _ => ("Waxrow$Figure", "touched", "I", false)
def tyX0 : Nat → FieldType := fun k => match k with
  | 0 => .object "Waxrow$Person"
  | 1 => .object "Waxrow$Person"
  | 2 => .int
  | 3 => .int
  | 4 => .int
  | 5 => .int
  | 6 => .int
  | 7 => .int
  | 8 => .int
  | 9 => .int
  | _ => .int
abbrev wsX00 : List Cond := u_ws RX0 TX0 11
theorem nmX0 : ∀ a, a < 11 → ∀ b, b < 11 → a ≠ b → (TX0 a).2.1 ≠ (TX0 b).2.1 := by decide +kernel
theorem tyX0_ok : ∀ k, k < 11 → parseFieldDescriptor (TX0 k).2.2.1 = some (tyX0 k) := by decide +kernel
abbrev cX0_init : ByteArray := prog_2_method_1_code
def yX0_init : MethodName := ⟨RX0, "<init>", "(LWaxrow$Person;)V"⟩
abbrev cX0_copyFrom : ByteArray := prog_2_method_2_code
def yX0_copyFrom : MethodName := ⟨RX0, "copyFrom", "(LWaxrow$Figure;LWaxrow$Person;LWaxrow$Person;)V"⟩
abbrev cX0_isDone : ByteArray := prog_2_method_3_code
def yX0_isDone : MethodName := ⟨RX0, "isDone", "()Z"⟩
abbrev cX0_isReadyInStore : ByteArray := prog_2_method_4_code
def yX0_isReadyInStore : MethodName := ⟨RX0, "isReadyInStore", "()Z"⟩
abbrev cX0_isShown : ByteArray := prog_2_method_5_code
def yX0_isShown : MethodName := ⟨RX0, "isShown", "()Z"⟩
abbrev cX0_becomeMelted : ByteArray := prog_2_method_6_code
def yX0_becomeMelted : MethodName := ⟨RX0, "becomeMelted", "()V"⟩
abbrev cX0_workDay : ByteArray := prog_2_method_7_code
def yX0_workDay : MethodName := ⟨RX0, "workDay", "()Z"⟩
abbrev cX0_workLeftInStep : ByteArray := prog_2_method_8_code
def yX0_workLeftInStep : MethodName := ⟨RX0, "workLeftInStep", "()I"⟩
abbrev cX0_daysTillDone : ByteArray := prog_2_method_9_code
def yX0_daysTillDone : MethodName := ⟨RX0, "daysTillDone", "()I"⟩
abbrev cX0_likeness : ByteArray := prog_2_method_10_code
def yX0_likeness : MethodName := ⟨RX0, "likeness", "()I"⟩
abbrev cX0_draw : ByteArray := prog_2_method_11_code
def yX0_draw : MethodName := ⟨RX0, "draw", "()I"⟩
abbrev cX0_swapHeadWith : ByteArray := prog_2_method_12_code
def yX0_swapHeadWith : MethodName := ⟨RX0, "swapHeadWith", "(LWaxrow$Figure;)V"⟩
abbrev cX0_wearDay : ByteArray := prog_2_method_13_code
def yX0_wearDay : MethodName := ⟨RX0, "wearDay", "(III)Z"⟩
abbrev cX0_tourDay : ByteArray := prog_2_method_14_code
def yX0_tourDay : MethodName := ⟨RX0, "tourDay", "()I"⟩
def RX1 : String := "Waxrow$House"
def TX1 : u_T := fun k => match k with
  | 0 => ("Waxrow$House", "persons", "[LWaxrow$Person;", true)
  | 1 => ("Waxrow$House", "figures", "[LWaxrow$Figure;", true)
  | 2 => ("Waxrow$House", "rooms", "[LWaxrow$Room;", true)
  | 3 => ("Waxrow$House", "personCount", "I", false)
  | 4 => ("Waxrow$House", "figureCount", "I", false)
  | 5 => ("Waxrow$House", "roomCount", "I", false)
  | 6 => ("Waxrow$House", "day", "I", false)
  | 7 => ("Waxrow$House", "money", "I", false)
  | 8 => ("Waxrow$House", "wax", "I", false)
  | 9 => ("Waxrow$House", "price", "I", false)
  | _ => ("Waxrow$House", "came", "I", false)
def tyX1 : Nat → FieldType := fun k => match k with
  | 0 => .array (.object "Waxrow$Person")
  | 1 => .array (.object "Waxrow$Figure")
  | 2 => .array (.object "Waxrow$Room")
  | 3 => .int
  | 4 => .int
  | 5 => .int
  | 6 => .int
  | 7 => .int
  | 8 => .int
  | 9 => .int
  | _ => .int
abbrev wsX10 : List Cond := u_ws RX1 TX1 11
theorem nmX1 : ∀ a, a < 11 → ∀ b, b < 11 → a ≠ b → (TX1 a).2.1 ≠ (TX1 b).2.1 := by decide +kernel
theorem tyX1_ok : ∀ k, k < 11 → parseFieldDescriptor (TX1 k).2.2.1 = some (tyX1 k) := by decide +kernel
abbrev cX1_init : ByteArray := prog_3_method_1_code
def yX1_init : MethodName := ⟨RX1, "<init>", "()V"⟩
abbrev cX1_copyFrom : ByteArray := prog_3_method_2_code
def yX1_copyFrom : MethodName := ⟨RX1, "copyFrom", "(LWaxrow$House;)V"⟩
abbrev cX1_personAt : ByteArray := prog_3_method_3_code
def yX1_personAt : MethodName := ⟨RX1, "personAt", "(I)LWaxrow$Person;"⟩
abbrev cX1_figureAt : ByteArray := prog_3_method_4_code
def yX1_figureAt : MethodName := ⟨RX1, "figureAt", "(I)LWaxrow$Figure;"⟩
abbrev cX1_roomAt : ByteArray := prog_3_method_5_code
def yX1_roomAt : MethodName := ⟨RX1, "roomAt", "(I)LWaxrow$Room;"⟩
abbrev cX1_addPerson : ByteArray := prog_3_method_6_code
def yX1_addPerson : MethodName := ⟨RX1, "addPerson", "(III)I"⟩
abbrev cX1_addFigure : ByteArray := prog_3_method_7_code
def yX1_addFigure : MethodName := ⟨RX1, "addFigure", "(LWaxrow$Person;)I"⟩
abbrev cX1_addRoom : ByteArray := prog_3_method_8_code
def yX1_addRoom : MethodName := ⟨RX1, "addRoom", "(II)I"⟩
abbrev cX1_takeAllOf : ByteArray := prog_3_method_9_code
def yX1_takeAllOf : MethodName := ⟨RX1, "takeAllOf", "(LWaxrow$Person;)I"⟩
abbrev cX1_shownOf : ByteArray := prog_3_method_10_code
def yX1_shownOf : MethodName := ⟨RX1, "shownOf", "(LWaxrow$Person;)I"⟩
abbrev cX1_hasFigureOf : ByteArray := prog_3_method_11_code
def yX1_hasFigureOf : MethodName := ⟨RX1, "hasFigureOf", "(LWaxrow$Person;)Z"⟩
abbrev cX1_cleanFiguresIn : ByteArray := prog_3_method_12_code
def yX1_cleanFiguresIn : MethodName := ⟨RX1, "cleanFiguresIn", "(I)V"⟩
abbrev cX1_figuresIn : ByteArray := prog_3_method_13_code
def yX1_figuresIn : MethodName := ⟨RX1, "figuresIn", "(II)I"⟩
abbrev cX1_figuresDone : ByteArray := prog_3_method_14_code
def yX1_figuresDone : MethodName := ⟨RX1, "figuresDone", "()I"⟩
abbrev cX1_drawsIn : ByteArray := prog_3_method_15_code
def yX1_drawsIn : MethodName := ⟨RX1, "drawsIn", "(II)I"⟩
abbrev cX1_likenessShown : ByteArray := prog_3_method_16_code
def yX1_likenessShown : MethodName := ⟨RX1, "likenessShown", "()I"⟩
abbrev cX1_allDue : ByteArray := prog_3_method_17_code
def yX1_allDue : MethodName := ⟨RX1, "allDue", "()I"⟩
abbrev cX1_allHands : ByteArray := prog_3_method_18_code
def yX1_allHands : MethodName := ⟨RX1, "allHands", "()I"⟩
abbrev cX1_passDay : ByteArray := prog_3_method_19_code
def yX1_passDay : MethodName := ⟨RX1, "passDay", "(II)I"⟩
abbrev cX1_beginMonthOfAll : ByteArray := prog_3_method_20_code
def yX1_beginMonthOfAll : MethodName := ⟨RX1, "beginMonthOfAll", "()V"⟩
abbrev cX1_workOnAll : ByteArray := prog_3_method_21_code
def yX1_workOnAll : MethodName := ⟨RX1, "workOnAll", "()I"⟩
abbrev cX1_wearAllShown : ByteArray := prog_3_method_22_code
def yX1_wearAllShown : MethodName := ⟨RX1, "wearAllShown", "(III)I"⟩
abbrev cX1_tourWithAll : ByteArray := prog_3_method_23_code
def yX1_tourWithAll : MethodName := ⟨RX1, "tourWithAll", "()V"⟩
def RX2 : String := "Waxrow$Person"
def TX2 : u_T := fun k => match k with
  | 0 => ("Waxrow$Person", "number", "I", true)
  | 1 => ("Waxrow$Person", "fame", "[I", true)
  | 2 => ("Waxrow$Person", "trend", "[I", true)
  | 3 => ("Waxrow$Person", "low", "[I", true)
  | 4 => ("Waxrow$Person", "high", "[I", true)
  | 5 => ("Waxrow$Person", "consents", "Z", false)
  | 6 => ("Waxrow$Person", "due", "I", false)
  | _ => ("Waxrow$Person", "clashes", "I", false)
def tyX2 : Nat → FieldType := fun k => match k with
  | 0 => .int
  | 1 => .array .int
  | 2 => .array .int
  | 3 => .array .int
  | 4 => .array .int
  | 5 => .boolean
  | 6 => .int
  | _ => .int
abbrev wsX20 : List Cond := u_ws RX2 TX2 8
theorem nmX2 : ∀ a, a < 8 → ∀ b, b < 8 → a ≠ b → (TX2 a).2.1 ≠ (TX2 b).2.1 := by decide +kernel
theorem tyX2_ok : ∀ k, k < 8 → parseFieldDescriptor (TX2 k).2.2.1 = some (tyX2 k) := by decide +kernel
abbrev cX2_init : ByteArray := prog_4_method_1_code
def yX2_init : MethodName := ⟨RX2, "<init>", "(I)V"⟩
abbrev cX2_copyFrom : ByteArray := prog_4_method_2_code
def yX2_copyFrom : MethodName := ⟨RX2, "copyFrom", "(LWaxrow$Person;)V"⟩
abbrev cX2_changeFame : ByteArray := prog_4_method_3_code
def yX2_changeFame : MethodName := ⟨RX2, "changeFame", "(I)V"⟩
abbrev cX2_beginMonth : ByteArray := prog_4_method_4_code
def yX2_beginMonth : MethodName := ⟨RX2, "beginMonth", "()V"⟩
abbrev cX2_fameBehind : ByteArray := prog_4_method_5_code
def yX2_fameBehind : MethodName := ⟨RX2, "fameBehind", "(II)I"⟩
abbrev cX2_heldFame : ByteArray := prog_4_method_6_code
def yX2_heldFame : MethodName := ⟨RX2, "heldFame", "(I)I"⟩
abbrev cX2_nearerToZero : ByteArray := prog_4_method_7_code
def yX2_nearerToZero : MethodName := ⟨RX2, "nearerToZero", "(I)I"⟩
abbrev cX2_learn : ByteArray := prog_4_method_8_code
def yX2_learn : MethodName := ⟨RX2, "learn", "(III)V"⟩
abbrev cX2_doubt : ByteArray := prog_4_method_9_code
def yX2_doubt : MethodName := ⟨RX2, "doubt", "()I"⟩
abbrev cX2_doubleHeight : ByteArray := prog_4_method_10_code
def yX2_doubleHeight : MethodName := ⟨RX2, "doubleHeight", "()I"⟩
def RX3 : String := "Waxrow$Room"
def TX3 : u_T := fun k => match k with
  | 0 => ("Waxrow$Room", "lamps", "I", false)
  | _ => ("Waxrow$Room", "spots", "I", false)
def tyX3 : Nat → FieldType := fun k => match k with
  | 0 => .int
  | _ => .int
abbrev wsX30 : List Cond := u_ws RX3 TX3 2
theorem nmX3 : ∀ a, a < 2 → ∀ b, b < 2 → a ≠ b → (TX3 a).2.1 ≠ (TX3 b).2.1 := by decide +kernel
theorem tyX3_ok : ∀ k, k < 2 → parseFieldDescriptor (TX3 k).2.2.1 = some (tyX3 k) := by decide +kernel
abbrev cX3_init : ByteArray := prog_5_method_1_code
def yX3_init : MethodName := ⟨RX3, "<init>", "()V"⟩
def RX4 : String := "Waxrow"
def TX4 : u_T := fun k => match k with
  | 0 => ("Waxrow", "house", "LWaxrow$House;", true)
  | _ => ("Waxrow", "trial", "LWaxrow$House;", true)
def tyX4 : Nat → FieldType := fun k => match k with
  | 0 => .object "Waxrow$House"
  | _ => .object "Waxrow$House"
abbrev wsX40 : List Cond := u_ws RX4 TX4 2
theorem nmX4 : ∀ a, a < 2 → ∀ b, b < 2 → a ≠ b → (TX4 a).2.1 ≠ (TX4 b).2.1 := by decide +kernel
theorem tyX4_ok : ∀ k, k < 2 → parseFieldDescriptor (TX4 k).2.2.1 = some (tyX4 k) := by decide +kernel
abbrev cX4_init : ByteArray := prog_1_method_1_code
def yX4_init : MethodName := ⟨RX4, "<init>", "()V"⟩
abbrev cX4_person : ByteArray := prog_1_method_2_code
def yX4_person : MethodName := ⟨RX4, "person", "(III)I"⟩
abbrev cX4_trend : ByteArray := prog_1_method_3_code
def yX4_trend : MethodName := ⟨RX4, "trend", "(III)I"⟩
abbrev cX4_news : ByteArray := prog_1_method_4_code
def yX4_news : MethodName := ⟨RX4, "news", "(II)I"⟩
abbrev cX4_consent : ByteArray := prog_1_method_5_code
def yX4_consent : MethodName := ⟨RX4, "consent", "(IZ)I"⟩
abbrev cX4_measure : ByteArray := prog_1_method_6_code
def yX4_measure : MethodName := ⟨RX4, "measure", "(IIII)I"⟩
abbrev cX4_pay : ByteArray := prog_1_method_7_code
def yX4_pay : MethodName := ⟨RX4, "pay", "(I)I"⟩
abbrev cX4_figure : ByteArray := prog_1_method_8_code
def yX4_figure : MethodName := ⟨RX4, "figure", "(I)I"⟩
abbrev cX4_work : ByteArray := prog_1_method_9_code
def yX4_work : MethodName := ⟨RX4, "work", "(II)I"⟩
abbrev cX4_swap : ByteArray := prog_1_method_10_code
def yX4_swap : MethodName := ⟨RX4, "swap", "(II)I"⟩
abbrev cX4_mend : ByteArray := prog_1_method_11_code
def yX4_mend : MethodName := ⟨RX4, "mend", "(I)I"⟩
abbrev cX4_melt : ByteArray := prog_1_method_12_code
def yX4_melt : MethodName := ⟨RX4, "melt", "(I)I"⟩
abbrev cX4_tour : ByteArray := prog_1_method_13_code
def yX4_tour : MethodName := ⟨RX4, "tour", "(III)I"⟩
abbrev cX4_room : ByteArray := prog_1_method_14_code
def yX4_room : MethodName := ⟨RX4, "room", "(II)I"⟩
abbrev cX4_lamps : ByteArray := prog_1_method_15_code
def yX4_lamps : MethodName := ⟨RX4, "lamps", "(II)I"⟩
abbrev cX4_show : ByteArray := prog_1_method_16_code
def yX4_show : MethodName := ⟨RX4, "show", "(II)I"⟩
abbrev cX4_take : ByteArray := prog_1_method_17_code
def yX4_take : MethodName := ⟨RX4, "take", "(I)I"⟩
abbrev cX4_clean : ByteArray := prog_1_method_18_code
def yX4_clean : MethodName := ⟨RX4, "clean", "(I)I"⟩
abbrev cX4_price : ByteArray := prog_1_method_19_code
def yX4_price : MethodName := ⟨RX4, "price", "(I)I"⟩
abbrev cX4_pass : ByteArray := prog_1_method_20_code
def yX4_pass : MethodName := ⟨RX4, "pass", "(III)I"⟩
abbrev cX4_ofPerson : ByteArray := prog_1_method_21_code
def yX4_ofPerson : MethodName := ⟨RX4, "ofPerson", "(II)I"⟩
abbrev cX4_known : ByteArray := prog_1_method_22_code
def yX4_known : MethodName := ⟨RX4, "known", "(IIZ)I"⟩
abbrev cX4_ofFigure : ByteArray := prog_1_method_23_code
def yX4_ofFigure : MethodName := ⟨RX4, "ofFigure", "(II)I"⟩
abbrev cX4_ofRoom : ByteArray := prog_1_method_24_code
def yX4_ofRoom : MethodName := ⟨RX4, "ofRoom", "(II)I"⟩
abbrev cX4_many : ByteArray := prog_1_method_25_code
def yX4_many : MethodName := ⟨RX4, "many", "(I)I"⟩
abbrev cX4_meanLikeness : ByteArray := prog_1_method_26_code
def yX4_meanLikeness : MethodName := ⟨RX4, "meanLikeness", "()D"⟩
abbrev cX4_wouldFame : ByteArray := prog_1_method_27_code
def yX4_wouldFame : MethodName := ⟨RX4, "wouldFame", "(III)I"⟩
abbrev cX4_readyIn : ByteArray := prog_1_method_28_code
def yX4_readyIn : MethodName := ⟨RX4, "readyIn", "(I)I"⟩
abbrev cX4_meltsIn : ByteArray := prog_1_method_29_code
def yX4_meltsIn : MethodName := ⟨RX4, "meltsIn", "(III)I"⟩
abbrev cX4_bestNext : ByteArray := prog_1_method_30_code
def yX4_bestNext : MethodName := ⟨RX4, "bestNext", "()I"⟩
abbrev cX4_digest : ByteArray := prog_1_method_31_code
def yX4_digest : MethodName := ⟨RX4, "digest", "()J"⟩
abbrev cX4_digestWithPerson : ByteArray := prog_1_method_32_code
def yX4_digestWithPerson : MethodName := ⟨RX4, "digestWithPerson", "(JI)J"⟩
abbrev cX4_checkIndex : ByteArray := prog_1_method_33_code
def yX4_checkIndex : MethodName := ⟨RX4, "checkIndex", "(II)V"⟩
abbrev cX4_checkArgument : ByteArray := prog_1_method_34_code
def yX4_checkArgument : MethodName := ⟨RX4, "checkArgument", "(III)V"⟩
abbrev cX4_checkState : ByteArray := prog_1_method_35_code
def yX4_checkState : MethodName := ⟨RX4, "checkState", "(Z)V"⟩
def RX5 : String := "WaxrowModel$House"
def TX5 : u_T := fun k => match k with
  | 0 => ("WaxrowModel$House", "persons", "[[I", true)
  | 1 => ("WaxrowModel$House", "low", "[[I", true)
  | 2 => ("WaxrowModel$House", "high", "[[I", true)
  | 3 => ("WaxrowModel$House", "figures", "[[I", true)
  | 4 => ("WaxrowModel$House", "lamps", "[I", true)
  | 5 => ("WaxrowModel$House", "spots", "[I", true)
  | 6 => ("WaxrowModel$House", "personCount", "I", false)
  | 7 => ("WaxrowModel$House", "figureCount", "I", false)
  | 8 => ("WaxrowModel$House", "roomCount", "I", false)
  | 9 => ("WaxrowModel$House", "day", "I", false)
  | 10 => ("WaxrowModel$House", "came", "I", false)
  | 11 => ("WaxrowModel$House", "price", "I", false)
  | 12 => ("WaxrowModel$House", "money", "I", false)
  | _ => ("WaxrowModel$House", "wax", "I", false)
def tyX5 : Nat → FieldType := fun k => match k with
  | 0 => .array (.array .int)
  | 1 => .array (.array .int)
  | 2 => .array (.array .int)
  | 3 => .array (.array .int)
  | 4 => .array .int
  | 5 => .array .int
  | 6 => .int
  | 7 => .int
  | 8 => .int
  | 9 => .int
  | 10 => .int
  | 11 => .int
  | 12 => .int
  | _ => .int
abbrev wsX50 : List Cond := u_ws RX5 TX5 14
theorem nmX5 : ∀ a, a < 14 → ∀ b, b < 14 → a ≠ b → (TX5 a).2.1 ≠ (TX5 b).2.1 := by decide +kernel
theorem tyX5_ok : ∀ k, k < 14 → parseFieldDescriptor (TX5 k).2.2.1 = some (tyX5 k) := by decide +kernel
abbrev cX5_init : ByteArray := prog_8_method_1_code
def yX5_init : MethodName := ⟨RX5, "<init>", "()V"⟩
abbrev cX5_copy : ByteArray := prog_8_method_2_code
def yX5_copy : MethodName := ⟨RX5, "copy", "()LWaxrowModel$House;"⟩
abbrev cX5_rows : ByteArray := prog_8_method_3_code
def yX5_rows : MethodName := ⟨RX5, "rows", "([[I[[I)V"⟩
abbrev cX5_doubt : ByteArray := prog_8_method_4_code
def yX5_doubt : MethodName := ⟨RX5, "doubt", "(I)I"⟩
abbrev cX5_height : ByteArray := prog_8_method_5_code
def yX5_height : MethodName := ⟨RX5, "height", "(I)I"⟩
abbrev cX5_isDone : ByteArray := prog_8_method_6_code
def yX5_isDone : MethodName := ⟨RX5, "isDone", "([I)Z"⟩
abbrev cX5_likeness : ByteArray := prog_8_method_7_code
def yX5_likeness : MethodName := ⟨RX5, "likeness", "([I)I"⟩
abbrev cX5_isShown : ByteArray := prog_8_method_8_code
def yX5_isShown : MethodName := ⟨RX5, "isShown", "([I)Z"⟩
abbrev cX5_draw : ByteArray := prog_8_method_9_code
def yX5_draw : MethodName := ⟨RX5, "draw", "([I)I"⟩
abbrev cX5_drawsIn : ByteArray := prog_8_method_10_code
def yX5_drawsIn : MethodName := ⟨RX5, "drawsIn", "(II)I"⟩
abbrev cX5_shownIn : ByteArray := prog_8_method_11_code
def yX5_shownIn : MethodName := ⟨RX5, "shownIn", "(I)I"⟩
abbrev cX5_shownOf : ByteArray := prog_8_method_12_code
def yX5_shownOf : MethodName := ⟨RX5, "shownOf", "(I)I"⟩
abbrev cX5_hands : ByteArray := prog_8_method_13_code
def yX5_hands : MethodName := ⟨RX5, "hands", "()I"⟩
abbrev cX5_month : ByteArray := prog_8_method_14_code
def yX5_month : MethodName := ⟨RX5, "month", "([II)V"⟩
abbrev cX5_work : ByteArray := prog_8_method_15_code
def yX5_work : MethodName := ⟨RX5, "work", "([I)I"⟩
abbrev cX5_go : ByteArray := prog_8_method_16_code
def yX5_go : MethodName := ⟨RX5, "go", "(II)I"⟩
abbrev cX5_wear : ByteArray := prog_8_method_17_code
def yX5_wear : MethodName := ⟨RX5, "wear", "([III)I"⟩
abbrev cX5_travel : ByteArray := prog_8_method_18_code
def yX5_travel : MethodName := ⟨RX5, "travel", "([I)V"⟩
def RX6 : String := "WaxrowModel"
def TX6 : u_T := fun k => match k with
  | 0 => ("WaxrowModel", "thrown", "I", false)
  | _ => ("WaxrowModel", "house", "LWaxrowModel$House;", true)
def tyX6 : Nat → FieldType := fun k => match k with
  | 0 => .int
  | _ => .object "WaxrowModel$House"
abbrev wsX60 : List Cond := u_ws RX6 TX6 2
theorem nmX6 : ∀ a, a < 2 → ∀ b, b < 2 → a ≠ b → (TX6 a).2.1 ≠ (TX6 b).2.1 := by decide +kernel
theorem tyX6_ok : ∀ k, k < 2 → parseFieldDescriptor (TX6 k).2.2.1 = some (tyX6 k) := by decide +kernel
abbrev cX6_init : ByteArray := prog_7_method_1_code
def yX6_init : MethodName := ⟨RX6, "<init>", "()V"⟩
abbrev cX6_thrown : ByteArray := prog_7_method_2_code
def yX6_thrown : MethodName := ⟨RX6, "thrown", "()I"⟩
abbrev cX6_no : ByteArray := prog_7_method_3_code
def yX6_no : MethodName := ⟨RX6, "no", "(I)I"⟩
abbrev cX6_in : ByteArray := prog_7_method_4_code
def yX6_in : MethodName := ⟨RX6, "in", "(III)Z"⟩
abbrev cX6_needs : ByteArray := prog_7_method_5_code
def yX6_needs : MethodName := ⟨RX6, "needs", "(I)I"⟩
abbrev cX6_held : ByteArray := prog_7_method_6_code
def yX6_held : MethodName := ⟨RX6, "held", "(II)I"⟩
abbrev cX6_isPerson : ByteArray := prog_7_method_7_code
def yX6_isPerson : MethodName := ⟨RX6, "isPerson", "(I)Z"⟩
abbrev cX6_isFigure : ByteArray := prog_7_method_8_code
def yX6_isFigure : MethodName := ⟨RX6, "isFigure", "(I)Z"⟩
abbrev cX6_isRoom : ByteArray := prog_7_method_9_code
def yX6_isRoom : MethodName := ⟨RX6, "isRoom", "(I)Z"⟩
abbrev cX6_person : ByteArray := prog_7_method_10_code
def yX6_person : MethodName := ⟨RX6, "person", "(III)I"⟩
abbrev cX6_trend : ByteArray := prog_7_method_11_code
def yX6_trend : MethodName := ⟨RX6, "trend", "(III)I"⟩
abbrev cX6_news : ByteArray := prog_7_method_12_code
def yX6_news : MethodName := ⟨RX6, "news", "(II)I"⟩
abbrev cX6_consent : ByteArray := prog_7_method_13_code
def yX6_consent : MethodName := ⟨RX6, "consent", "(IZ)I"⟩
abbrev cX6_measure : ByteArray := prog_7_method_14_code
def yX6_measure : MethodName := ⟨RX6, "measure", "(IIII)I"⟩
abbrev cX6_pay : ByteArray := prog_7_method_15_code
def yX6_pay : MethodName := ⟨RX6, "pay", "(I)I"⟩
abbrev cX6_figure : ByteArray := prog_7_method_16_code
def yX6_figure : MethodName := ⟨RX6, "figure", "(I)I"⟩
abbrev cX6_work : ByteArray := prog_7_method_17_code
def yX6_work : MethodName := ⟨RX6, "work", "(II)I"⟩
abbrev cX6_isAtHand : ByteArray := prog_7_method_18_code
def yX6_isAtHand : MethodName := ⟨RX6, "isAtHand", "([I)Z"⟩
abbrev cX6_swap : ByteArray := prog_7_method_19_code
def yX6_swap : MethodName := ⟨RX6, "swap", "(II)I"⟩
abbrev cX6_mend : ByteArray := prog_7_method_20_code
def yX6_mend : MethodName := ⟨RX6, "mend", "(I)I"⟩
abbrev cX6_melt : ByteArray := prog_7_method_21_code
def yX6_melt : MethodName := ⟨RX6, "melt", "(I)I"⟩
abbrev cX6_tour : ByteArray := prog_7_method_22_code
def yX6_tour : MethodName := ⟨RX6, "tour", "(III)I"⟩
abbrev cX6_room : ByteArray := prog_7_method_23_code
def yX6_room : MethodName := ⟨RX6, "room", "(II)I"⟩
abbrev cX6_lamps : ByteArray := prog_7_method_24_code
def yX6_lamps : MethodName := ⟨RX6, "lamps", "(II)I"⟩
abbrev cX6_show : ByteArray := prog_7_method_25_code
def yX6_show : MethodName := ⟨RX6, "show", "(II)I"⟩
abbrev cX6_take : ByteArray := prog_7_method_26_code
def yX6_take : MethodName := ⟨RX6, "take", "(I)I"⟩
abbrev cX6_clean : ByteArray := prog_7_method_27_code
def yX6_clean : MethodName := ⟨RX6, "clean", "(I)I"⟩
abbrev cX6_price : ByteArray := prog_7_method_28_code
def yX6_price : MethodName := ⟨RX6, "price", "(I)I"⟩
abbrev cX6_pass : ByteArray := prog_7_method_29_code
def yX6_pass : MethodName := ⟨RX6, "pass", "(III)I"⟩
abbrev cX6_personNow : ByteArray := prog_7_method_30_code
def yX6_personNow : MethodName := ⟨RX6, "personNow", "(II)I"⟩
abbrev cX6_ofPerson : ByteArray := prog_7_method_31_code
def yX6_ofPerson : MethodName := ⟨RX6, "ofPerson", "(II)I"⟩
abbrev cX6_known : ByteArray := prog_7_method_32_code
def yX6_known : MethodName := ⟨RX6, "known", "(IIZ)I"⟩
abbrev cX6_figureNow : ByteArray := prog_7_method_33_code
def yX6_figureNow : MethodName := ⟨RX6, "figureNow", "([II)I"⟩
abbrev cX6_ofFigure : ByteArray := prog_7_method_34_code
def yX6_ofFigure : MethodName := ⟨RX6, "ofFigure", "(II)I"⟩
abbrev cX6_roomNow : ByteArray := prog_7_method_35_code
def yX6_roomNow : MethodName := ⟨RX6, "roomNow", "(II)I"⟩
abbrev cX6_ofRoom : ByteArray := prog_7_method_36_code
def yX6_ofRoom : MethodName := ⟨RX6, "ofRoom", "(II)I"⟩
abbrev cX6_countAt : ByteArray := prog_7_method_37_code
def yX6_countAt : MethodName := ⟨RX6, "countAt", "(II)I"⟩
abbrev cX6_manyNow : ByteArray := prog_7_method_38_code
def yX6_manyNow : MethodName := ⟨RX6, "manyNow", "(I)I"⟩
abbrev cX6_many : ByteArray := prog_7_method_39_code
def yX6_many : MethodName := ⟨RX6, "many", "(I)I"⟩
abbrev cX6_meanLikeness : ByteArray := prog_7_method_40_code
def yX6_meanLikeness : MethodName := ⟨RX6, "meanLikeness", "()D"⟩
abbrev cX6_fameNow : ByteArray := prog_7_method_41_code
def yX6_fameNow : MethodName := ⟨RX6, "fameNow", "(III)I"⟩
abbrev cX6_wouldFame : ByteArray := prog_7_method_42_code
def yX6_wouldFame : MethodName := ⟨RX6, "wouldFame", "(III)I"⟩
abbrev cX6_readyNow : ByteArray := prog_7_method_43_code
def yX6_readyNow : MethodName := ⟨RX6, "readyNow", "([I)I"⟩
abbrev cX6_readyIn : ByteArray := prog_7_method_44_code
def yX6_readyIn : MethodName := ⟨RX6, "readyIn", "(I)I"⟩
abbrev cX6_meltsNow : ByteArray := prog_7_method_45_code
def yX6_meltsNow : MethodName := ⟨RX6, "meltsNow", "(III)I"⟩
abbrev cX6_meltsIn : ByteArray := prog_7_method_46_code
def yX6_meltsIn : MethodName := ⟨RX6, "meltsIn", "(III)I"⟩
abbrev cX6_hasFigure : ByteArray := prog_7_method_47_code
def yX6_hasFigure : MethodName := ⟨RX6, "hasFigure", "(I)Z"⟩
abbrev cX6_nextNow : ByteArray := prog_7_method_48_code
def yX6_nextNow : MethodName := ⟨RX6, "nextNow", "()I"⟩
abbrev cX6_bestNext : ByteArray := prog_7_method_49_code
def yX6_bestNext : MethodName := ⟨RX6, "bestNext", "()I"⟩
abbrev cX6_digest : ByteArray := prog_7_method_50_code
def yX6_digest : MethodName := ⟨RX6, "digest", "()J"⟩
def RJ6 : String := "java/lang/Integer"
def TJ6 : u_T := fun k => match k with
  | _ => ("", "", "", false)
def tyJ6 : Nat → FieldType := fun k => match k with
  | _ => .int
abbrev wsJ60 : List Cond := u_ws RJ6 TJ6 0
theorem nmJ6 : ∀ a, a < 0 → ∀ b, b < 0 → a ≠ b → (TJ6 a).2.1 ≠ (TJ6 b).2.1 := by decide +kernel
theorem tyJ6_ok : ∀ k, k < 0 → parseFieldDescriptor (TJ6 k).2.2.1 = some (tyJ6 k) := by decide +kernel
abbrev cJ6_signum_0f7a4 : ByteArray := prog_13_method_56_code
def yJ6_signum_0f7a4 : MethodName := ⟨RJ6, "signum", "(I)I"⟩
def RJ9 : String := "java/lang/Math"
def TJ9 : u_T := fun k => match k with
  | _ => ("", "", "", false)
def tyJ9 : Nat → FieldType := fun k => match k with
  | _ => .int
abbrev wsJ90 : List Cond := u_ws RJ9 TJ9 0
theorem nmJ9 : ∀ a, a < 0 → ∀ b, b < 0 → a ≠ b → (TJ9 a).2.1 ≠ (TJ9 b).2.1 := by decide +kernel
theorem tyJ9_ok : ∀ k, k < 0 → parseFieldDescriptor (TJ9 k).2.2.1 = some (tyJ9 k) := by decide +kernel
abbrev cJ9_abs_0f7a4 : ByteArray := prog_14_method_59_code
def yJ9_abs_0f7a4 : MethodName := ⟨RJ9, "abs", "(I)I"⟩
abbrev cJ9_max_7cf53 : ByteArray := prog_14_method_65_code
def yJ9_max_7cf53 : MethodName := ⟨RJ9, "max", "(II)I"⟩
abbrev cJ9_min_7cf53 : ByteArray := prog_14_method_69_code
def yJ9_min_7cf53 : MethodName := ⟨RJ9, "min", "(II)I"⟩
def RJ0 : String := "java/lang/String"
def TJ0 : u_T := fun k => match k with
  | _ => ("", "", "", false)
def tyJ0 : Nat → FieldType := fun k => match k with
  | _ => .int
abbrev wsJ00 : List Cond := u_ws RJ0 TJ0 0
theorem nmJ0 : ∀ a, a < 0 → ∀ b, b < 0 → a ≠ b → (TJ0 a).2.1 ≠ (TJ0 b).2.1 := by decide +kernel
theorem tyJ0_ok : ∀ k, k < 0 → parseFieldDescriptor (TJ0 k).2.2.1 = some (tyJ0 k) := by decide +kernel
def RJ10 : String := "java/lang/System"
def TJ10 : u_T := fun k => match k with
  | _ => ("", "", "", false)
def tyJ10 : Nat → FieldType := fun k => match k with
  | _ => .int
abbrev wsJ100 : List Cond := u_ws RJ10 TJ10 0
theorem nmJ10 : ∀ a, a < 0 → ∀ b, b < 0 → a ≠ b → (TJ10 a).2.1 ≠ (TJ10 b).2.1 := by decide +kernel
theorem tyJ10_ok : ∀ k, k < 0 → parseFieldDescriptor (TJ10 k).2.2.1 = some (tyJ10 k) := by decide +kernel
def RL : String := "WaxrowLaw"
abbrev cL_person : ByteArray := method_3_code
def yL_person : MethodName := ⟨RL, "person", "(LWaxrow;III[J)I"⟩
abbrev cL_trend : ByteArray := method_4_code
def yL_trend : MethodName := ⟨RL, "trend", "(LWaxrow;III[J)I"⟩
abbrev cL_news : ByteArray := method_5_code
def yL_news : MethodName := ⟨RL, "news", "(LWaxrow;II[J)I"⟩
abbrev cL_consent : ByteArray := method_6_code
def yL_consent : MethodName := ⟨RL, "consent", "(LWaxrow;IZ[J)I"⟩
abbrev cL_measure : ByteArray := method_7_code
def yL_measure : MethodName := ⟨RL, "measure", "(LWaxrow;IIII[J)I"⟩
abbrev cL_pay : ByteArray := method_8_code
def yL_pay : MethodName := ⟨RL, "pay", "(LWaxrow;I[J)I"⟩
abbrev cL_figure : ByteArray := method_9_code
def yL_figure : MethodName := ⟨RL, "figure", "(LWaxrow;I[J)I"⟩
abbrev cL_work : ByteArray := method_10_code
def yL_work : MethodName := ⟨RL, "work", "(LWaxrow;II[J)I"⟩
abbrev cL_swap : ByteArray := method_11_code
def yL_swap : MethodName := ⟨RL, "swap", "(LWaxrow;II[J)I"⟩
abbrev cL_mend : ByteArray := method_12_code
def yL_mend : MethodName := ⟨RL, "mend", "(LWaxrow;I[J)I"⟩
abbrev cL_melt : ByteArray := method_13_code
def yL_melt : MethodName := ⟨RL, "melt", "(LWaxrow;I[J)I"⟩
abbrev cL_tour : ByteArray := method_14_code
def yL_tour : MethodName := ⟨RL, "tour", "(LWaxrow;III[J)I"⟩
abbrev cL_room : ByteArray := method_15_code
def yL_room : MethodName := ⟨RL, "room", "(LWaxrow;II[J)I"⟩
abbrev cL_lamps : ByteArray := method_16_code
def yL_lamps : MethodName := ⟨RL, "lamps", "(LWaxrow;II[J)I"⟩
abbrev cL_show : ByteArray := method_17_code
def yL_show : MethodName := ⟨RL, "show", "(LWaxrow;II[J)I"⟩
abbrev cL_take : ByteArray := method_18_code
def yL_take : MethodName := ⟨RL, "take", "(LWaxrow;I[J)I"⟩
abbrev cL_clean : ByteArray := method_19_code
def yL_clean : MethodName := ⟨RL, "clean", "(LWaxrow;I[J)I"⟩
abbrev cL_price : ByteArray := method_20_code
def yL_price : MethodName := ⟨RL, "price", "(LWaxrow;I[J)I"⟩
abbrev cL_pass : ByteArray := method_21_code
def yL_pass : MethodName := ⟨RL, "pass", "(LWaxrow;III[J)I"⟩
abbrev cL_ofPerson : ByteArray := method_22_code
def yL_ofPerson : MethodName := ⟨RL, "ofPerson", "(LWaxrow;II[J)I"⟩
abbrev cL_known : ByteArray := method_23_code
def yL_known : MethodName := ⟨RL, "known", "(LWaxrow;IIZ[J)I"⟩
abbrev cL_ofFigure : ByteArray := method_24_code
def yL_ofFigure : MethodName := ⟨RL, "ofFigure", "(LWaxrow;II[J)I"⟩
abbrev cL_ofRoom : ByteArray := method_25_code
def yL_ofRoom : MethodName := ⟨RL, "ofRoom", "(LWaxrow;II[J)I"⟩
abbrev cL_many : ByteArray := method_26_code
def yL_many : MethodName := ⟨RL, "many", "(LWaxrow;I[J)I"⟩
abbrev cL_wouldFame : ByteArray := method_27_code
def yL_wouldFame : MethodName := ⟨RL, "wouldFame", "(LWaxrow;III[J)I"⟩
abbrev cL_readyIn : ByteArray := method_28_code
def yL_readyIn : MethodName := ⟨RL, "readyIn", "(LWaxrow;I[J)I"⟩
abbrev cL_meltsIn : ByteArray := method_29_code
def yL_meltsIn : MethodName := ⟨RL, "meltsIn", "(LWaxrow;III[J)I"⟩
abbrev cL_law : ByteArray := code
def yL_law : MethodName := ⟨RL, "law", "([I)Z"⟩
def wsX0_init : List Cond := .code yX0_init cX0_init 2 none :: ([.methodLink RX0 3 objectInit, .instanceMethod objectInit, .code objectInit ⟨#[0xb1]⟩ 1 none, .fieldLink RX0 9 "Waxrow$Figure" "head" "LWaxrow$Person;", .fieldLink RX0 15 "Waxrow$Figure" "body" "LWaxrow$Person;", .fieldLink RX0 18 "Waxrow$Figure" "place" "I"] ++ wsX00)
def wsX0_copyFrom : List Cond := .code yX0_copyFrom cX0_copyFrom 4 none :: ([.fieldLink RX0 9 "Waxrow$Figure" "head" "LWaxrow$Person;", .fieldLink RX0 15 "Waxrow$Figure" "body" "LWaxrow$Person;", .fieldLink RX0 22 "Waxrow$Figure" "step" "I", .fieldLink RX0 25 "Waxrow$Figure" "workInStep" "I", .fieldLink RX0 28 "Waxrow$Figure" "hands" "I", .fieldLink RX0 31 "Waxrow$Figure" "flaw" "I", .fieldLink RX0 34 "Waxrow$Figure" "wear" "I", .fieldLink RX0 18 "Waxrow$Figure" "place" "I", .fieldLink RX0 37 "Waxrow$Figure" "tourLand" "I", .fieldLink RX0 40 "Waxrow$Figure" "tourDays" "I", .fieldLink RX0 43 "Waxrow$Figure" "touched" "I"] ++ wsX00)
def wsX0_isDone : List Cond := .code yX0_isDone cX0_isDone 1 (some .boolean) :: ([.fieldLink RX0 22 "Waxrow$Figure" "step" "I", .fieldLink RX0 18 "Waxrow$Figure" "place" "I"] ++ wsX00)
def wsX0_isReadyInStore : List Cond := .code yX0_isReadyInStore cX0_isReadyInStore 1 (some .boolean) :: ([.fieldLink RX0 22 "Waxrow$Figure" "step" "I", .fieldLink RX0 18 "Waxrow$Figure" "place" "I"] ++ wsX00)
def wsX0_isShown : List Cond := .code yX0_isShown cX0_isShown 1 (some .boolean) :: ([.fieldLink RX0 18 "Waxrow$Figure" "place" "I"] ++ wsX00)
def wsX0_becomeMelted : List Cond := .code yX0_becomeMelted cX0_becomeMelted 1 none :: ([.fieldLink RX0 18 "Waxrow$Figure" "place" "I", .fieldLink RX0 28 "Waxrow$Figure" "hands" "I"] ++ wsX00)
def wsX2_doubt : List Cond := .code yX2_doubt cX2_doubt 3 (some .int) :: ([.fieldLink RX2 25 "Waxrow$Person" "high" "[I", .fieldLink RX2 22 "Waxrow$Person" "low" "[I"] ++ wsX20)
def wsX0_workDay : List Cond := .code yX0_workDay cX0_workDay 1 (some .boolean) :: ([.fieldLink RX0 22 "Waxrow$Figure" "step" "I", .fieldLink RX0 18 "Waxrow$Figure" "place" "I", .fieldLink RX0 25 "Waxrow$Figure" "workInStep" "I", .fieldLink RX0 28 "Waxrow$Figure" "hands" "I", .fieldLink RX0 9 "Waxrow$Figure" "head" "LWaxrow$Person;", .fieldLink RX0 31 "Waxrow$Figure" "flaw" "I", .methodLink RX0 50 yX2_doubt, .instanceMethod yX2_doubt, .selects RX2 yX2_doubt yX2_doubt, .initialized RX2, .code yX2_doubt cX2_doubt 3 (some .int), .fieldLink RX2 25 "Waxrow$Person" "high" "[I", .fieldLink RX2 22 "Waxrow$Person" "low" "[I"] ++ wsX00 ++ wsX20)
def wsX0_workLeftInStep : List Cond := .code yX0_workLeftInStep cX0_workLeftInStep 1 (some .int) :: ([.fieldLink RX0 22 "Waxrow$Figure" "step" "I", .fieldLink RX0 25 "Waxrow$Figure" "workInStep" "I"] ++ wsX00)
def wsX0_daysTillDone : List Cond := .code yX0_daysTillDone cX0_daysTillDone 3 (some .int) :: ([.fieldLink RX0 18 "Waxrow$Figure" "place" "I", .fieldLink RX0 28 "Waxrow$Figure" "hands" "I", .fieldLink RX0 25 "Waxrow$Figure" "workInStep" "I", .fieldLink RX0 22 "Waxrow$Figure" "step" "I", .methodLink RX0 56 yX0_isDone, .instanceMethod yX0_isDone, .selects RX0 yX0_isDone yX0_isDone, .initialized RX0, .code yX0_isDone cX0_isDone 1 (some .boolean)] ++ wsX00)
def wsX2_doubleHeight : List Cond := .code yX2_doubleHeight cX2_doubleHeight 1 (some .int) :: ([.fieldLink RX2 22 "Waxrow$Person" "low" "[I", .fieldLink RX2 25 "Waxrow$Person" "high" "[I"] ++ wsX20)
def wsX0_likeness : List Cond := .code yX0_likeness cX0_likeness 3 (some .int) :: ([.fieldLink RX0 31 "Waxrow$Figure" "flaw" "I", .fieldLink RX0 34 "Waxrow$Figure" "wear" "I", .fieldLink RX0 9 "Waxrow$Figure" "head" "LWaxrow$Person;", .fieldLink RX0 15 "Waxrow$Figure" "body" "LWaxrow$Person;", .methodLink RX0 56 yX0_isDone, .instanceMethod yX0_isDone, .selects RX0 yX0_isDone yX0_isDone, .initialized RX0, .code yX0_isDone cX0_isDone 1 (some .boolean), .fieldLink RX0 22 "Waxrow$Figure" "step" "I", .fieldLink RX0 18 "Waxrow$Figure" "place" "I", .methodLink RX0 60 yX2_doubleHeight, .instanceMethod yX2_doubleHeight, .selects RX2 yX2_doubleHeight yX2_doubleHeight, .initialized RX2, .code yX2_doubleHeight cX2_doubleHeight 1 (some .int), .fieldLink RX2 22 "Waxrow$Person" "low" "[I", .fieldLink RX2 25 "Waxrow$Person" "high" "[I"] ++ wsX00 ++ wsX20)
def wsX0_draw_r1 : List Cond := [Cond.fieldLink RX0 9 "Waxrow$Figure" "head" "LWaxrow$Person;", Cond.fieldLink RX0 66 "Waxrow$Person" "fame" "[I", Cond.methodLink RX0 63 yX0_isShown, Cond.instanceMethod yX0_isShown, Cond.selects RX0 yX0_isShown yX0_isShown, Cond.initialized RX0, Cond.code yX0_isShown cX0_isShown 1 (some .boolean), Cond.fieldLink RX0 18 "Waxrow$Figure" "place" "I", Cond.methodLink RX0 69 yX0_likeness, Cond.instanceMethod yX0_likeness, Cond.selects RX0 yX0_likeness yX0_likeness, Cond.code yX0_likeness cX0_likeness 3 (some .int), Cond.fieldLink RX0 31 "Waxrow$Figure" "flaw" "I", Cond.fieldLink RX0 34 "Waxrow$Figure" "wear" "I", Cond.fieldLink RX0 15 "Waxrow$Figure" "body" "LWaxrow$Person;", Cond.methodLink RX0 56 yX0_isDone, Cond.instanceMethod yX0_isDone, Cond.selects RX0 yX0_isDone yX0_isDone, Cond.code yX0_isDone cX0_isDone 1 (some .boolean), Cond.fieldLink RX0 22 "Waxrow$Figure" "step" "I", Cond.methodLink RX0 60 yX2_doubleHeight, Cond.instanceMethod yX2_doubleHeight, Cond.selects RX2 yX2_doubleHeight yX2_doubleHeight, Cond.initialized RX2]
def wsX0_draw_r2 : List Cond := [Cond.code yX2_doubleHeight cX2_doubleHeight 1 (some .int), Cond.fieldLink RX2 22 "Waxrow$Person" "low" "[I", Cond.fieldLink RX2 25 "Waxrow$Person" "high" "[I"]
def wsX0_draw : List Cond := .code yX0_draw cX0_draw 1 (some .int) :: ((wsX0_draw_r1 ++ wsX0_draw_r2) ++ wsX00 ++ wsX20)
def wsX0_swapHeadWith : List Cond := .code yX0_swapHeadWith cX0_swapHeadWith 4 none :: ([.fieldLink RX0 9 "Waxrow$Figure" "head" "LWaxrow$Person;", .fieldLink RX0 31 "Waxrow$Figure" "flaw" "I"] ++ wsX00)
def wsX0_wearDay : List Cond := .code yX0_wearDay cX0_wearDay 5 (some .boolean) :: ([.fieldLink RX0 43 "Waxrow$Figure" "touched" "I", .fieldLink RX0 9 "Waxrow$Figure" "head" "LWaxrow$Person;", .fieldLink RX0 72 "Waxrow$Person" "due" "I", .fieldLink RX0 34 "Waxrow$Figure" "wear" "I", .methodLink RX0 75 Lib.Math.min.name, .static Lib.Math.min.name, .initialized "java/lang/Math", .code Lib.Math.min.name Lib.Math.min.code 2 (some .int), .methodLink RX0 81 yX0_becomeMelted, .instanceMethod yX0_becomeMelted, .selects RX0 yX0_becomeMelted yX0_becomeMelted, .initialized RX0, .code yX0_becomeMelted cX0_becomeMelted 1 none, .fieldLink RX0 18 "Waxrow$Figure" "place" "I", .fieldLink RX0 28 "Waxrow$Figure" "hands" "I"] ++ wsX00 ++ wsX20)
def wsX0_tourDay_r1 : List Cond := [Cond.fieldLink RX0 37 "Waxrow$Figure" "tourLand" "I", Cond.fieldLink RX0 9 "Waxrow$Figure" "head" "LWaxrow$Person;", Cond.fieldLink RX0 66 "Waxrow$Person" "fame" "[I", Cond.fieldLink RX0 34 "Waxrow$Figure" "wear" "I", Cond.methodLink RX0 75 Lib.Math.min.name, Cond.static Lib.Math.min.name, Cond.initialized "java/lang/Math", Cond.code Lib.Math.min.name Lib.Math.min.code 2 (some .int), Cond.fieldLink RX0 40 "Waxrow$Figure" "tourDays" "I", Cond.fieldLink RX0 18 "Waxrow$Figure" "place" "I", Cond.methodLink RX0 69 yX0_likeness, Cond.instanceMethod yX0_likeness, Cond.selects RX0 yX0_likeness yX0_likeness, Cond.initialized RX0, Cond.code yX0_likeness cX0_likeness 3 (some .int), Cond.fieldLink RX0 31 "Waxrow$Figure" "flaw" "I", Cond.fieldLink RX0 15 "Waxrow$Figure" "body" "LWaxrow$Person;", Cond.methodLink RX0 56 yX0_isDone, Cond.instanceMethod yX0_isDone, Cond.selects RX0 yX0_isDone yX0_isDone, Cond.code yX0_isDone cX0_isDone 1 (some .boolean), Cond.fieldLink RX0 22 "Waxrow$Figure" "step" "I", Cond.methodLink RX0 60 yX2_doubleHeight, Cond.instanceMethod yX2_doubleHeight]
def wsX0_tourDay_r2 : List Cond := [Cond.selects RX2 yX2_doubleHeight yX2_doubleHeight, Cond.initialized RX2, Cond.code yX2_doubleHeight cX2_doubleHeight 1 (some .int), Cond.fieldLink RX2 22 "Waxrow$Person" "low" "[I", Cond.fieldLink RX2 25 "Waxrow$Person" "high" "[I"]
def wsX0_tourDay : List Cond := .code yX0_tourDay cX0_tourDay 2 (some .int) :: ((wsX0_tourDay_r1 ++ wsX0_tourDay_r2) ++ wsX00 ++ wsX20)
def wsX2_init : List Cond := .code yX2_init cX2_init 3 none :: ([.methodLink RX2 3 objectInit, .instanceMethod objectInit, .code objectInit ⟨#[0xb1]⟩ 1 none, .fieldLink RX2 9 "Waxrow$Person" "number" "I", .arrayClass .int, .fieldLink RX2 15 "Waxrow$Person" "fame" "[I", .fieldLink RX2 19 "Waxrow$Person" "trend" "[I", .fieldLink RX2 22 "Waxrow$Person" "low" "[I", .fieldLink RX2 25 "Waxrow$Person" "high" "[I"] ++ wsX20)
def wsX3_init : List Cond := .code yX3_init cX3_init 1 none :: ([.methodLink RX3 1 objectInit, .instanceMethod objectInit, .code objectInit ⟨#[0xb1]⟩ 1 none])
def wsX1_init_r1 : List Cond := [Cond.methodLink RX1 3 objectInit, Cond.instanceMethod objectInit, Cond.code objectInit ⟨#[0xb1]⟩ 1 none, Cond.classLink RX1 9 RX2, Cond.fieldLink RX1 11 "Waxrow$House" "persons" "[LWaxrow$Person;", Cond.instantiable RX2 8, Cond.initialized RX2, Cond.classLink RX1 20 RX0, Cond.fieldLink RX1 22 "Waxrow$House" "figures" "[LWaxrow$Figure;", Cond.instantiable RX0 11, Cond.initialized RX0, Cond.classLink RX1 29 RX3, Cond.fieldLink RX1 31 "Waxrow$House" "rooms" "[LWaxrow$Room;", Cond.instantiable RX3 2, Cond.initialized RX3, Cond.fieldLink RX1 36 "Waxrow$House" "money" "I", Cond.fieldLink RX1 40 "Waxrow$House" "wax" "I", Cond.fieldLink RX1 43 "Waxrow$House" "price" "I", Cond.methodLink RX1 17 yX2_init, Cond.instanceMethod yX2_init, Cond.code yX2_init cX2_init 3 none, Cond.methodLink RX2 3 objectInit, Cond.fieldLink RX2 9 "Waxrow$Person" "number" "I", Cond.arrayClass .int]
def wsX1_init_r2 : List Cond := [Cond.fieldLink RX2 15 "Waxrow$Person" "fame" "[I", Cond.fieldLink RX2 19 "Waxrow$Person" "trend" "[I", Cond.fieldLink RX2 22 "Waxrow$Person" "low" "[I", Cond.fieldLink RX2 25 "Waxrow$Person" "high" "[I", Cond.methodLink RX1 26 yX0_init, Cond.instanceMethod yX0_init, Cond.code yX0_init cX0_init 2 none, Cond.methodLink RX0 3 objectInit, Cond.fieldLink RX0 9 "Waxrow$Figure" "head" "LWaxrow$Person;", Cond.fieldLink RX0 15 "Waxrow$Figure" "body" "LWaxrow$Person;", Cond.fieldLink RX0 18 "Waxrow$Figure" "place" "I", Cond.instanceMethod yX3_init, Cond.code yX3_init cX3_init 1 none, Cond.methodLink RX3 1 objectInit]
def wsX1_init : List Cond := .code yX1_init cX1_init 2 none :: ((wsX1_init_r1 ++ wsX1_init_r2) ++ wsX10 ++ wsX20 ++ wsX00 ++ wsX30)
def wsX2_copyFrom : List Cond := .code yX2_copyFrom cX2_copyFrom 3 none :: ([.fieldLink RX2 15 "Waxrow$Person" "fame" "[I", .fieldLink RX2 19 "Waxrow$Person" "trend" "[I", .fieldLink RX2 22 "Waxrow$Person" "low" "[I", .fieldLink RX2 25 "Waxrow$Person" "high" "[I", .fieldLink RX2 28 "Waxrow$Person" "consents" "Z", .fieldLink RX2 32 "Waxrow$Person" "due" "I", .fieldLink RX2 35 "Waxrow$Person" "clashes" "I"] ++ wsX20)
def wsX4_checkIndex : List Cond := .code yX4_checkIndex cX4_checkIndex 2 none :: ([.classLink RX4 279 "java/lang/IndexOutOfBoundsException", .initialized "java/lang/IndexOutOfBoundsException"] ++ (vx_atS RX4 283 "java/lang/IndexOutOfBoundsException" ["java/lang/RuntimeException", "java/lang/Exception"]).filter goodWord)
def wsX1_personAt : List Cond := .code yX1_personAt cX1_personAt 2 (some (.object "Waxrow$Person")) :: ([.fieldLink RX1 46 "Waxrow$House" "personCount" "I", .fieldLink RX1 11 "Waxrow$House" "persons" "[LWaxrow$Person;", .static yX4_checkIndex, .initialized RX4, .code yX4_checkIndex cX4_checkIndex 2 none, .classLink RX4 279 "java/lang/IndexOutOfBoundsException", .initialized "java/lang/IndexOutOfBoundsException"] ++ wsX10 ++ (vx_atS RX4 283 "java/lang/IndexOutOfBoundsException" ["java/lang/RuntimeException", "java/lang/Exception"]).filter goodWord)
def wsX1_copyFrom_r1 : List Cond := [Cond.fieldLink RX1 46 "Waxrow$House" "personCount" "I", Cond.fieldLink RX1 49 "Waxrow$House" "figureCount" "I", Cond.fieldLink RX1 52 "Waxrow$House" "roomCount" "I", Cond.fieldLink RX1 55 "Waxrow$House" "day" "I", Cond.fieldLink RX1 36 "Waxrow$House" "money" "I", Cond.fieldLink RX1 40 "Waxrow$House" "wax" "I", Cond.fieldLink RX1 43 "Waxrow$House" "price" "I", Cond.fieldLink RX1 58 "Waxrow$House" "came" "I", Cond.fieldLink RX1 11 "Waxrow$House" "persons" "[LWaxrow$Person;", Cond.fieldLink RX1 22 "Waxrow$House" "figures" "[LWaxrow$Figure;", Cond.fieldLink RX1 64 "Waxrow$Figure" "head" "LWaxrow$Person;", Cond.fieldLink RX1 68 "Waxrow$Person" "number" "I", Cond.fieldLink RX1 75 "Waxrow$Figure" "body" "LWaxrow$Person;", Cond.fieldLink RX1 31 "Waxrow$House" "rooms" "[LWaxrow$Room;", Cond.fieldLink RX1 81 "Waxrow$Room" "lamps" "I", Cond.fieldLink RX1 84 "Waxrow$Room" "spots" "I", Cond.methodLink RX1 61 yX2_copyFrom, Cond.instanceMethod yX2_copyFrom, Cond.selects RX2 yX2_copyFrom yX2_copyFrom, Cond.initialized RX2, Cond.code yX2_copyFrom cX2_copyFrom 3 none, Cond.fieldLink RX2 15 "Waxrow$Person" "fame" "[I", Cond.fieldLink RX2 19 "Waxrow$Person" "trend" "[I", Cond.fieldLink RX2 22 "Waxrow$Person" "low" "[I"]
def wsX1_copyFrom_r2 : List Cond := [Cond.fieldLink RX2 25 "Waxrow$Person" "high" "[I", Cond.fieldLink RX2 28 "Waxrow$Person" "consents" "Z", Cond.fieldLink RX2 32 "Waxrow$Person" "due" "I", Cond.fieldLink RX2 35 "Waxrow$Person" "clashes" "I", Cond.methodLink RX1 71 yX1_personAt, Cond.instanceMethod yX1_personAt, Cond.selects RX1 yX1_personAt yX1_personAt, Cond.initialized RX1, Cond.code yX1_personAt cX1_personAt 2 (some (.object "Waxrow$Person")), Cond.static yX4_checkIndex, Cond.initialized RX4, Cond.code yX4_checkIndex cX4_checkIndex 2 none, Cond.classLink RX4 279 "java/lang/IndexOutOfBoundsException", Cond.initialized "java/lang/IndexOutOfBoundsException", Cond.methodLink RX1 78 yX0_copyFrom, Cond.instanceMethod yX0_copyFrom, Cond.selects RX0 yX0_copyFrom yX0_copyFrom, Cond.initialized RX0, Cond.code yX0_copyFrom cX0_copyFrom 4 none, Cond.fieldLink RX0 9 "Waxrow$Figure" "head" "LWaxrow$Person;", Cond.fieldLink RX0 15 "Waxrow$Figure" "body" "LWaxrow$Person;", Cond.fieldLink RX0 22 "Waxrow$Figure" "step" "I", Cond.fieldLink RX0 25 "Waxrow$Figure" "workInStep" "I", Cond.fieldLink RX0 28 "Waxrow$Figure" "hands" "I"]
def wsX1_copyFrom_r3 : List Cond := [Cond.fieldLink RX0 31 "Waxrow$Figure" "flaw" "I", Cond.fieldLink RX0 34 "Waxrow$Figure" "wear" "I", Cond.fieldLink RX0 18 "Waxrow$Figure" "place" "I", Cond.fieldLink RX0 37 "Waxrow$Figure" "tourLand" "I", Cond.fieldLink RX0 40 "Waxrow$Figure" "tourDays" "I", Cond.fieldLink RX0 43 "Waxrow$Figure" "touched" "I"]
def wsX1_copyFrom : List Cond := .code yX1_copyFrom cX1_copyFrom 4 none :: ((wsX1_copyFrom_r1 ++ (wsX1_copyFrom_r2 ++ wsX1_copyFrom_r3)) ++ wsX10 ++ wsX00 ++ wsX20 ++ wsX30 ++ (vx_atS RX4 283 "java/lang/IndexOutOfBoundsException" ["java/lang/RuntimeException", "java/lang/Exception"]).filter goodWord)
def wsX1_figureAt : List Cond := .code yX1_figureAt cX1_figureAt 2 (some (.object "Waxrow$Figure")) :: ([.fieldLink RX1 49 "Waxrow$House" "figureCount" "I", .fieldLink RX1 22 "Waxrow$House" "figures" "[LWaxrow$Figure;", .static yX4_checkIndex, .initialized RX4, .code yX4_checkIndex cX4_checkIndex 2 none, .classLink RX4 279 "java/lang/IndexOutOfBoundsException", .initialized "java/lang/IndexOutOfBoundsException"] ++ wsX10 ++ (vx_atS RX4 283 "java/lang/IndexOutOfBoundsException" ["java/lang/RuntimeException", "java/lang/Exception"]).filter goodWord)
def wsX1_roomAt : List Cond := .code yX1_roomAt cX1_roomAt 2 (some (.object "Waxrow$Room")) :: ([.fieldLink RX1 52 "Waxrow$House" "roomCount" "I", .fieldLink RX1 31 "Waxrow$House" "rooms" "[LWaxrow$Room;", .static yX4_checkIndex, .initialized RX4, .code yX4_checkIndex cX4_checkIndex 2 none, .classLink RX4 279 "java/lang/IndexOutOfBoundsException", .initialized "java/lang/IndexOutOfBoundsException"] ++ wsX10 ++ (vx_atS RX4 283 "java/lang/IndexOutOfBoundsException" ["java/lang/RuntimeException", "java/lang/Exception"]).filter goodWord)
def wsX1_addPerson : List Cond := .code yX1_addPerson cX1_addPerson 6 (some .int) :: ([.fieldLink RX1 46 "Waxrow$House" "personCount" "I", .fieldLink RX1 91 "Waxrow$Person" "fame" "[I", .methodLink RX1 71 yX1_personAt, .instanceMethod yX1_personAt, .selects RX1 yX1_personAt yX1_personAt, .initialized RX1, .code yX1_personAt cX1_personAt 2 (some (.object "Waxrow$Person")), .fieldLink RX1 11 "Waxrow$House" "persons" "[LWaxrow$Person;", .static yX4_checkIndex, .initialized RX4, .code yX4_checkIndex cX4_checkIndex 2 none, .classLink RX4 279 "java/lang/IndexOutOfBoundsException", .initialized "java/lang/IndexOutOfBoundsException"] ++ wsX10 ++ wsX20 ++ (vx_atS RX4 283 "java/lang/IndexOutOfBoundsException" ["java/lang/RuntimeException", "java/lang/Exception"]).filter goodWord)
def wsX1_addFigure : List Cond := .code yX1_addFigure cX1_addFigure 4 (some .int) :: ([.fieldLink RX1 49 "Waxrow$House" "figureCount" "I", .fieldLink RX1 64 "Waxrow$Figure" "head" "LWaxrow$Person;", .fieldLink RX1 75 "Waxrow$Figure" "body" "LWaxrow$Person;", .methodLink RX1 95 yX1_figureAt, .instanceMethod yX1_figureAt, .selects RX1 yX1_figureAt yX1_figureAt, .initialized RX1, .code yX1_figureAt cX1_figureAt 2 (some (.object "Waxrow$Figure")), .fieldLink RX1 22 "Waxrow$House" "figures" "[LWaxrow$Figure;", .static yX4_checkIndex, .initialized RX4, .code yX4_checkIndex cX4_checkIndex 2 none, .classLink RX4 279 "java/lang/IndexOutOfBoundsException", .initialized "java/lang/IndexOutOfBoundsException"] ++ wsX10 ++ wsX00 ++ (vx_atS RX4 283 "java/lang/IndexOutOfBoundsException" ["java/lang/RuntimeException", "java/lang/Exception"]).filter goodWord)
def wsX1_addRoom : List Cond := .code yX1_addRoom cX1_addRoom 5 (some .int) :: ([.fieldLink RX1 52 "Waxrow$House" "roomCount" "I", .fieldLink RX1 81 "Waxrow$Room" "lamps" "I", .fieldLink RX1 84 "Waxrow$Room" "spots" "I", .methodLink RX1 99 yX1_roomAt, .instanceMethod yX1_roomAt, .selects RX1 yX1_roomAt yX1_roomAt, .initialized RX1, .code yX1_roomAt cX1_roomAt 2 (some (.object "Waxrow$Room")), .fieldLink RX1 31 "Waxrow$House" "rooms" "[LWaxrow$Room;", .static yX4_checkIndex, .initialized RX4, .code yX4_checkIndex cX4_checkIndex 2 none, .classLink RX4 279 "java/lang/IndexOutOfBoundsException", .initialized "java/lang/IndexOutOfBoundsException"] ++ wsX10 ++ wsX30 ++ (vx_atS RX4 283 "java/lang/IndexOutOfBoundsException" ["java/lang/RuntimeException", "java/lang/Exception"]).filter goodWord)
def wsX1_takeAllOf : List Cond := .code yX1_takeAllOf cX1_takeAllOf 5 (some .int) :: ([.fieldLink RX1 49 "Waxrow$House" "figureCount" "I", .fieldLink RX1 22 "Waxrow$House" "figures" "[LWaxrow$Figure;", .fieldLink RX1 64 "Waxrow$Figure" "head" "LWaxrow$Person;", .fieldLink RX1 107 "Waxrow$Figure" "place" "I", .methodLink RX1 103 yX0_isShown, .instanceMethod yX0_isShown, .selects RX0 yX0_isShown yX0_isShown, .initialized RX0, .code yX0_isShown cX0_isShown 1 (some .boolean), .fieldLink RX0 18 "Waxrow$Figure" "place" "I"] ++ wsX10 ++ wsX00)
def wsX1_shownOf : List Cond := .code yX1_shownOf cX1_shownOf 3 (some .int) :: ([.fieldLink RX1 49 "Waxrow$House" "figureCount" "I", .fieldLink RX1 22 "Waxrow$House" "figures" "[LWaxrow$Figure;", .fieldLink RX1 64 "Waxrow$Figure" "head" "LWaxrow$Person;", .methodLink RX1 103 yX0_isShown, .instanceMethod yX0_isShown, .selects RX0 yX0_isShown yX0_isShown, .initialized RX0, .code yX0_isShown cX0_isShown 1 (some .boolean), .fieldLink RX0 18 "Waxrow$Figure" "place" "I"] ++ wsX10 ++ wsX00)
def wsX1_hasFigureOf : List Cond := .code yX1_hasFigureOf cX1_hasFigureOf 3 (some .boolean) :: ([.fieldLink RX1 49 "Waxrow$House" "figureCount" "I", .fieldLink RX1 22 "Waxrow$House" "figures" "[LWaxrow$Figure;", .fieldLink RX1 64 "Waxrow$Figure" "head" "LWaxrow$Person;", .fieldLink RX1 107 "Waxrow$Figure" "place" "I"] ++ wsX10 ++ wsX00)
def wsX1_cleanFiguresIn : List Cond := .code yX1_cleanFiguresIn cX1_cleanFiguresIn 4 none :: ([.fieldLink RX1 49 "Waxrow$House" "figureCount" "I", .fieldLink RX1 22 "Waxrow$House" "figures" "[LWaxrow$Figure;", .fieldLink RX1 107 "Waxrow$Figure" "place" "I", .fieldLink RX1 110 "Waxrow$Figure" "wear" "I", .methodLink RX1 113 Lib.Math.max.name, .static Lib.Math.max.name, .initialized "java/lang/Math", .code Lib.Math.max.name Lib.Math.max.code 2 (some .int)] ++ wsX10 ++ wsX00)
def wsX1_figuresIn : List Cond := .code yX1_figuresIn cX1_figuresIn 5 (some .int) :: ([.fieldLink RX1 49 "Waxrow$House" "figureCount" "I", .fieldLink RX1 22 "Waxrow$House" "figures" "[LWaxrow$Figure;", .fieldLink RX1 107 "Waxrow$Figure" "place" "I"] ++ wsX10 ++ wsX00)
def wsX1_figuresDone : List Cond := .code yX1_figuresDone cX1_figuresDone 3 (some .int) :: ([.fieldLink RX1 49 "Waxrow$House" "figureCount" "I", .fieldLink RX1 22 "Waxrow$House" "figures" "[LWaxrow$Figure;", .methodLink RX1 119 yX0_isDone, .instanceMethod yX0_isDone, .selects RX0 yX0_isDone yX0_isDone, .initialized RX0, .code yX0_isDone cX0_isDone 1 (some .boolean), .fieldLink RX0 22 "Waxrow$Figure" "step" "I", .fieldLink RX0 18 "Waxrow$Figure" "place" "I"] ++ wsX10 ++ wsX00)
def wsX1_drawsIn_r1 : List Cond := [Cond.fieldLink RX1 49 "Waxrow$House" "figureCount" "I", Cond.fieldLink RX1 22 "Waxrow$House" "figures" "[LWaxrow$Figure;", Cond.fieldLink RX1 107 "Waxrow$Figure" "place" "I", Cond.methodLink RX1 122 yX0_draw, Cond.instanceMethod yX0_draw, Cond.selects RX0 yX0_draw yX0_draw, Cond.initialized RX0, Cond.code yX0_draw cX0_draw 1 (some .int), Cond.fieldLink RX0 9 "Waxrow$Figure" "head" "LWaxrow$Person;", Cond.fieldLink RX0 66 "Waxrow$Person" "fame" "[I", Cond.methodLink RX0 63 yX0_isShown, Cond.instanceMethod yX0_isShown, Cond.selects RX0 yX0_isShown yX0_isShown, Cond.code yX0_isShown cX0_isShown 1 (some .boolean), Cond.fieldLink RX0 18 "Waxrow$Figure" "place" "I", Cond.methodLink RX0 69 yX0_likeness, Cond.instanceMethod yX0_likeness, Cond.selects RX0 yX0_likeness yX0_likeness, Cond.code yX0_likeness cX0_likeness 3 (some .int), Cond.fieldLink RX0 31 "Waxrow$Figure" "flaw" "I", Cond.fieldLink RX0 34 "Waxrow$Figure" "wear" "I", Cond.fieldLink RX0 15 "Waxrow$Figure" "body" "LWaxrow$Person;", Cond.methodLink RX0 56 yX0_isDone, Cond.instanceMethod yX0_isDone]
def wsX1_drawsIn_r2 : List Cond := [Cond.selects RX0 yX0_isDone yX0_isDone, Cond.code yX0_isDone cX0_isDone 1 (some .boolean), Cond.fieldLink RX0 22 "Waxrow$Figure" "step" "I", Cond.methodLink RX0 60 yX2_doubleHeight, Cond.instanceMethod yX2_doubleHeight, Cond.selects RX2 yX2_doubleHeight yX2_doubleHeight, Cond.initialized RX2, Cond.code yX2_doubleHeight cX2_doubleHeight 1 (some .int), Cond.fieldLink RX2 22 "Waxrow$Person" "low" "[I", Cond.fieldLink RX2 25 "Waxrow$Person" "high" "[I"]
def wsX1_drawsIn : List Cond := .code yX1_drawsIn cX1_drawsIn 5 (some .int) :: ((wsX1_drawsIn_r1 ++ wsX1_drawsIn_r2) ++ wsX10 ++ wsX00 ++ wsX20)
def wsX1_likenessShown_r1 : List Cond := [Cond.fieldLink RX1 49 "Waxrow$House" "figureCount" "I", Cond.fieldLink RX1 22 "Waxrow$House" "figures" "[LWaxrow$Figure;", Cond.methodLink RX1 103 yX0_isShown, Cond.instanceMethod yX0_isShown, Cond.selects RX0 yX0_isShown yX0_isShown, Cond.initialized RX0, Cond.code yX0_isShown cX0_isShown 1 (some .boolean), Cond.fieldLink RX0 18 "Waxrow$Figure" "place" "I", Cond.methodLink RX1 126 yX0_likeness, Cond.instanceMethod yX0_likeness, Cond.selects RX0 yX0_likeness yX0_likeness, Cond.code yX0_likeness cX0_likeness 3 (some .int), Cond.fieldLink RX0 31 "Waxrow$Figure" "flaw" "I", Cond.fieldLink RX0 34 "Waxrow$Figure" "wear" "I", Cond.fieldLink RX0 9 "Waxrow$Figure" "head" "LWaxrow$Person;", Cond.fieldLink RX0 15 "Waxrow$Figure" "body" "LWaxrow$Person;", Cond.methodLink RX0 56 yX0_isDone, Cond.instanceMethod yX0_isDone, Cond.selects RX0 yX0_isDone yX0_isDone, Cond.code yX0_isDone cX0_isDone 1 (some .boolean), Cond.fieldLink RX0 22 "Waxrow$Figure" "step" "I", Cond.methodLink RX0 60 yX2_doubleHeight, Cond.instanceMethod yX2_doubleHeight, Cond.selects RX2 yX2_doubleHeight yX2_doubleHeight]
def wsX1_likenessShown_r2 : List Cond := [Cond.initialized RX2, Cond.code yX2_doubleHeight cX2_doubleHeight 1 (some .int), Cond.fieldLink RX2 22 "Waxrow$Person" "low" "[I", Cond.fieldLink RX2 25 "Waxrow$Person" "high" "[I"]
def wsX1_likenessShown : List Cond := .code yX1_likenessShown cX1_likenessShown 3 (some .int) :: ((wsX1_likenessShown_r1 ++ wsX1_likenessShown_r2) ++ wsX10 ++ wsX00 ++ wsX20)
def wsX1_allDue : List Cond := .code yX1_allDue cX1_allDue 3 (some .int) :: ([.fieldLink RX1 46 "Waxrow$House" "personCount" "I", .fieldLink RX1 11 "Waxrow$House" "persons" "[LWaxrow$Person;", .fieldLink RX1 129 "Waxrow$Person" "due" "I"] ++ wsX10 ++ wsX20)
def wsX1_allHands : List Cond := .code yX1_allHands cX1_allHands 3 (some .int) :: ([.fieldLink RX1 49 "Waxrow$House" "figureCount" "I", .fieldLink RX1 22 "Waxrow$House" "figures" "[LWaxrow$Figure;", .fieldLink RX1 132 "Waxrow$Figure" "hands" "I"] ++ wsX10 ++ wsX00)
def wsX2_heldFame : List Cond := .code yX2_heldFame cX2_heldFame 1 (some .int) :: ([])
def wsX2_nearerToZero : List Cond := .code yX2_nearerToZero cX2_nearerToZero 1 (some .int) :: ([])
def wsX2_beginMonth : List Cond := .code yX2_beginMonth cX2_beginMonth 2 none :: ([.fieldLink RX2 15 "Waxrow$Person" "fame" "[I", .fieldLink RX2 19 "Waxrow$Person" "trend" "[I", .methodLink RX2 38 yX2_heldFame, .static yX2_heldFame, .initialized RX2, .code yX2_heldFame cX2_heldFame 1 (some .int), .methodLink RX2 42 yX2_nearerToZero, .static yX2_nearerToZero, .code yX2_nearerToZero cX2_nearerToZero 1 (some .int)] ++ wsX20)
def wsX1_beginMonthOfAll : List Cond := .code yX1_beginMonthOfAll cX1_beginMonthOfAll 2 none :: ([.fieldLink RX1 46 "Waxrow$House" "personCount" "I", .fieldLink RX1 11 "Waxrow$House" "persons" "[LWaxrow$Person;", .methodLink RX1 151 yX2_beginMonth, .instanceMethod yX2_beginMonth, .selects RX2 yX2_beginMonth yX2_beginMonth, .initialized RX2, .code yX2_beginMonth cX2_beginMonth 2 none, .fieldLink RX2 15 "Waxrow$Person" "fame" "[I", .fieldLink RX2 19 "Waxrow$Person" "trend" "[I", .methodLink RX2 38 yX2_heldFame, .static yX2_heldFame, .code yX2_heldFame cX2_heldFame 1 (some .int), .methodLink RX2 42 yX2_nearerToZero, .static yX2_nearerToZero, .code yX2_nearerToZero cX2_nearerToZero 1 (some .int)] ++ wsX10 ++ wsX20)
def wsX1_workOnAll : List Cond := .code yX1_workOnAll cX1_workOnAll 3 (some .int) :: ([.fieldLink RX1 49 "Waxrow$House" "figureCount" "I", .fieldLink RX1 22 "Waxrow$House" "figures" "[LWaxrow$Figure;", .methodLink RX1 154 yX0_workDay, .instanceMethod yX0_workDay, .selects RX0 yX0_workDay yX0_workDay, .initialized RX0, .code yX0_workDay cX0_workDay 1 (some .boolean), .fieldLink RX0 22 "Waxrow$Figure" "step" "I", .fieldLink RX0 18 "Waxrow$Figure" "place" "I", .fieldLink RX0 25 "Waxrow$Figure" "workInStep" "I", .fieldLink RX0 28 "Waxrow$Figure" "hands" "I", .fieldLink RX0 9 "Waxrow$Figure" "head" "LWaxrow$Person;", .fieldLink RX0 31 "Waxrow$Figure" "flaw" "I", .methodLink RX0 50 yX2_doubt, .instanceMethod yX2_doubt, .selects RX2 yX2_doubt yX2_doubt, .initialized RX2, .code yX2_doubt cX2_doubt 3 (some .int), .fieldLink RX2 25 "Waxrow$Person" "high" "[I", .fieldLink RX2 22 "Waxrow$Person" "low" "[I"] ++ wsX10 ++ wsX00 ++ wsX20)
def wsX1_wearAllShown_r1 : List Cond := [Cond.fieldLink RX1 49 "Waxrow$House" "figureCount" "I", Cond.fieldLink RX1 22 "Waxrow$House" "figures" "[LWaxrow$Figure;", Cond.fieldLink RX1 107 "Waxrow$Figure" "place" "I", Cond.fieldLink RX1 81 "Waxrow$Room" "lamps" "I", Cond.methodLink RX1 103 yX0_isShown, Cond.instanceMethod yX0_isShown, Cond.selects RX0 yX0_isShown yX0_isShown, Cond.initialized RX0, Cond.code yX0_isShown cX0_isShown 1 (some .boolean), Cond.fieldLink RX0 18 "Waxrow$Figure" "place" "I", Cond.methodLink RX1 122 yX0_draw, Cond.instanceMethod yX0_draw, Cond.selects RX0 yX0_draw yX0_draw, Cond.code yX0_draw cX0_draw 1 (some .int), Cond.fieldLink RX0 9 "Waxrow$Figure" "head" "LWaxrow$Person;", Cond.fieldLink RX0 66 "Waxrow$Person" "fame" "[I", Cond.methodLink RX0 63 yX0_isShown, Cond.methodLink RX0 69 yX0_likeness, Cond.instanceMethod yX0_likeness, Cond.selects RX0 yX0_likeness yX0_likeness, Cond.code yX0_likeness cX0_likeness 3 (some .int), Cond.fieldLink RX0 31 "Waxrow$Figure" "flaw" "I", Cond.fieldLink RX0 34 "Waxrow$Figure" "wear" "I", Cond.fieldLink RX0 15 "Waxrow$Figure" "body" "LWaxrow$Person;"]
def wsX1_wearAllShown_r2 : List Cond := [Cond.methodLink RX0 56 yX0_isDone, Cond.instanceMethod yX0_isDone, Cond.selects RX0 yX0_isDone yX0_isDone, Cond.code yX0_isDone cX0_isDone 1 (some .boolean), Cond.fieldLink RX0 22 "Waxrow$Figure" "step" "I", Cond.methodLink RX0 60 yX2_doubleHeight, Cond.instanceMethod yX2_doubleHeight, Cond.selects RX2 yX2_doubleHeight yX2_doubleHeight, Cond.initialized RX2, Cond.code yX2_doubleHeight cX2_doubleHeight 1 (some .int), Cond.fieldLink RX2 22 "Waxrow$Person" "low" "[I", Cond.fieldLink RX2 25 "Waxrow$Person" "high" "[I", Cond.methodLink RX1 99 yX1_roomAt, Cond.instanceMethod yX1_roomAt, Cond.selects RX1 yX1_roomAt yX1_roomAt, Cond.initialized RX1, Cond.code yX1_roomAt cX1_roomAt 2 (some (.object "Waxrow$Room")), Cond.fieldLink RX1 52 "Waxrow$House" "roomCount" "I", Cond.fieldLink RX1 31 "Waxrow$House" "rooms" "[LWaxrow$Room;", Cond.static yX4_checkIndex, Cond.initialized RX4, Cond.code yX4_checkIndex cX4_checkIndex 2 none, Cond.classLink RX4 279 "java/lang/IndexOutOfBoundsException", Cond.initialized "java/lang/IndexOutOfBoundsException"]
def wsX1_wearAllShown_r3 : List Cond := [Cond.methodLink RX1 157 yX0_wearDay, Cond.instanceMethod yX0_wearDay, Cond.selects RX0 yX0_wearDay yX0_wearDay, Cond.code yX0_wearDay cX0_wearDay 5 (some .boolean), Cond.fieldLink RX0 43 "Waxrow$Figure" "touched" "I", Cond.fieldLink RX0 72 "Waxrow$Person" "due" "I", Cond.methodLink RX0 75 Lib.Math.min.name, Cond.static Lib.Math.min.name, Cond.initialized "java/lang/Math", Cond.code Lib.Math.min.name Lib.Math.min.code 2 (some .int), Cond.methodLink RX0 81 yX0_becomeMelted, Cond.instanceMethod yX0_becomeMelted, Cond.selects RX0 yX0_becomeMelted yX0_becomeMelted, Cond.code yX0_becomeMelted cX0_becomeMelted 1 none, Cond.fieldLink RX0 28 "Waxrow$Figure" "hands" "I"]
def wsX1_wearAllShown : List Cond := .code yX1_wearAllShown cX1_wearAllShown 8 (some .int) :: ((wsX1_wearAllShown_r1 ++ (wsX1_wearAllShown_r2 ++ wsX1_wearAllShown_r3)) ++ wsX10 ++ wsX00 ++ wsX30 ++ wsX20 ++ (vx_atS RX4 283 "java/lang/IndexOutOfBoundsException" ["java/lang/RuntimeException", "java/lang/Exception"]).filter goodWord)
def wsX1_tourWithAll_r1 : List Cond := [Cond.fieldLink RX1 49 "Waxrow$House" "figureCount" "I", Cond.fieldLink RX1 22 "Waxrow$House" "figures" "[LWaxrow$Figure;", Cond.fieldLink RX1 107 "Waxrow$Figure" "place" "I", Cond.fieldLink RX1 36 "Waxrow$House" "money" "I", Cond.methodLink RX1 161 yX0_tourDay, Cond.instanceMethod yX0_tourDay, Cond.selects RX0 yX0_tourDay yX0_tourDay, Cond.initialized RX0, Cond.code yX0_tourDay cX0_tourDay 2 (some .int), Cond.fieldLink RX0 37 "Waxrow$Figure" "tourLand" "I", Cond.fieldLink RX0 9 "Waxrow$Figure" "head" "LWaxrow$Person;", Cond.fieldLink RX0 66 "Waxrow$Person" "fame" "[I", Cond.fieldLink RX0 34 "Waxrow$Figure" "wear" "I", Cond.methodLink RX0 75 Lib.Math.min.name, Cond.static Lib.Math.min.name, Cond.initialized "java/lang/Math", Cond.code Lib.Math.min.name Lib.Math.min.code 2 (some .int), Cond.fieldLink RX0 40 "Waxrow$Figure" "tourDays" "I", Cond.fieldLink RX0 18 "Waxrow$Figure" "place" "I", Cond.methodLink RX0 69 yX0_likeness, Cond.instanceMethod yX0_likeness, Cond.selects RX0 yX0_likeness yX0_likeness, Cond.code yX0_likeness cX0_likeness 3 (some .int), Cond.fieldLink RX0 31 "Waxrow$Figure" "flaw" "I"]
def wsX1_tourWithAll_r2 : List Cond := [Cond.fieldLink RX0 15 "Waxrow$Figure" "body" "LWaxrow$Person;", Cond.methodLink RX0 56 yX0_isDone, Cond.instanceMethod yX0_isDone, Cond.selects RX0 yX0_isDone yX0_isDone, Cond.code yX0_isDone cX0_isDone 1 (some .boolean), Cond.fieldLink RX0 22 "Waxrow$Figure" "step" "I", Cond.methodLink RX0 60 yX2_doubleHeight, Cond.instanceMethod yX2_doubleHeight, Cond.selects RX2 yX2_doubleHeight yX2_doubleHeight, Cond.initialized RX2, Cond.code yX2_doubleHeight cX2_doubleHeight 1 (some .int), Cond.fieldLink RX2 22 "Waxrow$Person" "low" "[I", Cond.fieldLink RX2 25 "Waxrow$Person" "high" "[I"]
def wsX1_tourWithAll : List Cond := .code yX1_tourWithAll cX1_tourWithAll 2 none :: ((wsX1_tourWithAll_r1 ++ wsX1_tourWithAll_r2) ++ wsX10 ++ wsX00 ++ wsX20)
def wsX1_passDay_r1 : List Cond := [Cond.fieldLink RX1 55 "Waxrow$House" "day" "I", Cond.fieldLink RX1 43 "Waxrow$House" "price" "I", Cond.fieldLink RX1 58 "Waxrow$House" "came" "I", Cond.fieldLink RX1 36 "Waxrow$House" "money" "I", Cond.methodLink RX1 135 yX1_beginMonthOfAll, Cond.instanceMethod yX1_beginMonthOfAll, Cond.selects RX1 yX1_beginMonthOfAll yX1_beginMonthOfAll, Cond.initialized RX1, Cond.code yX1_beginMonthOfAll cX1_beginMonthOfAll 2 none, Cond.fieldLink RX1 46 "Waxrow$House" "personCount" "I", Cond.fieldLink RX1 11 "Waxrow$House" "persons" "[LWaxrow$Person;", Cond.methodLink RX1 151 yX2_beginMonth, Cond.instanceMethod yX2_beginMonth, Cond.selects RX2 yX2_beginMonth yX2_beginMonth, Cond.initialized RX2, Cond.code yX2_beginMonth cX2_beginMonth 2 none, Cond.fieldLink RX2 15 "Waxrow$Person" "fame" "[I", Cond.fieldLink RX2 19 "Waxrow$Person" "trend" "[I", Cond.methodLink RX2 38 yX2_heldFame, Cond.static yX2_heldFame, Cond.code yX2_heldFame cX2_heldFame 1 (some .int), Cond.methodLink RX2 42 yX2_nearerToZero, Cond.static yX2_nearerToZero, Cond.code yX2_nearerToZero cX2_nearerToZero 1 (some .int)]
def wsX1_passDay_r2 : List Cond := [Cond.methodLink RX1 138 yX1_workOnAll, Cond.instanceMethod yX1_workOnAll, Cond.selects RX1 yX1_workOnAll yX1_workOnAll, Cond.code yX1_workOnAll cX1_workOnAll 3 (some .int), Cond.fieldLink RX1 49 "Waxrow$House" "figureCount" "I", Cond.fieldLink RX1 22 "Waxrow$House" "figures" "[LWaxrow$Figure;", Cond.methodLink RX1 154 yX0_workDay, Cond.instanceMethod yX0_workDay, Cond.selects RX0 yX0_workDay yX0_workDay, Cond.initialized RX0, Cond.code yX0_workDay cX0_workDay 1 (some .boolean), Cond.fieldLink RX0 22 "Waxrow$Figure" "step" "I", Cond.fieldLink RX0 18 "Waxrow$Figure" "place" "I", Cond.fieldLink RX0 25 "Waxrow$Figure" "workInStep" "I", Cond.fieldLink RX0 28 "Waxrow$Figure" "hands" "I", Cond.fieldLink RX0 9 "Waxrow$Figure" "head" "LWaxrow$Person;", Cond.fieldLink RX0 31 "Waxrow$Figure" "flaw" "I", Cond.methodLink RX0 50 yX2_doubt, Cond.instanceMethod yX2_doubt, Cond.selects RX2 yX2_doubt yX2_doubt, Cond.code yX2_doubt cX2_doubt 3 (some .int), Cond.fieldLink RX2 25 "Waxrow$Person" "high" "[I", Cond.fieldLink RX2 22 "Waxrow$Person" "low" "[I", Cond.methodLink RX1 141 yX1_drawsIn]
def wsX1_passDay_r3 : List Cond := [Cond.instanceMethod yX1_drawsIn, Cond.selects RX1 yX1_drawsIn yX1_drawsIn, Cond.code yX1_drawsIn cX1_drawsIn 5 (some .int), Cond.fieldLink RX1 107 "Waxrow$Figure" "place" "I", Cond.methodLink RX1 122 yX0_draw, Cond.instanceMethod yX0_draw, Cond.selects RX0 yX0_draw yX0_draw, Cond.code yX0_draw cX0_draw 1 (some .int), Cond.fieldLink RX0 66 "Waxrow$Person" "fame" "[I", Cond.methodLink RX0 63 yX0_isShown, Cond.instanceMethod yX0_isShown, Cond.selects RX0 yX0_isShown yX0_isShown, Cond.code yX0_isShown cX0_isShown 1 (some .boolean), Cond.methodLink RX0 69 yX0_likeness, Cond.instanceMethod yX0_likeness, Cond.selects RX0 yX0_likeness yX0_likeness, Cond.code yX0_likeness cX0_likeness 3 (some .int), Cond.fieldLink RX0 34 "Waxrow$Figure" "wear" "I", Cond.fieldLink RX0 15 "Waxrow$Figure" "body" "LWaxrow$Person;", Cond.methodLink RX0 56 yX0_isDone, Cond.instanceMethod yX0_isDone, Cond.selects RX0 yX0_isDone yX0_isDone, Cond.code yX0_isDone cX0_isDone 1 (some .boolean), Cond.methodLink RX0 60 yX2_doubleHeight]
def wsX1_passDay_r4 : List Cond := [Cond.instanceMethod yX2_doubleHeight, Cond.selects RX2 yX2_doubleHeight yX2_doubleHeight, Cond.code yX2_doubleHeight cX2_doubleHeight 1 (some .int), Cond.methodLink RX1 144 yX1_wearAllShown, Cond.instanceMethod yX1_wearAllShown, Cond.selects RX1 yX1_wearAllShown yX1_wearAllShown, Cond.code yX1_wearAllShown cX1_wearAllShown 8 (some .int), Cond.fieldLink RX1 81 "Waxrow$Room" "lamps" "I", Cond.methodLink RX1 103 yX0_isShown, Cond.methodLink RX1 99 yX1_roomAt, Cond.instanceMethod yX1_roomAt, Cond.selects RX1 yX1_roomAt yX1_roomAt, Cond.code yX1_roomAt cX1_roomAt 2 (some (.object "Waxrow$Room")), Cond.fieldLink RX1 52 "Waxrow$House" "roomCount" "I", Cond.fieldLink RX1 31 "Waxrow$House" "rooms" "[LWaxrow$Room;", Cond.static yX4_checkIndex, Cond.initialized RX4, Cond.code yX4_checkIndex cX4_checkIndex 2 none, Cond.classLink RX4 279 "java/lang/IndexOutOfBoundsException", Cond.initialized "java/lang/IndexOutOfBoundsException", Cond.methodLink RX1 157 yX0_wearDay, Cond.instanceMethod yX0_wearDay, Cond.selects RX0 yX0_wearDay yX0_wearDay, Cond.code yX0_wearDay cX0_wearDay 5 (some .boolean)]
def wsX1_passDay_r5 : List Cond := [Cond.fieldLink RX0 43 "Waxrow$Figure" "touched" "I", Cond.fieldLink RX0 72 "Waxrow$Person" "due" "I", Cond.methodLink RX0 75 Lib.Math.min.name, Cond.static Lib.Math.min.name, Cond.initialized "java/lang/Math", Cond.code Lib.Math.min.name Lib.Math.min.code 2 (some .int), Cond.methodLink RX0 81 yX0_becomeMelted, Cond.instanceMethod yX0_becomeMelted, Cond.selects RX0 yX0_becomeMelted yX0_becomeMelted, Cond.code yX0_becomeMelted cX0_becomeMelted 1 none, Cond.methodLink RX1 148 yX1_tourWithAll, Cond.instanceMethod yX1_tourWithAll, Cond.selects RX1 yX1_tourWithAll yX1_tourWithAll, Cond.code yX1_tourWithAll cX1_tourWithAll 2 none, Cond.methodLink RX1 161 yX0_tourDay, Cond.instanceMethod yX0_tourDay, Cond.selects RX0 yX0_tourDay yX0_tourDay, Cond.code yX0_tourDay cX0_tourDay 2 (some .int), Cond.fieldLink RX0 37 "Waxrow$Figure" "tourLand" "I", Cond.fieldLink RX0 40 "Waxrow$Figure" "tourDays" "I"]
def wsX1_passDay : List Cond := .code yX1_passDay cX1_passDay 7 (some .int) :: ((wsX1_passDay_r1 ++ (wsX1_passDay_r2 ++ (wsX1_passDay_r3 ++ (wsX1_passDay_r4 ++ wsX1_passDay_r5)))) ++ wsX10 ++ wsX20 ++ wsX00 ++ wsX30 ++ (vx_atS RX4 283 "java/lang/IndexOutOfBoundsException" ["java/lang/RuntimeException", "java/lang/Exception"]).filter goodWord)
def wsX2_changeFame : List Cond := .code yX2_changeFame cX2_changeFame 3 none :: ([.fieldLink RX2 15 "Waxrow$Person" "fame" "[I", .methodLink RX2 38 yX2_heldFame, .static yX2_heldFame, .initialized RX2, .code yX2_heldFame cX2_heldFame 1 (some .int)] ++ wsX20)
def wsX2_fameBehind : List Cond := .code yX2_fameBehind cX2_fameBehind 6 (some .int) :: ([.fieldLink RX2 15 "Waxrow$Person" "fame" "[I", .fieldLink RX2 19 "Waxrow$Person" "trend" "[I", .methodLink RX2 38 yX2_heldFame, .static yX2_heldFame, .initialized RX2, .code yX2_heldFame cX2_heldFame 1 (some .int), .methodLink RX2 42 yX2_nearerToZero, .static yX2_nearerToZero, .code yX2_nearerToZero cX2_nearerToZero 1 (some .int)] ++ wsX20)
def wsX2_learn : List Cond := .code yX2_learn cX2_learn 7 none :: ([.fieldLink RX2 22 "Waxrow$Person" "low" "[I", .methodLink RX2 45 Lib.Math.max.name, .static Lib.Math.max.name, .initialized "java/lang/Math", .code Lib.Math.max.name Lib.Math.max.code 2 (some .int), .fieldLink RX2 25 "Waxrow$Person" "high" "[I", .methodLink RX2 51 Lib.Math.min.name, .static Lib.Math.min.name, .code Lib.Math.min.name Lib.Math.min.code 2 (some .int), .fieldLink RX2 35 "Waxrow$Person" "clashes" "I"] ++ wsX20)
def wsX4_init_r1 : List Cond := [Cond.methodLink RX4 1 objectInit, Cond.instanceMethod objectInit, Cond.code objectInit ⟨#[0xb1]⟩ 1 none, Cond.classLink RX4 7 RX1, Cond.instantiable RX1 11, Cond.initialized RX1, Cond.fieldLink RX4 10 "Waxrow" "house" "LWaxrow$House;", Cond.fieldLink RX4 16 "Waxrow" "trial" "LWaxrow$House;", Cond.methodLink RX4 9 yX1_init, Cond.instanceMethod yX1_init, Cond.code yX1_init cX1_init 2 none, Cond.methodLink RX1 3 objectInit, Cond.classLink RX1 9 RX2, Cond.fieldLink RX1 11 "Waxrow$House" "persons" "[LWaxrow$Person;", Cond.instantiable RX2 8, Cond.initialized RX2, Cond.classLink RX1 20 RX0, Cond.fieldLink RX1 22 "Waxrow$House" "figures" "[LWaxrow$Figure;", Cond.instantiable RX0 11, Cond.initialized RX0, Cond.classLink RX1 29 RX3, Cond.fieldLink RX1 31 "Waxrow$House" "rooms" "[LWaxrow$Room;", Cond.instantiable RX3 2, Cond.initialized RX3]
def wsX4_init_r2 : List Cond := [Cond.fieldLink RX1 36 "Waxrow$House" "money" "I", Cond.fieldLink RX1 40 "Waxrow$House" "wax" "I", Cond.fieldLink RX1 43 "Waxrow$House" "price" "I", Cond.methodLink RX1 17 yX2_init, Cond.instanceMethod yX2_init, Cond.code yX2_init cX2_init 3 none, Cond.methodLink RX2 3 objectInit, Cond.fieldLink RX2 9 "Waxrow$Person" "number" "I", Cond.arrayClass .int, Cond.fieldLink RX2 15 "Waxrow$Person" "fame" "[I", Cond.fieldLink RX2 19 "Waxrow$Person" "trend" "[I", Cond.fieldLink RX2 22 "Waxrow$Person" "low" "[I", Cond.fieldLink RX2 25 "Waxrow$Person" "high" "[I", Cond.methodLink RX1 26 yX0_init, Cond.instanceMethod yX0_init, Cond.code yX0_init cX0_init 2 none, Cond.methodLink RX0 3 objectInit, Cond.fieldLink RX0 9 "Waxrow$Figure" "head" "LWaxrow$Person;", Cond.fieldLink RX0 15 "Waxrow$Figure" "body" "LWaxrow$Person;", Cond.fieldLink RX0 18 "Waxrow$Figure" "place" "I", Cond.instanceMethod yX3_init, Cond.code yX3_init cX3_init 1 none, Cond.methodLink RX3 1 objectInit]
def wsX4_init : List Cond := .code yX4_init cX4_init 1 none :: ((wsX4_init_r1 ++ wsX4_init_r2) ++ wsX10 ++ wsX40 ++ wsX20 ++ wsX00 ++ wsX30)
def wsX4_checkArgument : List Cond := .code yX4_checkArgument cX4_checkArgument 3 none :: ([.classLink RX4 113 "java/lang/IllegalArgumentException", .initialized "java/lang/IllegalArgumentException"] ++ (vx_atS RX4 117 "java/lang/IllegalArgumentException" ["java/lang/RuntimeException", "java/lang/Exception"]).filter goodWord)
def wsX4_checkState : List Cond := .code yX4_checkState cX4_checkState 1 none :: ([.classLink RX4 286 "java/lang/IllegalStateException", .initialized "java/lang/IllegalStateException"] ++ (vx_atS RX4 290 "java/lang/IllegalStateException" ["java/lang/RuntimeException", "java/lang/Exception"]).filter goodWord)
def wsX4_person_r1 : List Cond := [Cond.fieldLink RX4 10 "Waxrow" "house" "LWaxrow$House;", Cond.fieldLink RX4 23 "Waxrow$House" "personCount" "I", Cond.methodLink RX4 19 yX4_checkArgument, Cond.static yX4_checkArgument, Cond.initialized RX4, Cond.code yX4_checkArgument cX4_checkArgument 3 none, Cond.classLink RX4 113 "java/lang/IllegalArgumentException", Cond.initialized "java/lang/IllegalArgumentException", Cond.methodLink RX4 27 yX4_checkState, Cond.static yX4_checkState, Cond.code yX4_checkState cX4_checkState 1 none, Cond.classLink RX4 286 "java/lang/IllegalStateException", Cond.initialized "java/lang/IllegalStateException", Cond.methodLink RX4 31 yX1_addPerson, Cond.instanceMethod yX1_addPerson, Cond.selects RX1 yX1_addPerson yX1_addPerson, Cond.initialized RX1, Cond.code yX1_addPerson cX1_addPerson 6 (some .int), Cond.fieldLink RX1 46 "Waxrow$House" "personCount" "I", Cond.fieldLink RX1 91 "Waxrow$Person" "fame" "[I", Cond.methodLink RX1 71 yX1_personAt, Cond.instanceMethod yX1_personAt, Cond.selects RX1 yX1_personAt yX1_personAt, Cond.code yX1_personAt cX1_personAt 2 (some (.object "Waxrow$Person"))]
def wsX4_person_r2 : List Cond := [Cond.fieldLink RX1 11 "Waxrow$House" "persons" "[LWaxrow$Person;", Cond.static yX4_checkIndex, Cond.code yX4_checkIndex cX4_checkIndex 2 none, Cond.classLink RX4 279 "java/lang/IndexOutOfBoundsException", Cond.initialized "java/lang/IndexOutOfBoundsException"]
def wsX4_person : List Cond := .code yX4_person cX4_person 4 (some .int) :: ((wsX4_person_r1 ++ wsX4_person_r2) ++ wsX40 ++ wsX10 ++ wsX20 ++ (vx_atS RX4 117 "java/lang/IllegalArgumentException" ["java/lang/RuntimeException", "java/lang/Exception"]).filter goodWord ++ (vx_atS RX4 290 "java/lang/IllegalStateException" ["java/lang/RuntimeException", "java/lang/Exception"]).filter goodWord ++ (vx_atS RX4 283 "java/lang/IndexOutOfBoundsException" ["java/lang/RuntimeException", "java/lang/Exception"]).filter goodWord)
def wsX4_trend : List Cond := .code yX4_trend cX4_trend 6 (some .int) :: ([.fieldLink RX4 10 "Waxrow" "house" "LWaxrow$House;", .fieldLink RX4 43 "Waxrow$Person" "trend" "[I", .methodLink RX4 35 yX1_personAt, .instanceMethod yX1_personAt, .selects RX1 yX1_personAt yX1_personAt, .initialized RX1, .code yX1_personAt cX1_personAt 2 (some (.object "Waxrow$Person")), .fieldLink RX1 46 "Waxrow$House" "personCount" "I", .fieldLink RX1 11 "Waxrow$House" "persons" "[LWaxrow$Person;", .static yX4_checkIndex, .initialized RX4, .code yX4_checkIndex cX4_checkIndex 2 none, .classLink RX4 279 "java/lang/IndexOutOfBoundsException", .initialized "java/lang/IndexOutOfBoundsException", .methodLink RX4 39 yX4_checkIndex, .methodLink RX4 19 yX4_checkArgument, .static yX4_checkArgument, .code yX4_checkArgument cX4_checkArgument 3 none, .classLink RX4 113 "java/lang/IllegalArgumentException", .initialized "java/lang/IllegalArgumentException"] ++ wsX40 ++ wsX20 ++ wsX10 ++ (vx_atS RX4 283 "java/lang/IndexOutOfBoundsException" ["java/lang/RuntimeException", "java/lang/Exception"]).filter goodWord ++ (vx_atS RX4 117 "java/lang/IllegalArgumentException" ["java/lang/RuntimeException", "java/lang/Exception"]).filter goodWord)
def wsX4_news_r1 : List Cond := [Cond.fieldLink RX4 10 "Waxrow" "house" "LWaxrow$House;", Cond.fieldLink RX4 53 "Waxrow$Person" "fame" "[I", Cond.methodLink RX4 35 yX1_personAt, Cond.instanceMethod yX1_personAt, Cond.selects RX1 yX1_personAt yX1_personAt, Cond.initialized RX1, Cond.code yX1_personAt cX1_personAt 2 (some (.object "Waxrow$Person")), Cond.fieldLink RX1 46 "Waxrow$House" "personCount" "I", Cond.fieldLink RX1 11 "Waxrow$House" "persons" "[LWaxrow$Person;", Cond.static yX4_checkIndex, Cond.initialized RX4, Cond.code yX4_checkIndex cX4_checkIndex 2 none, Cond.classLink RX4 279 "java/lang/IndexOutOfBoundsException", Cond.initialized "java/lang/IndexOutOfBoundsException", Cond.methodLink RX4 19 yX4_checkArgument, Cond.static yX4_checkArgument, Cond.code yX4_checkArgument cX4_checkArgument 3 none, Cond.classLink RX4 113 "java/lang/IllegalArgumentException", Cond.initialized "java/lang/IllegalArgumentException", Cond.methodLink RX4 49 yX2_changeFame, Cond.instanceMethod yX2_changeFame, Cond.selects RX2 yX2_changeFame yX2_changeFame, Cond.initialized RX2, Cond.code yX2_changeFame cX2_changeFame 3 none]
def wsX4_news_r2 : List Cond := [Cond.fieldLink RX2 15 "Waxrow$Person" "fame" "[I", Cond.methodLink RX2 38 yX2_heldFame, Cond.static yX2_heldFame, Cond.code yX2_heldFame cX2_heldFame 1 (some .int)]
def wsX4_news : List Cond := .code yX4_news cX4_news 4 (some .int) :: ((wsX4_news_r1 ++ wsX4_news_r2) ++ wsX40 ++ wsX20 ++ wsX10 ++ (vx_atS RX4 283 "java/lang/IndexOutOfBoundsException" ["java/lang/RuntimeException", "java/lang/Exception"]).filter goodWord ++ (vx_atS RX4 117 "java/lang/IllegalArgumentException" ["java/lang/RuntimeException", "java/lang/Exception"]).filter goodWord)
def wsX4_consent_r1 : List Cond := [Cond.fieldLink RX4 10 "Waxrow" "house" "LWaxrow$House;", Cond.fieldLink RX4 56 "Waxrow$Person" "consents" "Z", Cond.methodLink RX4 35 yX1_personAt, Cond.instanceMethod yX1_personAt, Cond.selects RX1 yX1_personAt yX1_personAt, Cond.initialized RX1, Cond.code yX1_personAt cX1_personAt 2 (some (.object "Waxrow$Person")), Cond.fieldLink RX1 46 "Waxrow$House" "personCount" "I", Cond.fieldLink RX1 11 "Waxrow$House" "persons" "[LWaxrow$Person;", Cond.static yX4_checkIndex, Cond.initialized RX4, Cond.code yX4_checkIndex cX4_checkIndex 2 none, Cond.classLink RX4 279 "java/lang/IndexOutOfBoundsException", Cond.initialized "java/lang/IndexOutOfBoundsException", Cond.methodLink RX4 60 yX1_takeAllOf, Cond.instanceMethod yX1_takeAllOf, Cond.selects RX1 yX1_takeAllOf yX1_takeAllOf, Cond.code yX1_takeAllOf cX1_takeAllOf 5 (some .int), Cond.fieldLink RX1 49 "Waxrow$House" "figureCount" "I", Cond.fieldLink RX1 22 "Waxrow$House" "figures" "[LWaxrow$Figure;", Cond.fieldLink RX1 64 "Waxrow$Figure" "head" "LWaxrow$Person;", Cond.fieldLink RX1 107 "Waxrow$Figure" "place" "I", Cond.methodLink RX1 103 yX0_isShown, Cond.instanceMethod yX0_isShown]
def wsX4_consent_r2 : List Cond := [Cond.selects RX0 yX0_isShown yX0_isShown, Cond.initialized RX0, Cond.code yX0_isShown cX0_isShown 1 (some .boolean), Cond.fieldLink RX0 18 "Waxrow$Figure" "place" "I"]
def wsX4_consent : List Cond := .code yX4_consent cX4_consent 4 (some .int) :: ((wsX4_consent_r1 ++ wsX4_consent_r2) ++ wsX40 ++ wsX20 ++ wsX10 ++ wsX00 ++ (vx_atS RX4 283 "java/lang/IndexOutOfBoundsException" ["java/lang/RuntimeException", "java/lang/Exception"]).filter goodWord)
def wsX4_measure_r1 : List Cond := [Cond.fieldLink RX4 10 "Waxrow" "house" "LWaxrow$House;", Cond.methodLink RX4 64 Lib.Math.max.name, Cond.static Lib.Math.max.name, Cond.initialized "java/lang/Math", Cond.code Lib.Math.max.name Lib.Math.max.code 2 (some .int), Cond.methodLink RX4 70 Lib.Math.min.name, Cond.static Lib.Math.min.name, Cond.code Lib.Math.min.name Lib.Math.min.code 2 (some .int), Cond.fieldLink RX4 76 "Waxrow$Person" "high" "[I", Cond.fieldLink RX4 79 "Waxrow$Person" "low" "[I", Cond.methodLink RX4 35 yX1_personAt, Cond.instanceMethod yX1_personAt, Cond.selects RX1 yX1_personAt yX1_personAt, Cond.initialized RX1, Cond.code yX1_personAt cX1_personAt 2 (some (.object "Waxrow$Person")), Cond.fieldLink RX1 46 "Waxrow$House" "personCount" "I", Cond.fieldLink RX1 11 "Waxrow$House" "persons" "[LWaxrow$Person;", Cond.static yX4_checkIndex, Cond.initialized RX4, Cond.code yX4_checkIndex cX4_checkIndex 2 none, Cond.classLink RX4 279 "java/lang/IndexOutOfBoundsException", Cond.initialized "java/lang/IndexOutOfBoundsException", Cond.methodLink RX4 39 yX4_checkIndex, Cond.methodLink RX4 19 yX4_checkArgument]
def wsX4_measure_r2 : List Cond := [Cond.static yX4_checkArgument, Cond.code yX4_checkArgument cX4_checkArgument 3 none, Cond.classLink RX4 113 "java/lang/IllegalArgumentException", Cond.initialized "java/lang/IllegalArgumentException", Cond.methodLink RX4 73 yX2_learn, Cond.instanceMethod yX2_learn, Cond.selects RX2 yX2_learn yX2_learn, Cond.initialized RX2, Cond.code yX2_learn cX2_learn 7 none, Cond.fieldLink RX2 22 "Waxrow$Person" "low" "[I", Cond.methodLink RX2 45 Lib.Math.max.name, Cond.fieldLink RX2 25 "Waxrow$Person" "high" "[I", Cond.methodLink RX2 51 Lib.Math.min.name, Cond.fieldLink RX2 35 "Waxrow$Person" "clashes" "I"]
def wsX4_measure : List Cond := .code yX4_measure cX4_measure 6 (some .int) :: ((wsX4_measure_r1 ++ wsX4_measure_r2) ++ wsX40 ++ wsX20 ++ wsX10 ++ (vx_atS RX4 283 "java/lang/IndexOutOfBoundsException" ["java/lang/RuntimeException", "java/lang/Exception"]).filter goodWord ++ (vx_atS RX4 117 "java/lang/IllegalArgumentException" ["java/lang/RuntimeException", "java/lang/Exception"]).filter goodWord)
def wsX4_pay : List Cond := .code yX4_pay cX4_pay 4 (some .int) :: ([.fieldLink RX4 10 "Waxrow" "house" "LWaxrow$House;", .fieldLink RX4 82 "Waxrow$Person" "due" "I", .fieldLink RX4 85 "Waxrow$House" "money" "I", .methodLink RX4 35 yX1_personAt, .instanceMethod yX1_personAt, .selects RX1 yX1_personAt yX1_personAt, .initialized RX1, .code yX1_personAt cX1_personAt 2 (some (.object "Waxrow$Person")), .fieldLink RX1 46 "Waxrow$House" "personCount" "I", .fieldLink RX1 11 "Waxrow$House" "persons" "[LWaxrow$Person;", .static yX4_checkIndex, .initialized RX4, .code yX4_checkIndex cX4_checkIndex 2 none, .classLink RX4 279 "java/lang/IndexOutOfBoundsException", .initialized "java/lang/IndexOutOfBoundsException"] ++ wsX40 ++ wsX20 ++ wsX10 ++ (vx_atS RX4 283 "java/lang/IndexOutOfBoundsException" ["java/lang/RuntimeException", "java/lang/Exception"]).filter goodWord)
def wsX4_figure_r1 : List Cond := [Cond.fieldLink RX4 10 "Waxrow" "house" "LWaxrow$House;", Cond.fieldLink RX4 88 "Waxrow$House" "figureCount" "I", Cond.methodLink RX4 35 yX1_personAt, Cond.instanceMethod yX1_personAt, Cond.selects RX1 yX1_personAt yX1_personAt, Cond.initialized RX1, Cond.code yX1_personAt cX1_personAt 2 (some (.object "Waxrow$Person")), Cond.fieldLink RX1 46 "Waxrow$House" "personCount" "I", Cond.fieldLink RX1 11 "Waxrow$House" "persons" "[LWaxrow$Person;", Cond.static yX4_checkIndex, Cond.initialized RX4, Cond.code yX4_checkIndex cX4_checkIndex 2 none, Cond.classLink RX4 279 "java/lang/IndexOutOfBoundsException", Cond.initialized "java/lang/IndexOutOfBoundsException", Cond.methodLink RX4 27 yX4_checkState, Cond.static yX4_checkState, Cond.code yX4_checkState cX4_checkState 1 none, Cond.classLink RX4 286 "java/lang/IllegalStateException", Cond.initialized "java/lang/IllegalStateException", Cond.methodLink RX4 91 yX1_addFigure, Cond.instanceMethod yX1_addFigure, Cond.selects RX1 yX1_addFigure yX1_addFigure, Cond.code yX1_addFigure cX1_addFigure 4 (some .int), Cond.fieldLink RX1 49 "Waxrow$House" "figureCount" "I"]
def wsX4_figure_r2 : List Cond := [Cond.fieldLink RX1 64 "Waxrow$Figure" "head" "LWaxrow$Person;", Cond.fieldLink RX1 75 "Waxrow$Figure" "body" "LWaxrow$Person;", Cond.methodLink RX1 95 yX1_figureAt, Cond.instanceMethod yX1_figureAt, Cond.selects RX1 yX1_figureAt yX1_figureAt, Cond.code yX1_figureAt cX1_figureAt 2 (some (.object "Waxrow$Figure")), Cond.fieldLink RX1 22 "Waxrow$House" "figures" "[LWaxrow$Figure;"]
def wsX4_figure : List Cond := .code yX4_figure cX4_figure 3 (some .int) :: ((wsX4_figure_r1 ++ wsX4_figure_r2) ++ wsX40 ++ wsX10 ++ wsX00 ++ (vx_atS RX4 283 "java/lang/IndexOutOfBoundsException" ["java/lang/RuntimeException", "java/lang/Exception"]).filter goodWord ++ (vx_atS RX4 290 "java/lang/IllegalStateException" ["java/lang/RuntimeException", "java/lang/Exception"]).filter goodWord)
def wsX4_work_r1 : List Cond := [Cond.fieldLink RX4 10 "Waxrow" "house" "LWaxrow$House;", Cond.fieldLink RX4 102 "Waxrow$Figure" "hands" "I", Cond.fieldLink RX4 107 "Waxrow$Figure" "step" "I", Cond.fieldLink RX4 110 "Waxrow$Figure" "place" "I", Cond.methodLink RX4 94 yX1_figureAt, Cond.instanceMethod yX1_figureAt, Cond.selects RX1 yX1_figureAt yX1_figureAt, Cond.initialized RX1, Cond.code yX1_figureAt cX1_figureAt 2 (some (.object "Waxrow$Figure")), Cond.fieldLink RX1 49 "Waxrow$House" "figureCount" "I", Cond.fieldLink RX1 22 "Waxrow$House" "figures" "[LWaxrow$Figure;", Cond.static yX4_checkIndex, Cond.initialized RX4, Cond.code yX4_checkIndex cX4_checkIndex 2 none, Cond.classLink RX4 279 "java/lang/IndexOutOfBoundsException", Cond.initialized "java/lang/IndexOutOfBoundsException", Cond.methodLink RX4 19 yX4_checkArgument, Cond.static yX4_checkArgument, Cond.code yX4_checkArgument cX4_checkArgument 3 none, Cond.classLink RX4 113 "java/lang/IllegalArgumentException", Cond.initialized "java/lang/IllegalArgumentException", Cond.methodLink RX4 98 yX1_allHands, Cond.instanceMethod yX1_allHands, Cond.selects RX1 yX1_allHands yX1_allHands]
def wsX4_work_r2 : List Cond := [Cond.code yX1_allHands cX1_allHands 3 (some .int), Cond.fieldLink RX1 132 "Waxrow$Figure" "hands" "I", Cond.methodLink RX4 27 yX4_checkState, Cond.static yX4_checkState, Cond.code yX4_checkState cX4_checkState 1 none, Cond.classLink RX4 286 "java/lang/IllegalStateException", Cond.initialized "java/lang/IllegalStateException"]
def wsX4_work : List Cond := .code yX4_work cX4_work 5 (some .int) :: ((wsX4_work_r1 ++ wsX4_work_r2) ++ wsX40 ++ wsX00 ++ wsX10 ++ (vx_atS RX4 283 "java/lang/IndexOutOfBoundsException" ["java/lang/RuntimeException", "java/lang/Exception"]).filter goodWord ++ (vx_atS RX4 117 "java/lang/IllegalArgumentException" ["java/lang/RuntimeException", "java/lang/Exception"]).filter goodWord ++ (vx_atS RX4 290 "java/lang/IllegalStateException" ["java/lang/RuntimeException", "java/lang/Exception"]).filter goodWord)
def wsX4_swap_r1 : List Cond := [Cond.classLink RX4 113 "java/lang/IllegalArgumentException", Cond.initialized "java/lang/IllegalArgumentException", Cond.fieldLink RX4 10 "Waxrow" "house" "LWaxrow$House;", Cond.methodLink RX4 94 yX1_figureAt, Cond.instanceMethod yX1_figureAt, Cond.selects RX1 yX1_figureAt yX1_figureAt, Cond.initialized RX1, Cond.code yX1_figureAt cX1_figureAt 2 (some (.object "Waxrow$Figure")), Cond.fieldLink RX1 49 "Waxrow$House" "figureCount" "I", Cond.fieldLink RX1 22 "Waxrow$House" "figures" "[LWaxrow$Figure;", Cond.static yX4_checkIndex, Cond.initialized RX4, Cond.code yX4_checkIndex cX4_checkIndex 2 none, Cond.classLink RX4 279 "java/lang/IndexOutOfBoundsException", Cond.initialized "java/lang/IndexOutOfBoundsException", Cond.methodLink RX4 120 yX0_isReadyInStore, Cond.instanceMethod yX0_isReadyInStore, Cond.selects RX0 yX0_isReadyInStore yX0_isReadyInStore, Cond.initialized RX0, Cond.code yX0_isReadyInStore cX0_isReadyInStore 1 (some .boolean), Cond.fieldLink RX0 22 "Waxrow$Figure" "step" "I", Cond.fieldLink RX0 18 "Waxrow$Figure" "place" "I", Cond.methodLink RX4 27 yX4_checkState, Cond.static yX4_checkState]
def wsX4_swap_r2 : List Cond := [Cond.code yX4_checkState cX4_checkState 1 none, Cond.classLink RX4 286 "java/lang/IllegalStateException", Cond.initialized "java/lang/IllegalStateException", Cond.methodLink RX4 124 yX0_swapHeadWith, Cond.instanceMethod yX0_swapHeadWith, Cond.selects RX0 yX0_swapHeadWith yX0_swapHeadWith, Cond.code yX0_swapHeadWith cX0_swapHeadWith 4 none, Cond.fieldLink RX0 9 "Waxrow$Figure" "head" "LWaxrow$Person;", Cond.fieldLink RX0 31 "Waxrow$Figure" "flaw" "I", Cond.methodLink RX4 128 yX0_likeness, Cond.instanceMethod yX0_likeness, Cond.selects RX0 yX0_likeness yX0_likeness, Cond.code yX0_likeness cX0_likeness 3 (some .int), Cond.fieldLink RX0 34 "Waxrow$Figure" "wear" "I", Cond.fieldLink RX0 15 "Waxrow$Figure" "body" "LWaxrow$Person;", Cond.methodLink RX0 56 yX0_isDone, Cond.instanceMethod yX0_isDone, Cond.selects RX0 yX0_isDone yX0_isDone, Cond.code yX0_isDone cX0_isDone 1 (some .boolean), Cond.methodLink RX0 60 yX2_doubleHeight, Cond.instanceMethod yX2_doubleHeight, Cond.selects RX2 yX2_doubleHeight yX2_doubleHeight, Cond.initialized RX2, Cond.code yX2_doubleHeight cX2_doubleHeight 1 (some .int)]
def wsX4_swap_r3 : List Cond := [Cond.fieldLink RX2 22 "Waxrow$Person" "low" "[I", Cond.fieldLink RX2 25 "Waxrow$Person" "high" "[I"]
def wsX4_swap : List Cond := .code yX4_swap cX4_swap 5 (some .int) :: ((wsX4_swap_r1 ++ (wsX4_swap_r2 ++ wsX4_swap_r3)) ++ wsX40 ++ wsX10 ++ wsX00 ++ wsX20 ++ (vx_atS RX4 117 "java/lang/IllegalArgumentException" ["java/lang/RuntimeException", "java/lang/Exception"]).filter goodWord ++ (vx_atS RX4 283 "java/lang/IndexOutOfBoundsException" ["java/lang/RuntimeException", "java/lang/Exception"]).filter goodWord ++ (vx_atS RX4 290 "java/lang/IllegalStateException" ["java/lang/RuntimeException", "java/lang/Exception"]).filter goodWord)
def wsX4_mend_r1 : List Cond := [Cond.fieldLink RX4 10 "Waxrow" "house" "LWaxrow$House;", Cond.fieldLink RX4 131 "Waxrow$Figure" "wear" "I", Cond.fieldLink RX4 134 "Waxrow$House" "wax" "I", Cond.methodLink RX4 70 Lib.Math.min.name, Cond.static Lib.Math.min.name, Cond.initialized "java/lang/Math", Cond.code Lib.Math.min.name Lib.Math.min.code 2 (some .int), Cond.methodLink RX4 94 yX1_figureAt, Cond.instanceMethod yX1_figureAt, Cond.selects RX1 yX1_figureAt yX1_figureAt, Cond.initialized RX1, Cond.code yX1_figureAt cX1_figureAt 2 (some (.object "Waxrow$Figure")), Cond.fieldLink RX1 49 "Waxrow$House" "figureCount" "I", Cond.fieldLink RX1 22 "Waxrow$House" "figures" "[LWaxrow$Figure;", Cond.static yX4_checkIndex, Cond.initialized RX4, Cond.code yX4_checkIndex cX4_checkIndex 2 none, Cond.classLink RX4 279 "java/lang/IndexOutOfBoundsException", Cond.initialized "java/lang/IndexOutOfBoundsException", Cond.methodLink RX4 120 yX0_isReadyInStore, Cond.instanceMethod yX0_isReadyInStore, Cond.selects RX0 yX0_isReadyInStore yX0_isReadyInStore, Cond.initialized RX0, Cond.code yX0_isReadyInStore cX0_isReadyInStore 1 (some .boolean)]
def wsX4_mend_r2 : List Cond := [Cond.fieldLink RX0 22 "Waxrow$Figure" "step" "I", Cond.fieldLink RX0 18 "Waxrow$Figure" "place" "I", Cond.methodLink RX4 27 yX4_checkState, Cond.static yX4_checkState, Cond.code yX4_checkState cX4_checkState 1 none, Cond.classLink RX4 286 "java/lang/IllegalStateException", Cond.initialized "java/lang/IllegalStateException"]
def wsX4_mend : List Cond := .code yX4_mend cX4_mend 4 (some .int) :: ((wsX4_mend_r1 ++ wsX4_mend_r2) ++ wsX40 ++ wsX00 ++ wsX10 ++ (vx_atS RX4 283 "java/lang/IndexOutOfBoundsException" ["java/lang/RuntimeException", "java/lang/Exception"]).filter goodWord ++ (vx_atS RX4 290 "java/lang/IllegalStateException" ["java/lang/RuntimeException", "java/lang/Exception"]).filter goodWord)
def wsX4_melt_r1 : List Cond := [Cond.fieldLink RX4 10 "Waxrow" "house" "LWaxrow$House;", Cond.fieldLink RX4 110 "Waxrow$Figure" "place" "I", Cond.fieldLink RX4 107 "Waxrow$Figure" "step" "I", Cond.fieldLink RX4 134 "Waxrow$House" "wax" "I", Cond.methodLink RX4 94 yX1_figureAt, Cond.instanceMethod yX1_figureAt, Cond.selects RX1 yX1_figureAt yX1_figureAt, Cond.initialized RX1, Cond.code yX1_figureAt cX1_figureAt 2 (some (.object "Waxrow$Figure")), Cond.fieldLink RX1 49 "Waxrow$House" "figureCount" "I", Cond.fieldLink RX1 22 "Waxrow$House" "figures" "[LWaxrow$Figure;", Cond.static yX4_checkIndex, Cond.initialized RX4, Cond.code yX4_checkIndex cX4_checkIndex 2 none, Cond.classLink RX4 279 "java/lang/IndexOutOfBoundsException", Cond.initialized "java/lang/IndexOutOfBoundsException", Cond.methodLink RX4 27 yX4_checkState, Cond.static yX4_checkState, Cond.code yX4_checkState cX4_checkState 1 none, Cond.classLink RX4 286 "java/lang/IllegalStateException", Cond.initialized "java/lang/IllegalStateException", Cond.methodLink RX4 137 yX0_becomeMelted, Cond.instanceMethod yX0_becomeMelted, Cond.selects RX0 yX0_becomeMelted yX0_becomeMelted]
def wsX4_melt_r2 : List Cond := [Cond.initialized RX0, Cond.code yX0_becomeMelted cX0_becomeMelted 1 none, Cond.fieldLink RX0 18 "Waxrow$Figure" "place" "I", Cond.fieldLink RX0 28 "Waxrow$Figure" "hands" "I"]
def wsX4_melt : List Cond := .code yX4_melt cX4_melt 3 (some .int) :: ((wsX4_melt_r1 ++ wsX4_melt_r2) ++ wsX40 ++ wsX00 ++ wsX10 ++ (vx_atS RX4 283 "java/lang/IndexOutOfBoundsException" ["java/lang/RuntimeException", "java/lang/Exception"]).filter goodWord ++ (vx_atS RX4 290 "java/lang/IllegalStateException" ["java/lang/RuntimeException", "java/lang/Exception"]).filter goodWord)
def wsX4_tour_r1 : List Cond := [Cond.fieldLink RX4 10 "Waxrow" "house" "LWaxrow$House;", Cond.fieldLink RX4 140 "Waxrow$Figure" "head" "LWaxrow$Person;", Cond.fieldLink RX4 56 "Waxrow$Person" "consents" "Z", Cond.fieldLink RX4 110 "Waxrow$Figure" "place" "I", Cond.fieldLink RX4 144 "Waxrow$Figure" "tourLand" "I", Cond.fieldLink RX4 147 "Waxrow$Figure" "tourDays" "I", Cond.methodLink RX4 94 yX1_figureAt, Cond.instanceMethod yX1_figureAt, Cond.selects RX1 yX1_figureAt yX1_figureAt, Cond.initialized RX1, Cond.code yX1_figureAt cX1_figureAt 2 (some (.object "Waxrow$Figure")), Cond.fieldLink RX1 49 "Waxrow$House" "figureCount" "I", Cond.fieldLink RX1 22 "Waxrow$House" "figures" "[LWaxrow$Figure;", Cond.static yX4_checkIndex, Cond.initialized RX4, Cond.code yX4_checkIndex cX4_checkIndex 2 none, Cond.classLink RX4 279 "java/lang/IndexOutOfBoundsException", Cond.initialized "java/lang/IndexOutOfBoundsException", Cond.methodLink RX4 19 yX4_checkArgument, Cond.static yX4_checkArgument, Cond.code yX4_checkArgument cX4_checkArgument 3 none, Cond.classLink RX4 113 "java/lang/IllegalArgumentException", Cond.initialized "java/lang/IllegalArgumentException", Cond.methodLink RX4 120 yX0_isReadyInStore]
def wsX4_tour_r2 : List Cond := [Cond.instanceMethod yX0_isReadyInStore, Cond.selects RX0 yX0_isReadyInStore yX0_isReadyInStore, Cond.initialized RX0, Cond.code yX0_isReadyInStore cX0_isReadyInStore 1 (some .boolean), Cond.fieldLink RX0 22 "Waxrow$Figure" "step" "I", Cond.fieldLink RX0 18 "Waxrow$Figure" "place" "I", Cond.methodLink RX4 27 yX4_checkState, Cond.static yX4_checkState, Cond.code yX4_checkState cX4_checkState 1 none, Cond.classLink RX4 286 "java/lang/IllegalStateException", Cond.initialized "java/lang/IllegalStateException", Cond.methodLink RX4 128 yX0_likeness, Cond.instanceMethod yX0_likeness, Cond.selects RX0 yX0_likeness yX0_likeness, Cond.code yX0_likeness cX0_likeness 3 (some .int), Cond.fieldLink RX0 31 "Waxrow$Figure" "flaw" "I", Cond.fieldLink RX0 34 "Waxrow$Figure" "wear" "I", Cond.fieldLink RX0 9 "Waxrow$Figure" "head" "LWaxrow$Person;", Cond.fieldLink RX0 15 "Waxrow$Figure" "body" "LWaxrow$Person;", Cond.methodLink RX0 56 yX0_isDone, Cond.instanceMethod yX0_isDone, Cond.selects RX0 yX0_isDone yX0_isDone, Cond.code yX0_isDone cX0_isDone 1 (some .boolean), Cond.methodLink RX0 60 yX2_doubleHeight]
def wsX4_tour_r3 : List Cond := [Cond.instanceMethod yX2_doubleHeight, Cond.selects RX2 yX2_doubleHeight yX2_doubleHeight, Cond.initialized RX2, Cond.code yX2_doubleHeight cX2_doubleHeight 1 (some .int), Cond.fieldLink RX2 22 "Waxrow$Person" "low" "[I", Cond.fieldLink RX2 25 "Waxrow$Person" "high" "[I"]
def wsX4_tour : List Cond := .code yX4_tour cX4_tour 5 (some .int) :: ((wsX4_tour_r1 ++ (wsX4_tour_r2 ++ wsX4_tour_r3)) ++ wsX40 ++ wsX00 ++ wsX20 ++ wsX10 ++ (vx_atS RX4 283 "java/lang/IndexOutOfBoundsException" ["java/lang/RuntimeException", "java/lang/Exception"]).filter goodWord ++ (vx_atS RX4 117 "java/lang/IllegalArgumentException" ["java/lang/RuntimeException", "java/lang/Exception"]).filter goodWord ++ (vx_atS RX4 290 "java/lang/IllegalStateException" ["java/lang/RuntimeException", "java/lang/Exception"]).filter goodWord)
def wsX4_room_r1 : List Cond := [Cond.fieldLink RX4 10 "Waxrow" "house" "LWaxrow$House;", Cond.fieldLink RX4 150 "Waxrow$House" "roomCount" "I", Cond.methodLink RX4 19 yX4_checkArgument, Cond.static yX4_checkArgument, Cond.initialized RX4, Cond.code yX4_checkArgument cX4_checkArgument 3 none, Cond.classLink RX4 113 "java/lang/IllegalArgumentException", Cond.initialized "java/lang/IllegalArgumentException", Cond.methodLink RX4 27 yX4_checkState, Cond.static yX4_checkState, Cond.code yX4_checkState cX4_checkState 1 none, Cond.classLink RX4 286 "java/lang/IllegalStateException", Cond.initialized "java/lang/IllegalStateException", Cond.methodLink RX4 153 yX1_addRoom, Cond.instanceMethod yX1_addRoom, Cond.selects RX1 yX1_addRoom yX1_addRoom, Cond.initialized RX1, Cond.code yX1_addRoom cX1_addRoom 5 (some .int), Cond.fieldLink RX1 52 "Waxrow$House" "roomCount" "I", Cond.fieldLink RX1 81 "Waxrow$Room" "lamps" "I", Cond.fieldLink RX1 84 "Waxrow$Room" "spots" "I", Cond.methodLink RX1 99 yX1_roomAt, Cond.instanceMethod yX1_roomAt, Cond.selects RX1 yX1_roomAt yX1_roomAt]
def wsX4_room_r2 : List Cond := [Cond.code yX1_roomAt cX1_roomAt 2 (some (.object "Waxrow$Room")), Cond.fieldLink RX1 31 "Waxrow$House" "rooms" "[LWaxrow$Room;", Cond.static yX4_checkIndex, Cond.code yX4_checkIndex cX4_checkIndex 2 none, Cond.classLink RX4 279 "java/lang/IndexOutOfBoundsException", Cond.initialized "java/lang/IndexOutOfBoundsException"]
def wsX4_room : List Cond := .code yX4_room cX4_room 3 (some .int) :: ((wsX4_room_r1 ++ wsX4_room_r2) ++ wsX40 ++ wsX10 ++ wsX30 ++ (vx_atS RX4 117 "java/lang/IllegalArgumentException" ["java/lang/RuntimeException", "java/lang/Exception"]).filter goodWord ++ (vx_atS RX4 290 "java/lang/IllegalStateException" ["java/lang/RuntimeException", "java/lang/Exception"]).filter goodWord ++ (vx_atS RX4 283 "java/lang/IndexOutOfBoundsException" ["java/lang/RuntimeException", "java/lang/Exception"]).filter goodWord)
def wsX4_lamps : List Cond := .code yX4_lamps cX4_lamps 5 (some .int) :: ([.fieldLink RX4 10 "Waxrow" "house" "LWaxrow$House;", .fieldLink RX4 160 "Waxrow$Room" "lamps" "I", .methodLink RX4 156 yX1_roomAt, .instanceMethod yX1_roomAt, .selects RX1 yX1_roomAt yX1_roomAt, .initialized RX1, .code yX1_roomAt cX1_roomAt 2 (some (.object "Waxrow$Room")), .fieldLink RX1 52 "Waxrow$House" "roomCount" "I", .fieldLink RX1 31 "Waxrow$House" "rooms" "[LWaxrow$Room;", .static yX4_checkIndex, .initialized RX4, .code yX4_checkIndex cX4_checkIndex 2 none, .classLink RX4 279 "java/lang/IndexOutOfBoundsException", .initialized "java/lang/IndexOutOfBoundsException", .methodLink RX4 19 yX4_checkArgument, .static yX4_checkArgument, .code yX4_checkArgument cX4_checkArgument 3 none, .classLink RX4 113 "java/lang/IllegalArgumentException", .initialized "java/lang/IllegalArgumentException"] ++ wsX40 ++ wsX30 ++ wsX10 ++ (vx_atS RX4 283 "java/lang/IndexOutOfBoundsException" ["java/lang/RuntimeException", "java/lang/Exception"]).filter goodWord ++ (vx_atS RX4 117 "java/lang/IllegalArgumentException" ["java/lang/RuntimeException", "java/lang/Exception"]).filter goodWord)
def wsX4_show_r1 : List Cond := [Cond.fieldLink RX4 10 "Waxrow" "house" "LWaxrow$House;", Cond.fieldLink RX4 140 "Waxrow$Figure" "head" "LWaxrow$Person;", Cond.fieldLink RX4 56 "Waxrow$Person" "consents" "Z", Cond.fieldLink RX4 168 "Waxrow$Room" "spots" "I", Cond.fieldLink RX4 110 "Waxrow$Figure" "place" "I", Cond.methodLink RX4 94 yX1_figureAt, Cond.instanceMethod yX1_figureAt, Cond.selects RX1 yX1_figureAt yX1_figureAt, Cond.initialized RX1, Cond.code yX1_figureAt cX1_figureAt 2 (some (.object "Waxrow$Figure")), Cond.fieldLink RX1 49 "Waxrow$House" "figureCount" "I", Cond.fieldLink RX1 22 "Waxrow$House" "figures" "[LWaxrow$Figure;", Cond.static yX4_checkIndex, Cond.initialized RX4, Cond.code yX4_checkIndex cX4_checkIndex 2 none, Cond.classLink RX4 279 "java/lang/IndexOutOfBoundsException", Cond.initialized "java/lang/IndexOutOfBoundsException", Cond.methodLink RX4 156 yX1_roomAt, Cond.instanceMethod yX1_roomAt, Cond.selects RX1 yX1_roomAt yX1_roomAt, Cond.code yX1_roomAt cX1_roomAt 2 (some (.object "Waxrow$Room")), Cond.fieldLink RX1 52 "Waxrow$House" "roomCount" "I", Cond.fieldLink RX1 31 "Waxrow$House" "rooms" "[LWaxrow$Room;", Cond.methodLink RX4 120 yX0_isReadyInStore]
def wsX4_show_r2 : List Cond := [Cond.instanceMethod yX0_isReadyInStore, Cond.selects RX0 yX0_isReadyInStore yX0_isReadyInStore, Cond.initialized RX0, Cond.code yX0_isReadyInStore cX0_isReadyInStore 1 (some .boolean), Cond.fieldLink RX0 22 "Waxrow$Figure" "step" "I", Cond.fieldLink RX0 18 "Waxrow$Figure" "place" "I", Cond.methodLink RX4 27 yX4_checkState, Cond.static yX4_checkState, Cond.code yX4_checkState cX4_checkState 1 none, Cond.classLink RX4 286 "java/lang/IllegalStateException", Cond.initialized "java/lang/IllegalStateException", Cond.methodLink RX4 128 yX0_likeness, Cond.instanceMethod yX0_likeness, Cond.selects RX0 yX0_likeness yX0_likeness, Cond.code yX0_likeness cX0_likeness 3 (some .int), Cond.fieldLink RX0 31 "Waxrow$Figure" "flaw" "I", Cond.fieldLink RX0 34 "Waxrow$Figure" "wear" "I", Cond.fieldLink RX0 9 "Waxrow$Figure" "head" "LWaxrow$Person;", Cond.fieldLink RX0 15 "Waxrow$Figure" "body" "LWaxrow$Person;", Cond.methodLink RX0 56 yX0_isDone, Cond.instanceMethod yX0_isDone, Cond.selects RX0 yX0_isDone yX0_isDone, Cond.code yX0_isDone cX0_isDone 1 (some .boolean), Cond.methodLink RX0 60 yX2_doubleHeight]
def wsX4_show_r3 : List Cond := [Cond.instanceMethod yX2_doubleHeight, Cond.selects RX2 yX2_doubleHeight yX2_doubleHeight, Cond.initialized RX2, Cond.code yX2_doubleHeight cX2_doubleHeight 1 (some .int), Cond.fieldLink RX2 22 "Waxrow$Person" "low" "[I", Cond.fieldLink RX2 25 "Waxrow$Person" "high" "[I", Cond.methodLink RX4 165 yX1_figuresIn, Cond.instanceMethod yX1_figuresIn, Cond.selects RX1 yX1_figuresIn yX1_figuresIn, Cond.code yX1_figuresIn cX1_figuresIn 5 (some .int), Cond.fieldLink RX1 107 "Waxrow$Figure" "place" "I", Cond.methodLink RX4 171 yX1_shownOf, Cond.instanceMethod yX1_shownOf, Cond.selects RX1 yX1_shownOf yX1_shownOf, Cond.code yX1_shownOf cX1_shownOf 3 (some .int), Cond.fieldLink RX1 64 "Waxrow$Figure" "head" "LWaxrow$Person;", Cond.methodLink RX1 103 yX0_isShown, Cond.instanceMethod yX0_isShown, Cond.selects RX0 yX0_isShown yX0_isShown, Cond.code yX0_isShown cX0_isShown 1 (some .boolean), Cond.methodLink RX4 174 yX0_draw, Cond.instanceMethod yX0_draw, Cond.selects RX0 yX0_draw yX0_draw, Cond.code yX0_draw cX0_draw 1 (some .int)]
def wsX4_show_r4 : List Cond := [Cond.fieldLink RX0 66 "Waxrow$Person" "fame" "[I", Cond.methodLink RX0 63 yX0_isShown, Cond.methodLink RX0 69 yX0_likeness]
def wsX4_show : List Cond := .code yX4_show cX4_show 5 (some .int) :: ((wsX4_show_r1 ++ (wsX4_show_r2 ++ (wsX4_show_r3 ++ wsX4_show_r4))) ++ wsX40 ++ wsX00 ++ wsX20 ++ wsX30 ++ wsX10 ++ (vx_atS RX4 283 "java/lang/IndexOutOfBoundsException" ["java/lang/RuntimeException", "java/lang/Exception"]).filter goodWord ++ (vx_atS RX4 290 "java/lang/IllegalStateException" ["java/lang/RuntimeException", "java/lang/Exception"]).filter goodWord)
def wsX4_take_r1 : List Cond := [Cond.fieldLink RX4 10 "Waxrow" "house" "LWaxrow$House;", Cond.fieldLink RX4 110 "Waxrow$Figure" "place" "I", Cond.methodLink RX4 94 yX1_figureAt, Cond.instanceMethod yX1_figureAt, Cond.selects RX1 yX1_figureAt yX1_figureAt, Cond.initialized RX1, Cond.code yX1_figureAt cX1_figureAt 2 (some (.object "Waxrow$Figure")), Cond.fieldLink RX1 49 "Waxrow$House" "figureCount" "I", Cond.fieldLink RX1 22 "Waxrow$House" "figures" "[LWaxrow$Figure;", Cond.static yX4_checkIndex, Cond.initialized RX4, Cond.code yX4_checkIndex cX4_checkIndex 2 none, Cond.classLink RX4 279 "java/lang/IndexOutOfBoundsException", Cond.initialized "java/lang/IndexOutOfBoundsException", Cond.methodLink RX4 177 yX0_isShown, Cond.instanceMethod yX0_isShown, Cond.selects RX0 yX0_isShown yX0_isShown, Cond.initialized RX0, Cond.code yX0_isShown cX0_isShown 1 (some .boolean), Cond.fieldLink RX0 18 "Waxrow$Figure" "place" "I", Cond.methodLink RX4 27 yX4_checkState, Cond.static yX4_checkState, Cond.code yX4_checkState cX4_checkState 1 none, Cond.classLink RX4 286 "java/lang/IllegalStateException"]
def wsX4_take_r2 : List Cond := [Cond.initialized "java/lang/IllegalStateException"]
def wsX4_take : List Cond := .code yX4_take cX4_take 4 (some .int) :: ((wsX4_take_r1 ++ wsX4_take_r2) ++ wsX40 ++ wsX00 ++ wsX10 ++ (vx_atS RX4 283 "java/lang/IndexOutOfBoundsException" ["java/lang/RuntimeException", "java/lang/Exception"]).filter goodWord ++ (vx_atS RX4 290 "java/lang/IllegalStateException" ["java/lang/RuntimeException", "java/lang/Exception"]).filter goodWord)
def wsX4_clean : List Cond := .code yX4_clean cX4_clean 2 (some .int) :: ([.fieldLink RX4 10 "Waxrow" "house" "LWaxrow$House;", .fieldLink RX4 150 "Waxrow$House" "roomCount" "I", .fieldLink RX4 85 "Waxrow$House" "money" "I", .methodLink RX4 39 yX4_checkIndex, .static yX4_checkIndex, .initialized RX4, .code yX4_checkIndex cX4_checkIndex 2 none, .classLink RX4 279 "java/lang/IndexOutOfBoundsException", .initialized "java/lang/IndexOutOfBoundsException", .methodLink RX4 180 yX1_cleanFiguresIn, .instanceMethod yX1_cleanFiguresIn, .selects RX1 yX1_cleanFiguresIn yX1_cleanFiguresIn, .initialized RX1, .code yX1_cleanFiguresIn cX1_cleanFiguresIn 4 none, .fieldLink RX1 49 "Waxrow$House" "figureCount" "I", .fieldLink RX1 22 "Waxrow$House" "figures" "[LWaxrow$Figure;", .fieldLink RX1 107 "Waxrow$Figure" "place" "I", .fieldLink RX1 110 "Waxrow$Figure" "wear" "I", .methodLink RX1 113 Lib.Math.max.name, .static Lib.Math.max.name, .initialized "java/lang/Math", .code Lib.Math.max.name Lib.Math.max.code 2 (some .int)] ++ wsX40 ++ wsX10 ++ wsX00 ++ (vx_atS RX4 283 "java/lang/IndexOutOfBoundsException" ["java/lang/RuntimeException", "java/lang/Exception"]).filter goodWord)
def wsX4_price : List Cond := .code yX4_price cX4_price 3 (some .int) :: ([.fieldLink RX4 10 "Waxrow" "house" "LWaxrow$House;", .fieldLink RX4 183 "Waxrow$House" "price" "I", .methodLink RX4 19 yX4_checkArgument, .static yX4_checkArgument, .initialized RX4, .code yX4_checkArgument cX4_checkArgument 3 none, .classLink RX4 113 "java/lang/IllegalArgumentException", .initialized "java/lang/IllegalArgumentException"] ++ wsX40 ++ wsX10 ++ (vx_atS RX4 117 "java/lang/IllegalArgumentException" ["java/lang/RuntimeException", "java/lang/Exception"]).filter goodWord)
def wsX4_pass_r1 : List Cond := [Cond.fieldLink RX4 10 "Waxrow" "house" "LWaxrow$House;", Cond.methodLink RX4 19 yX4_checkArgument, Cond.static yX4_checkArgument, Cond.initialized RX4, Cond.code yX4_checkArgument cX4_checkArgument 3 none, Cond.classLink RX4 113 "java/lang/IllegalArgumentException", Cond.initialized "java/lang/IllegalArgumentException", Cond.methodLink RX4 186 yX1_passDay, Cond.instanceMethod yX1_passDay, Cond.selects RX1 yX1_passDay yX1_passDay, Cond.initialized RX1, Cond.code yX1_passDay cX1_passDay 7 (some .int), Cond.fieldLink RX1 55 "Waxrow$House" "day" "I", Cond.fieldLink RX1 43 "Waxrow$House" "price" "I", Cond.fieldLink RX1 58 "Waxrow$House" "came" "I", Cond.fieldLink RX1 36 "Waxrow$House" "money" "I", Cond.methodLink RX1 135 yX1_beginMonthOfAll, Cond.instanceMethod yX1_beginMonthOfAll, Cond.selects RX1 yX1_beginMonthOfAll yX1_beginMonthOfAll, Cond.code yX1_beginMonthOfAll cX1_beginMonthOfAll 2 none, Cond.fieldLink RX1 46 "Waxrow$House" "personCount" "I", Cond.fieldLink RX1 11 "Waxrow$House" "persons" "[LWaxrow$Person;", Cond.methodLink RX1 151 yX2_beginMonth, Cond.instanceMethod yX2_beginMonth]
def wsX4_pass_r2 : List Cond := [Cond.selects RX2 yX2_beginMonth yX2_beginMonth, Cond.initialized RX2, Cond.code yX2_beginMonth cX2_beginMonth 2 none, Cond.fieldLink RX2 15 "Waxrow$Person" "fame" "[I", Cond.fieldLink RX2 19 "Waxrow$Person" "trend" "[I", Cond.methodLink RX2 38 yX2_heldFame, Cond.static yX2_heldFame, Cond.code yX2_heldFame cX2_heldFame 1 (some .int), Cond.methodLink RX2 42 yX2_nearerToZero, Cond.static yX2_nearerToZero, Cond.code yX2_nearerToZero cX2_nearerToZero 1 (some .int), Cond.methodLink RX1 138 yX1_workOnAll, Cond.instanceMethod yX1_workOnAll, Cond.selects RX1 yX1_workOnAll yX1_workOnAll, Cond.code yX1_workOnAll cX1_workOnAll 3 (some .int), Cond.fieldLink RX1 49 "Waxrow$House" "figureCount" "I", Cond.fieldLink RX1 22 "Waxrow$House" "figures" "[LWaxrow$Figure;", Cond.methodLink RX1 154 yX0_workDay, Cond.instanceMethod yX0_workDay, Cond.selects RX0 yX0_workDay yX0_workDay, Cond.initialized RX0, Cond.code yX0_workDay cX0_workDay 1 (some .boolean), Cond.fieldLink RX0 22 "Waxrow$Figure" "step" "I", Cond.fieldLink RX0 18 "Waxrow$Figure" "place" "I"]
def wsX4_pass_r3 : List Cond := [Cond.fieldLink RX0 25 "Waxrow$Figure" "workInStep" "I", Cond.fieldLink RX0 28 "Waxrow$Figure" "hands" "I", Cond.fieldLink RX0 9 "Waxrow$Figure" "head" "LWaxrow$Person;", Cond.fieldLink RX0 31 "Waxrow$Figure" "flaw" "I", Cond.methodLink RX0 50 yX2_doubt, Cond.instanceMethod yX2_doubt, Cond.selects RX2 yX2_doubt yX2_doubt, Cond.code yX2_doubt cX2_doubt 3 (some .int), Cond.fieldLink RX2 25 "Waxrow$Person" "high" "[I", Cond.fieldLink RX2 22 "Waxrow$Person" "low" "[I", Cond.methodLink RX1 141 yX1_drawsIn, Cond.instanceMethod yX1_drawsIn, Cond.selects RX1 yX1_drawsIn yX1_drawsIn, Cond.code yX1_drawsIn cX1_drawsIn 5 (some .int), Cond.fieldLink RX1 107 "Waxrow$Figure" "place" "I", Cond.methodLink RX1 122 yX0_draw, Cond.instanceMethod yX0_draw, Cond.selects RX0 yX0_draw yX0_draw, Cond.code yX0_draw cX0_draw 1 (some .int), Cond.fieldLink RX0 66 "Waxrow$Person" "fame" "[I", Cond.methodLink RX0 63 yX0_isShown, Cond.instanceMethod yX0_isShown, Cond.selects RX0 yX0_isShown yX0_isShown, Cond.code yX0_isShown cX0_isShown 1 (some .boolean)]
def wsX4_pass_r4 : List Cond := [Cond.methodLink RX0 69 yX0_likeness, Cond.instanceMethod yX0_likeness, Cond.selects RX0 yX0_likeness yX0_likeness, Cond.code yX0_likeness cX0_likeness 3 (some .int), Cond.fieldLink RX0 34 "Waxrow$Figure" "wear" "I", Cond.fieldLink RX0 15 "Waxrow$Figure" "body" "LWaxrow$Person;", Cond.methodLink RX0 56 yX0_isDone, Cond.instanceMethod yX0_isDone, Cond.selects RX0 yX0_isDone yX0_isDone, Cond.code yX0_isDone cX0_isDone 1 (some .boolean), Cond.methodLink RX0 60 yX2_doubleHeight, Cond.instanceMethod yX2_doubleHeight, Cond.selects RX2 yX2_doubleHeight yX2_doubleHeight, Cond.code yX2_doubleHeight cX2_doubleHeight 1 (some .int), Cond.methodLink RX1 144 yX1_wearAllShown, Cond.instanceMethod yX1_wearAllShown, Cond.selects RX1 yX1_wearAllShown yX1_wearAllShown, Cond.code yX1_wearAllShown cX1_wearAllShown 8 (some .int), Cond.fieldLink RX1 81 "Waxrow$Room" "lamps" "I", Cond.methodLink RX1 103 yX0_isShown, Cond.methodLink RX1 99 yX1_roomAt, Cond.instanceMethod yX1_roomAt, Cond.selects RX1 yX1_roomAt yX1_roomAt, Cond.code yX1_roomAt cX1_roomAt 2 (some (.object "Waxrow$Room"))]
def wsX4_pass_r5 : List Cond := [Cond.fieldLink RX1 52 "Waxrow$House" "roomCount" "I", Cond.fieldLink RX1 31 "Waxrow$House" "rooms" "[LWaxrow$Room;", Cond.static yX4_checkIndex, Cond.code yX4_checkIndex cX4_checkIndex 2 none, Cond.classLink RX4 279 "java/lang/IndexOutOfBoundsException", Cond.initialized "java/lang/IndexOutOfBoundsException", Cond.methodLink RX1 157 yX0_wearDay, Cond.instanceMethod yX0_wearDay, Cond.selects RX0 yX0_wearDay yX0_wearDay, Cond.code yX0_wearDay cX0_wearDay 5 (some .boolean), Cond.fieldLink RX0 43 "Waxrow$Figure" "touched" "I", Cond.fieldLink RX0 72 "Waxrow$Person" "due" "I", Cond.methodLink RX0 75 Lib.Math.min.name, Cond.static Lib.Math.min.name, Cond.initialized "java/lang/Math", Cond.code Lib.Math.min.name Lib.Math.min.code 2 (some .int), Cond.methodLink RX0 81 yX0_becomeMelted, Cond.instanceMethod yX0_becomeMelted, Cond.selects RX0 yX0_becomeMelted yX0_becomeMelted, Cond.code yX0_becomeMelted cX0_becomeMelted 1 none, Cond.methodLink RX1 148 yX1_tourWithAll, Cond.instanceMethod yX1_tourWithAll, Cond.selects RX1 yX1_tourWithAll yX1_tourWithAll, Cond.code yX1_tourWithAll cX1_tourWithAll 2 none]
def wsX4_pass_r6 : List Cond := [Cond.methodLink RX1 161 yX0_tourDay, Cond.instanceMethod yX0_tourDay, Cond.selects RX0 yX0_tourDay yX0_tourDay, Cond.code yX0_tourDay cX0_tourDay 2 (some .int), Cond.fieldLink RX0 37 "Waxrow$Figure" "tourLand" "I", Cond.fieldLink RX0 40 "Waxrow$Figure" "tourDays" "I"]
def wsX4_pass : List Cond := .code yX4_pass cX4_pass 6 (some .int) :: ((wsX4_pass_r1 ++ (wsX4_pass_r2 ++ (wsX4_pass_r3 ++ (wsX4_pass_r4 ++ (wsX4_pass_r5 ++ wsX4_pass_r6))))) ++ wsX40 ++ wsX10 ++ wsX20 ++ wsX00 ++ wsX30 ++ (vx_atS RX4 117 "java/lang/IllegalArgumentException" ["java/lang/RuntimeException", "java/lang/Exception"]).filter goodWord ++ (vx_atS RX4 283 "java/lang/IndexOutOfBoundsException" ["java/lang/RuntimeException", "java/lang/Exception"]).filter goodWord)
def wsX4_ofPerson_r1 : List Cond := [Cond.fieldLink RX4 10 "Waxrow" "house" "LWaxrow$House;", Cond.fieldLink RX4 53 "Waxrow$Person" "fame" "[I", Cond.fieldLink RX4 43 "Waxrow$Person" "trend" "[I", Cond.fieldLink RX4 56 "Waxrow$Person" "consents" "Z", Cond.fieldLink RX4 82 "Waxrow$Person" "due" "I", Cond.fieldLink RX4 192 "Waxrow$Person" "clashes" "I", Cond.methodLink RX4 35 yX1_personAt, Cond.instanceMethod yX1_personAt, Cond.selects RX1 yX1_personAt yX1_personAt, Cond.initialized RX1, Cond.code yX1_personAt cX1_personAt 2 (some (.object "Waxrow$Person")), Cond.fieldLink RX1 46 "Waxrow$House" "personCount" "I", Cond.fieldLink RX1 11 "Waxrow$House" "persons" "[LWaxrow$Person;", Cond.static yX4_checkIndex, Cond.initialized RX4, Cond.code yX4_checkIndex cX4_checkIndex 2 none, Cond.classLink RX4 279 "java/lang/IndexOutOfBoundsException", Cond.initialized "java/lang/IndexOutOfBoundsException", Cond.methodLink RX4 19 yX4_checkArgument, Cond.static yX4_checkArgument, Cond.code yX4_checkArgument cX4_checkArgument 3 none, Cond.classLink RX4 113 "java/lang/IllegalArgumentException", Cond.initialized "java/lang/IllegalArgumentException", Cond.methodLink RX4 189 yX2_doubt]
def wsX4_ofPerson_r2 : List Cond := [Cond.instanceMethod yX2_doubt, Cond.selects RX2 yX2_doubt yX2_doubt, Cond.initialized RX2, Cond.code yX2_doubt cX2_doubt 3 (some .int), Cond.fieldLink RX2 25 "Waxrow$Person" "high" "[I", Cond.fieldLink RX2 22 "Waxrow$Person" "low" "[I", Cond.methodLink RX4 171 yX1_shownOf, Cond.instanceMethod yX1_shownOf, Cond.selects RX1 yX1_shownOf yX1_shownOf, Cond.code yX1_shownOf cX1_shownOf 3 (some .int), Cond.fieldLink RX1 49 "Waxrow$House" "figureCount" "I", Cond.fieldLink RX1 22 "Waxrow$House" "figures" "[LWaxrow$Figure;", Cond.fieldLink RX1 64 "Waxrow$Figure" "head" "LWaxrow$Person;", Cond.methodLink RX1 103 yX0_isShown, Cond.instanceMethod yX0_isShown, Cond.selects RX0 yX0_isShown yX0_isShown, Cond.initialized RX0, Cond.code yX0_isShown cX0_isShown 1 (some .boolean), Cond.fieldLink RX0 18 "Waxrow$Figure" "place" "I"]
def wsX4_ofPerson : List Cond := .code yX4_ofPerson cX4_ofPerson 4 (some .int) :: ((wsX4_ofPerson_r1 ++ wsX4_ofPerson_r2) ++ wsX40 ++ wsX20 ++ wsX10 ++ wsX00 ++ (vx_atS RX4 283 "java/lang/IndexOutOfBoundsException" ["java/lang/RuntimeException", "java/lang/Exception"]).filter goodWord ++ (vx_atS RX4 117 "java/lang/IllegalArgumentException" ["java/lang/RuntimeException", "java/lang/Exception"]).filter goodWord)
def wsX4_known : List Cond := .code yX4_known cX4_known 5 (some .int) :: ([.fieldLink RX4 10 "Waxrow" "house" "LWaxrow$House;", .fieldLink RX4 76 "Waxrow$Person" "high" "[I", .fieldLink RX4 79 "Waxrow$Person" "low" "[I", .methodLink RX4 35 yX1_personAt, .instanceMethod yX1_personAt, .selects RX1 yX1_personAt yX1_personAt, .initialized RX1, .code yX1_personAt cX1_personAt 2 (some (.object "Waxrow$Person")), .fieldLink RX1 46 "Waxrow$House" "personCount" "I", .fieldLink RX1 11 "Waxrow$House" "persons" "[LWaxrow$Person;", .static yX4_checkIndex, .initialized RX4, .code yX4_checkIndex cX4_checkIndex 2 none, .classLink RX4 279 "java/lang/IndexOutOfBoundsException", .initialized "java/lang/IndexOutOfBoundsException", .methodLink RX4 39 yX4_checkIndex] ++ wsX40 ++ wsX20 ++ wsX10 ++ (vx_atS RX4 283 "java/lang/IndexOutOfBoundsException" ["java/lang/RuntimeException", "java/lang/Exception"]).filter goodWord)
def wsX4_ofFigure_r1 : List Cond := [Cond.fieldLink RX4 10 "Waxrow" "house" "LWaxrow$House;", Cond.fieldLink RX4 140 "Waxrow$Figure" "head" "LWaxrow$Person;", Cond.fieldLink RX4 195 "Waxrow$Person" "number" "I", Cond.fieldLink RX4 198 "Waxrow$Figure" "body" "LWaxrow$Person;", Cond.fieldLink RX4 107 "Waxrow$Figure" "step" "I", Cond.fieldLink RX4 102 "Waxrow$Figure" "hands" "I", Cond.fieldLink RX4 204 "Waxrow$Figure" "flaw" "I", Cond.fieldLink RX4 131 "Waxrow$Figure" "wear" "I", Cond.fieldLink RX4 110 "Waxrow$Figure" "place" "I", Cond.fieldLink RX4 147 "Waxrow$Figure" "tourDays" "I", Cond.fieldLink RX4 207 "Waxrow$Figure" "touched" "I", Cond.methodLink RX4 94 yX1_figureAt, Cond.instanceMethod yX1_figureAt, Cond.selects RX1 yX1_figureAt yX1_figureAt, Cond.initialized RX1, Cond.code yX1_figureAt cX1_figureAt 2 (some (.object "Waxrow$Figure")), Cond.fieldLink RX1 49 "Waxrow$House" "figureCount" "I", Cond.fieldLink RX1 22 "Waxrow$House" "figures" "[LWaxrow$Figure;", Cond.static yX4_checkIndex, Cond.initialized RX4, Cond.code yX4_checkIndex cX4_checkIndex 2 none, Cond.classLink RX4 279 "java/lang/IndexOutOfBoundsException", Cond.initialized "java/lang/IndexOutOfBoundsException", Cond.methodLink RX4 19 yX4_checkArgument]
def wsX4_ofFigure_r2 : List Cond := [Cond.static yX4_checkArgument, Cond.code yX4_checkArgument cX4_checkArgument 3 none, Cond.classLink RX4 113 "java/lang/IllegalArgumentException", Cond.initialized "java/lang/IllegalArgumentException", Cond.methodLink RX4 201 yX0_workLeftInStep, Cond.instanceMethod yX0_workLeftInStep, Cond.selects RX0 yX0_workLeftInStep yX0_workLeftInStep, Cond.initialized RX0, Cond.code yX0_workLeftInStep cX0_workLeftInStep 1 (some .int), Cond.fieldLink RX0 22 "Waxrow$Figure" "step" "I", Cond.fieldLink RX0 25 "Waxrow$Figure" "workInStep" "I", Cond.methodLink RX4 128 yX0_likeness, Cond.instanceMethod yX0_likeness, Cond.selects RX0 yX0_likeness yX0_likeness, Cond.code yX0_likeness cX0_likeness 3 (some .int), Cond.fieldLink RX0 31 "Waxrow$Figure" "flaw" "I", Cond.fieldLink RX0 34 "Waxrow$Figure" "wear" "I", Cond.fieldLink RX0 9 "Waxrow$Figure" "head" "LWaxrow$Person;", Cond.fieldLink RX0 15 "Waxrow$Figure" "body" "LWaxrow$Person;", Cond.methodLink RX0 56 yX0_isDone, Cond.instanceMethod yX0_isDone, Cond.selects RX0 yX0_isDone yX0_isDone, Cond.code yX0_isDone cX0_isDone 1 (some .boolean), Cond.fieldLink RX0 18 "Waxrow$Figure" "place" "I"]
def wsX4_ofFigure_r3 : List Cond := [Cond.methodLink RX0 60 yX2_doubleHeight, Cond.instanceMethod yX2_doubleHeight, Cond.selects RX2 yX2_doubleHeight yX2_doubleHeight, Cond.initialized RX2, Cond.code yX2_doubleHeight cX2_doubleHeight 1 (some .int), Cond.fieldLink RX2 22 "Waxrow$Person" "low" "[I", Cond.fieldLink RX2 25 "Waxrow$Person" "high" "[I", Cond.methodLink RX4 174 yX0_draw, Cond.instanceMethod yX0_draw, Cond.selects RX0 yX0_draw yX0_draw, Cond.code yX0_draw cX0_draw 1 (some .int), Cond.fieldLink RX0 66 "Waxrow$Person" "fame" "[I", Cond.methodLink RX0 63 yX0_isShown, Cond.instanceMethod yX0_isShown, Cond.selects RX0 yX0_isShown yX0_isShown, Cond.code yX0_isShown cX0_isShown 1 (some .boolean), Cond.methodLink RX0 69 yX0_likeness]
def wsX4_ofFigure : List Cond := .code yX4_ofFigure cX4_ofFigure 4 (some .int) :: ((wsX4_ofFigure_r1 ++ (wsX4_ofFigure_r2 ++ wsX4_ofFigure_r3)) ++ wsX40 ++ wsX00 ++ wsX20 ++ wsX10 ++ (vx_atS RX4 283 "java/lang/IndexOutOfBoundsException" ["java/lang/RuntimeException", "java/lang/Exception"]).filter goodWord ++ (vx_atS RX4 117 "java/lang/IllegalArgumentException" ["java/lang/RuntimeException", "java/lang/Exception"]).filter goodWord)
def wsX4_ofRoom_r1 : List Cond := [Cond.fieldLink RX4 10 "Waxrow" "house" "LWaxrow$House;", Cond.fieldLink RX4 160 "Waxrow$Room" "lamps" "I", Cond.fieldLink RX4 168 "Waxrow$Room" "spots" "I", Cond.methodLink RX4 156 yX1_roomAt, Cond.instanceMethod yX1_roomAt, Cond.selects RX1 yX1_roomAt yX1_roomAt, Cond.initialized RX1, Cond.code yX1_roomAt cX1_roomAt 2 (some (.object "Waxrow$Room")), Cond.fieldLink RX1 52 "Waxrow$House" "roomCount" "I", Cond.fieldLink RX1 31 "Waxrow$House" "rooms" "[LWaxrow$Room;", Cond.static yX4_checkIndex, Cond.initialized RX4, Cond.code yX4_checkIndex cX4_checkIndex 2 none, Cond.classLink RX4 279 "java/lang/IndexOutOfBoundsException", Cond.initialized "java/lang/IndexOutOfBoundsException", Cond.methodLink RX4 19 yX4_checkArgument, Cond.static yX4_checkArgument, Cond.code yX4_checkArgument cX4_checkArgument 3 none, Cond.classLink RX4 113 "java/lang/IllegalArgumentException", Cond.initialized "java/lang/IllegalArgumentException", Cond.methodLink RX4 165 yX1_figuresIn, Cond.instanceMethod yX1_figuresIn, Cond.selects RX1 yX1_figuresIn yX1_figuresIn, Cond.code yX1_figuresIn cX1_figuresIn 5 (some .int)]
def wsX4_ofRoom_r2 : List Cond := [Cond.fieldLink RX1 49 "Waxrow$House" "figureCount" "I", Cond.fieldLink RX1 22 "Waxrow$House" "figures" "[LWaxrow$Figure;", Cond.fieldLink RX1 107 "Waxrow$Figure" "place" "I", Cond.methodLink RX4 210 yX1_drawsIn, Cond.instanceMethod yX1_drawsIn, Cond.selects RX1 yX1_drawsIn yX1_drawsIn, Cond.code yX1_drawsIn cX1_drawsIn 5 (some .int), Cond.methodLink RX1 122 yX0_draw, Cond.instanceMethod yX0_draw, Cond.selects RX0 yX0_draw yX0_draw, Cond.initialized RX0, Cond.code yX0_draw cX0_draw 1 (some .int), Cond.fieldLink RX0 9 "Waxrow$Figure" "head" "LWaxrow$Person;", Cond.fieldLink RX0 66 "Waxrow$Person" "fame" "[I", Cond.methodLink RX0 63 yX0_isShown, Cond.instanceMethod yX0_isShown, Cond.selects RX0 yX0_isShown yX0_isShown, Cond.code yX0_isShown cX0_isShown 1 (some .boolean), Cond.fieldLink RX0 18 "Waxrow$Figure" "place" "I", Cond.methodLink RX0 69 yX0_likeness, Cond.instanceMethod yX0_likeness, Cond.selects RX0 yX0_likeness yX0_likeness, Cond.code yX0_likeness cX0_likeness 3 (some .int), Cond.fieldLink RX0 31 "Waxrow$Figure" "flaw" "I"]
def wsX4_ofRoom_r3 : List Cond := [Cond.fieldLink RX0 34 "Waxrow$Figure" "wear" "I", Cond.fieldLink RX0 15 "Waxrow$Figure" "body" "LWaxrow$Person;", Cond.methodLink RX0 56 yX0_isDone, Cond.instanceMethod yX0_isDone, Cond.selects RX0 yX0_isDone yX0_isDone, Cond.code yX0_isDone cX0_isDone 1 (some .boolean), Cond.fieldLink RX0 22 "Waxrow$Figure" "step" "I", Cond.methodLink RX0 60 yX2_doubleHeight, Cond.instanceMethod yX2_doubleHeight, Cond.selects RX2 yX2_doubleHeight yX2_doubleHeight, Cond.initialized RX2, Cond.code yX2_doubleHeight cX2_doubleHeight 1 (some .int), Cond.fieldLink RX2 22 "Waxrow$Person" "low" "[I", Cond.fieldLink RX2 25 "Waxrow$Person" "high" "[I"]
def wsX4_ofRoom : List Cond := .code yX4_ofRoom cX4_ofRoom 4 (some .int) :: ((wsX4_ofRoom_r1 ++ (wsX4_ofRoom_r2 ++ wsX4_ofRoom_r3)) ++ wsX40 ++ wsX30 ++ wsX10 ++ wsX00 ++ wsX20 ++ (vx_atS RX4 283 "java/lang/IndexOutOfBoundsException" ["java/lang/RuntimeException", "java/lang/Exception"]).filter goodWord ++ (vx_atS RX4 117 "java/lang/IllegalArgumentException" ["java/lang/RuntimeException", "java/lang/Exception"]).filter goodWord)
def wsX4_many_r1 : List Cond := [Cond.fieldLink RX4 10 "Waxrow" "house" "LWaxrow$House;", Cond.fieldLink RX4 213 "Waxrow$House" "day" "I", Cond.fieldLink RX4 23 "Waxrow$House" "personCount" "I", Cond.fieldLink RX4 88 "Waxrow$House" "figureCount" "I", Cond.fieldLink RX4 150 "Waxrow$House" "roomCount" "I", Cond.fieldLink RX4 85 "Waxrow$House" "money" "I", Cond.fieldLink RX4 134 "Waxrow$House" "wax" "I", Cond.fieldLink RX4 222 "Waxrow$House" "came" "I", Cond.fieldLink RX4 183 "Waxrow$House" "price" "I", Cond.methodLink RX4 19 yX4_checkArgument, Cond.static yX4_checkArgument, Cond.initialized RX4, Cond.code yX4_checkArgument cX4_checkArgument 3 none, Cond.classLink RX4 113 "java/lang/IllegalArgumentException", Cond.initialized "java/lang/IllegalArgumentException", Cond.methodLink RX4 216 yX1_figuresDone, Cond.instanceMethod yX1_figuresDone, Cond.selects RX1 yX1_figuresDone yX1_figuresDone, Cond.initialized RX1, Cond.code yX1_figuresDone cX1_figuresDone 3 (some .int), Cond.fieldLink RX1 49 "Waxrow$House" "figureCount" "I", Cond.fieldLink RX1 22 "Waxrow$House" "figures" "[LWaxrow$Figure;", Cond.methodLink RX1 119 yX0_isDone, Cond.instanceMethod yX0_isDone]
def wsX4_many_r2 : List Cond := [Cond.selects RX0 yX0_isDone yX0_isDone, Cond.initialized RX0, Cond.code yX0_isDone cX0_isDone 1 (some .boolean), Cond.fieldLink RX0 22 "Waxrow$Figure" "step" "I", Cond.fieldLink RX0 18 "Waxrow$Figure" "place" "I", Cond.methodLink RX4 165 yX1_figuresIn, Cond.instanceMethod yX1_figuresIn, Cond.selects RX1 yX1_figuresIn yX1_figuresIn, Cond.code yX1_figuresIn cX1_figuresIn 5 (some .int), Cond.fieldLink RX1 107 "Waxrow$Figure" "place" "I", Cond.methodLink RX4 219 yX1_allDue, Cond.instanceMethod yX1_allDue, Cond.selects RX1 yX1_allDue yX1_allDue, Cond.code yX1_allDue cX1_allDue 3 (some .int), Cond.fieldLink RX1 46 "Waxrow$House" "personCount" "I", Cond.fieldLink RX1 11 "Waxrow$House" "persons" "[LWaxrow$Person;", Cond.fieldLink RX1 129 "Waxrow$Person" "due" "I", Cond.methodLink RX4 98 yX1_allHands, Cond.instanceMethod yX1_allHands, Cond.selects RX1 yX1_allHands yX1_allHands, Cond.code yX1_allHands cX1_allHands 3 (some .int), Cond.fieldLink RX1 132 "Waxrow$Figure" "hands" "I", Cond.methodLink RX4 210 yX1_drawsIn, Cond.instanceMethod yX1_drawsIn]
def wsX4_many_r3 : List Cond := [Cond.selects RX1 yX1_drawsIn yX1_drawsIn, Cond.code yX1_drawsIn cX1_drawsIn 5 (some .int), Cond.methodLink RX1 122 yX0_draw, Cond.instanceMethod yX0_draw, Cond.selects RX0 yX0_draw yX0_draw, Cond.code yX0_draw cX0_draw 1 (some .int), Cond.fieldLink RX0 9 "Waxrow$Figure" "head" "LWaxrow$Person;", Cond.fieldLink RX0 66 "Waxrow$Person" "fame" "[I", Cond.methodLink RX0 63 yX0_isShown, Cond.instanceMethod yX0_isShown, Cond.selects RX0 yX0_isShown yX0_isShown, Cond.code yX0_isShown cX0_isShown 1 (some .boolean), Cond.methodLink RX0 69 yX0_likeness, Cond.instanceMethod yX0_likeness, Cond.selects RX0 yX0_likeness yX0_likeness, Cond.code yX0_likeness cX0_likeness 3 (some .int), Cond.fieldLink RX0 31 "Waxrow$Figure" "flaw" "I", Cond.fieldLink RX0 34 "Waxrow$Figure" "wear" "I", Cond.fieldLink RX0 15 "Waxrow$Figure" "body" "LWaxrow$Person;", Cond.methodLink RX0 56 yX0_isDone, Cond.methodLink RX0 60 yX2_doubleHeight, Cond.instanceMethod yX2_doubleHeight, Cond.selects RX2 yX2_doubleHeight yX2_doubleHeight, Cond.initialized RX2]
def wsX4_many_r4 : List Cond := [Cond.code yX2_doubleHeight cX2_doubleHeight 1 (some .int), Cond.fieldLink RX2 22 "Waxrow$Person" "low" "[I", Cond.fieldLink RX2 25 "Waxrow$Person" "high" "[I"]
def wsX4_many : List Cond := .code yX4_many cX4_many 2 (some .int) :: ((wsX4_many_r1 ++ (wsX4_many_r2 ++ (wsX4_many_r3 ++ wsX4_many_r4))) ++ wsX40 ++ wsX10 ++ wsX00 ++ wsX20 ++ (vx_atS RX4 117 "java/lang/IllegalArgumentException" ["java/lang/RuntimeException", "java/lang/Exception"]).filter goodWord)
def wsX4_meanLikeness_r1 : List Cond := [Cond.fieldLink RX4 10 "Waxrow" "house" "LWaxrow$House;", Cond.methodLink RX4 165 yX1_figuresIn, Cond.instanceMethod yX1_figuresIn, Cond.selects RX1 yX1_figuresIn yX1_figuresIn, Cond.initialized RX1, Cond.code yX1_figuresIn cX1_figuresIn 5 (some .int), Cond.fieldLink RX1 49 "Waxrow$House" "figureCount" "I", Cond.fieldLink RX1 22 "Waxrow$House" "figures" "[LWaxrow$Figure;", Cond.fieldLink RX1 107 "Waxrow$Figure" "place" "I", Cond.methodLink RX4 225 yX1_likenessShown, Cond.instanceMethod yX1_likenessShown, Cond.selects RX1 yX1_likenessShown yX1_likenessShown, Cond.code yX1_likenessShown cX1_likenessShown 3 (some .int), Cond.methodLink RX1 103 yX0_isShown, Cond.instanceMethod yX0_isShown, Cond.selects RX0 yX0_isShown yX0_isShown, Cond.initialized RX0, Cond.code yX0_isShown cX0_isShown 1 (some .boolean), Cond.fieldLink RX0 18 "Waxrow$Figure" "place" "I", Cond.methodLink RX1 126 yX0_likeness, Cond.instanceMethod yX0_likeness, Cond.selects RX0 yX0_likeness yX0_likeness, Cond.code yX0_likeness cX0_likeness 3 (some .int), Cond.fieldLink RX0 31 "Waxrow$Figure" "flaw" "I"]
def wsX4_meanLikeness_r2 : List Cond := [Cond.fieldLink RX0 34 "Waxrow$Figure" "wear" "I", Cond.fieldLink RX0 9 "Waxrow$Figure" "head" "LWaxrow$Person;", Cond.fieldLink RX0 15 "Waxrow$Figure" "body" "LWaxrow$Person;", Cond.methodLink RX0 56 yX0_isDone, Cond.instanceMethod yX0_isDone, Cond.selects RX0 yX0_isDone yX0_isDone, Cond.code yX0_isDone cX0_isDone 1 (some .boolean), Cond.fieldLink RX0 22 "Waxrow$Figure" "step" "I", Cond.methodLink RX0 60 yX2_doubleHeight, Cond.instanceMethod yX2_doubleHeight, Cond.selects RX2 yX2_doubleHeight yX2_doubleHeight, Cond.initialized RX2, Cond.code yX2_doubleHeight cX2_doubleHeight 1 (some .int), Cond.fieldLink RX2 22 "Waxrow$Person" "low" "[I", Cond.fieldLink RX2 25 "Waxrow$Person" "high" "[I"]
def wsX4_meanLikeness : List Cond := .code yX4_meanLikeness cX4_meanLikeness 2 (some .double) :: ((wsX4_meanLikeness_r1 ++ wsX4_meanLikeness_r2) ++ wsX40 ++ wsX10 ++ wsX00 ++ wsX20)
def wsX4_wouldFame_r1 : List Cond := [Cond.fieldLink RX4 10 "Waxrow" "house" "LWaxrow$House;", Cond.methodLink RX4 35 yX1_personAt, Cond.instanceMethod yX1_personAt, Cond.selects RX1 yX1_personAt yX1_personAt, Cond.initialized RX1, Cond.code yX1_personAt cX1_personAt 2 (some (.object "Waxrow$Person")), Cond.fieldLink RX1 46 "Waxrow$House" "personCount" "I", Cond.fieldLink RX1 11 "Waxrow$House" "persons" "[LWaxrow$Person;", Cond.static yX4_checkIndex, Cond.initialized RX4, Cond.code yX4_checkIndex cX4_checkIndex 2 none, Cond.classLink RX4 279 "java/lang/IndexOutOfBoundsException", Cond.initialized "java/lang/IndexOutOfBoundsException", Cond.methodLink RX4 39 yX4_checkIndex, Cond.methodLink RX4 19 yX4_checkArgument, Cond.static yX4_checkArgument, Cond.code yX4_checkArgument cX4_checkArgument 3 none, Cond.classLink RX4 113 "java/lang/IllegalArgumentException", Cond.initialized "java/lang/IllegalArgumentException", Cond.methodLink RX4 228 yX2_fameBehind, Cond.instanceMethod yX2_fameBehind, Cond.selects RX2 yX2_fameBehind yX2_fameBehind, Cond.initialized RX2, Cond.code yX2_fameBehind cX2_fameBehind 6 (some .int)]
def wsX4_wouldFame_r2 : List Cond := [Cond.fieldLink RX2 15 "Waxrow$Person" "fame" "[I", Cond.fieldLink RX2 19 "Waxrow$Person" "trend" "[I", Cond.methodLink RX2 38 yX2_heldFame, Cond.static yX2_heldFame, Cond.code yX2_heldFame cX2_heldFame 1 (some .int), Cond.methodLink RX2 42 yX2_nearerToZero, Cond.static yX2_nearerToZero, Cond.code yX2_nearerToZero cX2_nearerToZero 1 (some .int)]
def wsX4_wouldFame : List Cond := .code yX4_wouldFame cX4_wouldFame 5 (some .int) :: ((wsX4_wouldFame_r1 ++ wsX4_wouldFame_r2) ++ wsX40 ++ wsX10 ++ wsX20 ++ (vx_atS RX4 283 "java/lang/IndexOutOfBoundsException" ["java/lang/RuntimeException", "java/lang/Exception"]).filter goodWord ++ (vx_atS RX4 117 "java/lang/IllegalArgumentException" ["java/lang/RuntimeException", "java/lang/Exception"]).filter goodWord)
def wsX4_readyIn_r1 : List Cond := [Cond.fieldLink RX4 10 "Waxrow" "house" "LWaxrow$House;", Cond.methodLink RX4 94 yX1_figureAt, Cond.instanceMethod yX1_figureAt, Cond.selects RX1 yX1_figureAt yX1_figureAt, Cond.initialized RX1, Cond.code yX1_figureAt cX1_figureAt 2 (some (.object "Waxrow$Figure")), Cond.fieldLink RX1 49 "Waxrow$House" "figureCount" "I", Cond.fieldLink RX1 22 "Waxrow$House" "figures" "[LWaxrow$Figure;", Cond.static yX4_checkIndex, Cond.initialized RX4, Cond.code yX4_checkIndex cX4_checkIndex 2 none, Cond.classLink RX4 279 "java/lang/IndexOutOfBoundsException", Cond.initialized "java/lang/IndexOutOfBoundsException", Cond.methodLink RX4 231 yX0_daysTillDone, Cond.instanceMethod yX0_daysTillDone, Cond.selects RX0 yX0_daysTillDone yX0_daysTillDone, Cond.initialized RX0, Cond.code yX0_daysTillDone cX0_daysTillDone 3 (some .int), Cond.fieldLink RX0 18 "Waxrow$Figure" "place" "I", Cond.fieldLink RX0 28 "Waxrow$Figure" "hands" "I", Cond.fieldLink RX0 25 "Waxrow$Figure" "workInStep" "I", Cond.fieldLink RX0 22 "Waxrow$Figure" "step" "I", Cond.methodLink RX0 56 yX0_isDone, Cond.instanceMethod yX0_isDone]
def wsX4_readyIn_r2 : List Cond := [Cond.selects RX0 yX0_isDone yX0_isDone, Cond.code yX0_isDone cX0_isDone 1 (some .boolean)]
def wsX4_readyIn : List Cond := .code yX4_readyIn cX4_readyIn 2 (some .int) :: ((wsX4_readyIn_r1 ++ wsX4_readyIn_r2) ++ wsX40 ++ wsX10 ++ wsX00 ++ (vx_atS RX4 283 "java/lang/IndexOutOfBoundsException" ["java/lang/RuntimeException", "java/lang/Exception"]).filter goodWord)
def wsX4_meltsIn_r1 : List Cond := [Cond.fieldLink RX4 10 "Waxrow" "house" "LWaxrow$House;", Cond.fieldLink RX4 16 "Waxrow" "trial" "LWaxrow$House;", Cond.fieldLink RX4 110 "Waxrow$Figure" "place" "I", Cond.methodLink RX4 94 yX1_figureAt, Cond.instanceMethod yX1_figureAt, Cond.selects RX1 yX1_figureAt yX1_figureAt, Cond.initialized RX1, Cond.code yX1_figureAt cX1_figureAt 2 (some (.object "Waxrow$Figure")), Cond.fieldLink RX1 49 "Waxrow$House" "figureCount" "I", Cond.fieldLink RX1 22 "Waxrow$House" "figures" "[LWaxrow$Figure;", Cond.static yX4_checkIndex, Cond.initialized RX4, Cond.code yX4_checkIndex cX4_checkIndex 2 none, Cond.classLink RX4 279 "java/lang/IndexOutOfBoundsException", Cond.initialized "java/lang/IndexOutOfBoundsException", Cond.methodLink RX4 19 yX4_checkArgument, Cond.static yX4_checkArgument, Cond.code yX4_checkArgument cX4_checkArgument 3 none, Cond.classLink RX4 113 "java/lang/IllegalArgumentException", Cond.initialized "java/lang/IllegalArgumentException", Cond.methodLink RX4 177 yX0_isShown, Cond.instanceMethod yX0_isShown, Cond.selects RX0 yX0_isShown yX0_isShown, Cond.initialized RX0]
def wsX4_meltsIn_r2 : List Cond := [Cond.code yX0_isShown cX0_isShown 1 (some .boolean), Cond.fieldLink RX0 18 "Waxrow$Figure" "place" "I", Cond.methodLink RX4 234 yX1_copyFrom, Cond.instanceMethod yX1_copyFrom, Cond.selects RX1 yX1_copyFrom yX1_copyFrom, Cond.code yX1_copyFrom cX1_copyFrom 4 none, Cond.fieldLink RX1 46 "Waxrow$House" "personCount" "I", Cond.fieldLink RX1 52 "Waxrow$House" "roomCount" "I", Cond.fieldLink RX1 55 "Waxrow$House" "day" "I", Cond.fieldLink RX1 36 "Waxrow$House" "money" "I", Cond.fieldLink RX1 40 "Waxrow$House" "wax" "I", Cond.fieldLink RX1 43 "Waxrow$House" "price" "I", Cond.fieldLink RX1 58 "Waxrow$House" "came" "I", Cond.fieldLink RX1 11 "Waxrow$House" "persons" "[LWaxrow$Person;", Cond.fieldLink RX1 64 "Waxrow$Figure" "head" "LWaxrow$Person;", Cond.fieldLink RX1 68 "Waxrow$Person" "number" "I", Cond.fieldLink RX1 75 "Waxrow$Figure" "body" "LWaxrow$Person;", Cond.fieldLink RX1 31 "Waxrow$House" "rooms" "[LWaxrow$Room;", Cond.fieldLink RX1 81 "Waxrow$Room" "lamps" "I", Cond.fieldLink RX1 84 "Waxrow$Room" "spots" "I", Cond.methodLink RX1 61 yX2_copyFrom, Cond.instanceMethod yX2_copyFrom, Cond.selects RX2 yX2_copyFrom yX2_copyFrom, Cond.initialized RX2]
def wsX4_meltsIn_r3 : List Cond := [Cond.code yX2_copyFrom cX2_copyFrom 3 none, Cond.fieldLink RX2 15 "Waxrow$Person" "fame" "[I", Cond.fieldLink RX2 19 "Waxrow$Person" "trend" "[I", Cond.fieldLink RX2 22 "Waxrow$Person" "low" "[I", Cond.fieldLink RX2 25 "Waxrow$Person" "high" "[I", Cond.fieldLink RX2 28 "Waxrow$Person" "consents" "Z", Cond.fieldLink RX2 32 "Waxrow$Person" "due" "I", Cond.fieldLink RX2 35 "Waxrow$Person" "clashes" "I", Cond.methodLink RX1 71 yX1_personAt, Cond.instanceMethod yX1_personAt, Cond.selects RX1 yX1_personAt yX1_personAt, Cond.code yX1_personAt cX1_personAt 2 (some (.object "Waxrow$Person")), Cond.methodLink RX1 78 yX0_copyFrom, Cond.instanceMethod yX0_copyFrom, Cond.selects RX0 yX0_copyFrom yX0_copyFrom, Cond.code yX0_copyFrom cX0_copyFrom 4 none, Cond.fieldLink RX0 9 "Waxrow$Figure" "head" "LWaxrow$Person;", Cond.fieldLink RX0 15 "Waxrow$Figure" "body" "LWaxrow$Person;", Cond.fieldLink RX0 22 "Waxrow$Figure" "step" "I", Cond.fieldLink RX0 25 "Waxrow$Figure" "workInStep" "I", Cond.fieldLink RX0 28 "Waxrow$Figure" "hands" "I", Cond.fieldLink RX0 31 "Waxrow$Figure" "flaw" "I", Cond.fieldLink RX0 34 "Waxrow$Figure" "wear" "I", Cond.fieldLink RX0 37 "Waxrow$Figure" "tourLand" "I"]
def wsX4_meltsIn_r4 : List Cond := [Cond.fieldLink RX0 40 "Waxrow$Figure" "tourDays" "I", Cond.fieldLink RX0 43 "Waxrow$Figure" "touched" "I", Cond.methodLink RX4 186 yX1_passDay, Cond.instanceMethod yX1_passDay, Cond.selects RX1 yX1_passDay yX1_passDay, Cond.code yX1_passDay cX1_passDay 7 (some .int), Cond.methodLink RX1 135 yX1_beginMonthOfAll, Cond.instanceMethod yX1_beginMonthOfAll, Cond.selects RX1 yX1_beginMonthOfAll yX1_beginMonthOfAll, Cond.code yX1_beginMonthOfAll cX1_beginMonthOfAll 2 none, Cond.methodLink RX1 151 yX2_beginMonth, Cond.instanceMethod yX2_beginMonth, Cond.selects RX2 yX2_beginMonth yX2_beginMonth, Cond.code yX2_beginMonth cX2_beginMonth 2 none, Cond.methodLink RX2 38 yX2_heldFame, Cond.static yX2_heldFame, Cond.code yX2_heldFame cX2_heldFame 1 (some .int), Cond.methodLink RX2 42 yX2_nearerToZero, Cond.static yX2_nearerToZero, Cond.code yX2_nearerToZero cX2_nearerToZero 1 (some .int), Cond.methodLink RX1 138 yX1_workOnAll, Cond.instanceMethod yX1_workOnAll, Cond.selects RX1 yX1_workOnAll yX1_workOnAll, Cond.code yX1_workOnAll cX1_workOnAll 3 (some .int)]
def wsX4_meltsIn_r5 : List Cond := [Cond.methodLink RX1 154 yX0_workDay, Cond.instanceMethod yX0_workDay, Cond.selects RX0 yX0_workDay yX0_workDay, Cond.code yX0_workDay cX0_workDay 1 (some .boolean), Cond.methodLink RX0 50 yX2_doubt, Cond.instanceMethod yX2_doubt, Cond.selects RX2 yX2_doubt yX2_doubt, Cond.code yX2_doubt cX2_doubt 3 (some .int), Cond.methodLink RX1 141 yX1_drawsIn, Cond.instanceMethod yX1_drawsIn, Cond.selects RX1 yX1_drawsIn yX1_drawsIn, Cond.code yX1_drawsIn cX1_drawsIn 5 (some .int), Cond.fieldLink RX1 107 "Waxrow$Figure" "place" "I", Cond.methodLink RX1 122 yX0_draw, Cond.instanceMethod yX0_draw, Cond.selects RX0 yX0_draw yX0_draw, Cond.code yX0_draw cX0_draw 1 (some .int), Cond.fieldLink RX0 66 "Waxrow$Person" "fame" "[I", Cond.methodLink RX0 63 yX0_isShown, Cond.methodLink RX0 69 yX0_likeness, Cond.instanceMethod yX0_likeness, Cond.selects RX0 yX0_likeness yX0_likeness, Cond.code yX0_likeness cX0_likeness 3 (some .int), Cond.methodLink RX0 56 yX0_isDone]
def wsX4_meltsIn_r6 : List Cond := [Cond.instanceMethod yX0_isDone, Cond.selects RX0 yX0_isDone yX0_isDone, Cond.code yX0_isDone cX0_isDone 1 (some .boolean), Cond.methodLink RX0 60 yX2_doubleHeight, Cond.instanceMethod yX2_doubleHeight, Cond.selects RX2 yX2_doubleHeight yX2_doubleHeight, Cond.code yX2_doubleHeight cX2_doubleHeight 1 (some .int), Cond.methodLink RX1 144 yX1_wearAllShown, Cond.instanceMethod yX1_wearAllShown, Cond.selects RX1 yX1_wearAllShown yX1_wearAllShown, Cond.code yX1_wearAllShown cX1_wearAllShown 8 (some .int), Cond.methodLink RX1 103 yX0_isShown, Cond.methodLink RX1 99 yX1_roomAt, Cond.instanceMethod yX1_roomAt, Cond.selects RX1 yX1_roomAt yX1_roomAt, Cond.code yX1_roomAt cX1_roomAt 2 (some (.object "Waxrow$Room")), Cond.methodLink RX1 157 yX0_wearDay, Cond.instanceMethod yX0_wearDay, Cond.selects RX0 yX0_wearDay yX0_wearDay, Cond.code yX0_wearDay cX0_wearDay 5 (some .boolean), Cond.fieldLink RX0 72 "Waxrow$Person" "due" "I", Cond.methodLink RX0 75 Lib.Math.min.name, Cond.static Lib.Math.min.name, Cond.initialized "java/lang/Math"]
def wsX4_meltsIn_r7 : List Cond := [Cond.code Lib.Math.min.name Lib.Math.min.code 2 (some .int), Cond.methodLink RX0 81 yX0_becomeMelted, Cond.instanceMethod yX0_becomeMelted, Cond.selects RX0 yX0_becomeMelted yX0_becomeMelted, Cond.code yX0_becomeMelted cX0_becomeMelted 1 none, Cond.methodLink RX1 148 yX1_tourWithAll, Cond.instanceMethod yX1_tourWithAll, Cond.selects RX1 yX1_tourWithAll yX1_tourWithAll, Cond.code yX1_tourWithAll cX1_tourWithAll 2 none, Cond.methodLink RX1 161 yX0_tourDay, Cond.instanceMethod yX0_tourDay, Cond.selects RX0 yX0_tourDay yX0_tourDay, Cond.code yX0_tourDay cX0_tourDay 2 (some .int)]
def wsX4_meltsIn : List Cond := .code yX4_meltsIn cX4_meltsIn 7 (some .int) :: ((wsX4_meltsIn_r1 ++ (wsX4_meltsIn_r2 ++ (wsX4_meltsIn_r3 ++ (wsX4_meltsIn_r4 ++ (wsX4_meltsIn_r5 ++ (wsX4_meltsIn_r6 ++ wsX4_meltsIn_r7)))))) ++ wsX40 ++ wsX00 ++ wsX10 ++ wsX20 ++ wsX30 ++ (vx_atS RX4 283 "java/lang/IndexOutOfBoundsException" ["java/lang/RuntimeException", "java/lang/Exception"]).filter goodWord ++ (vx_atS RX4 117 "java/lang/IllegalArgumentException" ["java/lang/RuntimeException", "java/lang/Exception"]).filter goodWord)
def wsX4_bestNext_r1 : List Cond := [Cond.fieldLink RX4 10 "Waxrow" "house" "LWaxrow$House;", Cond.fieldLink RX4 23 "Waxrow$House" "personCount" "I", Cond.fieldLink RX4 56 "Waxrow$Person" "consents" "Z", Cond.methodLink RX4 35 yX1_personAt, Cond.instanceMethod yX1_personAt, Cond.selects RX1 yX1_personAt yX1_personAt, Cond.initialized RX1, Cond.code yX1_personAt cX1_personAt 2 (some (.object "Waxrow$Person")), Cond.fieldLink RX1 46 "Waxrow$House" "personCount" "I", Cond.fieldLink RX1 11 "Waxrow$House" "persons" "[LWaxrow$Person;", Cond.static yX4_checkIndex, Cond.initialized RX4, Cond.code yX4_checkIndex cX4_checkIndex 2 none, Cond.classLink RX4 279 "java/lang/IndexOutOfBoundsException", Cond.initialized "java/lang/IndexOutOfBoundsException", Cond.methodLink RX4 238 yX1_hasFigureOf, Cond.instanceMethod yX1_hasFigureOf, Cond.selects RX1 yX1_hasFigureOf yX1_hasFigureOf, Cond.code yX1_hasFigureOf cX1_hasFigureOf 3 (some .boolean), Cond.fieldLink RX1 49 "Waxrow$House" "figureCount" "I", Cond.fieldLink RX1 22 "Waxrow$House" "figures" "[LWaxrow$Figure;", Cond.fieldLink RX1 64 "Waxrow$Figure" "head" "LWaxrow$Person;", Cond.fieldLink RX1 107 "Waxrow$Figure" "place" "I", Cond.methodLink RX4 228 yX2_fameBehind]
def wsX4_bestNext_r2 : List Cond := [Cond.instanceMethod yX2_fameBehind, Cond.selects RX2 yX2_fameBehind yX2_fameBehind, Cond.initialized RX2, Cond.code yX2_fameBehind cX2_fameBehind 6 (some .int), Cond.fieldLink RX2 15 "Waxrow$Person" "fame" "[I", Cond.fieldLink RX2 19 "Waxrow$Person" "trend" "[I", Cond.methodLink RX2 38 yX2_heldFame, Cond.static yX2_heldFame, Cond.code yX2_heldFame cX2_heldFame 1 (some .int), Cond.methodLink RX2 42 yX2_nearerToZero, Cond.static yX2_nearerToZero, Cond.code yX2_nearerToZero cX2_nearerToZero 1 (some .int), Cond.methodLink RX4 189 yX2_doubt, Cond.instanceMethod yX2_doubt, Cond.selects RX2 yX2_doubt yX2_doubt, Cond.code yX2_doubt cX2_doubt 3 (some .int), Cond.fieldLink RX2 25 "Waxrow$Person" "high" "[I", Cond.fieldLink RX2 22 "Waxrow$Person" "low" "[I"]
def wsX4_bestNext : List Cond := .code yX4_bestNext cX4_bestNext 8 (some .int) :: ((wsX4_bestNext_r1 ++ wsX4_bestNext_r2) ++ wsX40 ++ wsX10 ++ wsX20 ++ wsX00 ++ (vx_atS RX4 283 "java/lang/IndexOutOfBoundsException" ["java/lang/RuntimeException", "java/lang/Exception"]).filter goodWord)
def wsX4_digestWithPerson_r1 : List Cond := [Cond.constantLong RX4 244 (31), Cond.methodLink RX4 269 yX4_ofPerson, Cond.instanceMethod yX4_ofPerson, Cond.selects RX4 yX4_ofPerson yX4_ofPerson, Cond.initialized RX4, Cond.code yX4_ofPerson cX4_ofPerson 4 (some .int), Cond.fieldLink RX4 10 "Waxrow" "house" "LWaxrow$House;", Cond.fieldLink RX4 53 "Waxrow$Person" "fame" "[I", Cond.fieldLink RX4 43 "Waxrow$Person" "trend" "[I", Cond.fieldLink RX4 56 "Waxrow$Person" "consents" "Z", Cond.fieldLink RX4 82 "Waxrow$Person" "due" "I", Cond.fieldLink RX4 192 "Waxrow$Person" "clashes" "I", Cond.methodLink RX4 35 yX1_personAt, Cond.instanceMethod yX1_personAt, Cond.selects RX1 yX1_personAt yX1_personAt, Cond.initialized RX1, Cond.code yX1_personAt cX1_personAt 2 (some (.object "Waxrow$Person")), Cond.fieldLink RX1 46 "Waxrow$House" "personCount" "I", Cond.fieldLink RX1 11 "Waxrow$House" "persons" "[LWaxrow$Person;", Cond.static yX4_checkIndex, Cond.code yX4_checkIndex cX4_checkIndex 2 none, Cond.classLink RX4 279 "java/lang/IndexOutOfBoundsException", Cond.initialized "java/lang/IndexOutOfBoundsException", Cond.methodLink RX4 19 yX4_checkArgument]
def wsX4_digestWithPerson_r2 : List Cond := [Cond.static yX4_checkArgument, Cond.code yX4_checkArgument cX4_checkArgument 3 none, Cond.classLink RX4 113 "java/lang/IllegalArgumentException", Cond.initialized "java/lang/IllegalArgumentException", Cond.methodLink RX4 189 yX2_doubt, Cond.instanceMethod yX2_doubt, Cond.selects RX2 yX2_doubt yX2_doubt, Cond.initialized RX2, Cond.code yX2_doubt cX2_doubt 3 (some .int), Cond.fieldLink RX2 25 "Waxrow$Person" "high" "[I", Cond.fieldLink RX2 22 "Waxrow$Person" "low" "[I", Cond.methodLink RX4 171 yX1_shownOf, Cond.instanceMethod yX1_shownOf, Cond.selects RX1 yX1_shownOf yX1_shownOf, Cond.code yX1_shownOf cX1_shownOf 3 (some .int), Cond.fieldLink RX1 49 "Waxrow$House" "figureCount" "I", Cond.fieldLink RX1 22 "Waxrow$House" "figures" "[LWaxrow$Figure;", Cond.fieldLink RX1 64 "Waxrow$Figure" "head" "LWaxrow$Person;", Cond.methodLink RX1 103 yX0_isShown, Cond.instanceMethod yX0_isShown, Cond.selects RX0 yX0_isShown yX0_isShown, Cond.initialized RX0, Cond.code yX0_isShown cX0_isShown 1 (some .boolean), Cond.fieldLink RX0 18 "Waxrow$Figure" "place" "I"]
def wsX4_digestWithPerson_r3 : List Cond := [Cond.methodLink RX4 272 yX4_known, Cond.instanceMethod yX4_known, Cond.selects RX4 yX4_known yX4_known, Cond.code yX4_known cX4_known 5 (some .int), Cond.fieldLink RX4 76 "Waxrow$Person" "high" "[I", Cond.fieldLink RX4 79 "Waxrow$Person" "low" "[I", Cond.methodLink RX4 39 yX4_checkIndex, Cond.methodLink RX4 276 yX4_wouldFame, Cond.instanceMethod yX4_wouldFame, Cond.selects RX4 yX4_wouldFame yX4_wouldFame, Cond.code yX4_wouldFame cX4_wouldFame 5 (some .int), Cond.methodLink RX4 228 yX2_fameBehind, Cond.instanceMethod yX2_fameBehind, Cond.selects RX2 yX2_fameBehind yX2_fameBehind, Cond.code yX2_fameBehind cX2_fameBehind 6 (some .int), Cond.fieldLink RX2 15 "Waxrow$Person" "fame" "[I", Cond.fieldLink RX2 19 "Waxrow$Person" "trend" "[I", Cond.methodLink RX2 38 yX2_heldFame, Cond.static yX2_heldFame, Cond.code yX2_heldFame cX2_heldFame 1 (some .int), Cond.methodLink RX2 42 yX2_nearerToZero, Cond.static yX2_nearerToZero, Cond.code yX2_nearerToZero cX2_nearerToZero 1 (some .int)]
def wsX4_digestWithPerson : List Cond := .code yX4_digestWithPerson cX4_digestWithPerson 7 (some .long) :: ((wsX4_digestWithPerson_r1 ++ (wsX4_digestWithPerson_r2 ++ wsX4_digestWithPerson_r3)) ++ wsX40 ++ wsX20 ++ wsX10 ++ wsX00 ++ (vx_atS RX4 283 "java/lang/IndexOutOfBoundsException" ["java/lang/RuntimeException", "java/lang/Exception"]).filter goodWord ++ (vx_atS RX4 117 "java/lang/IllegalArgumentException" ["java/lang/RuntimeException", "java/lang/Exception"]).filter goodWord)
def wsX4_digest_r1 : List Cond := [Cond.constantLong RX4 242 (58234), Cond.constantLong RX4 244 (31), Cond.fieldLink RX4 10 "Waxrow" "house" "LWaxrow$House;", Cond.fieldLink RX4 23 "Waxrow$House" "personCount" "I", Cond.fieldLink RX4 88 "Waxrow$House" "figureCount" "I", Cond.fieldLink RX4 150 "Waxrow$House" "roomCount" "I", Cond.methodLink RX4 246 yX4_many, Cond.instanceMethod yX4_many, Cond.selects RX4 yX4_many yX4_many, Cond.initialized RX4, Cond.code yX4_many cX4_many 2 (some .int), Cond.fieldLink RX4 213 "Waxrow$House" "day" "I", Cond.fieldLink RX4 85 "Waxrow$House" "money" "I", Cond.fieldLink RX4 134 "Waxrow$House" "wax" "I", Cond.fieldLink RX4 222 "Waxrow$House" "came" "I", Cond.fieldLink RX4 183 "Waxrow$House" "price" "I", Cond.methodLink RX4 19 yX4_checkArgument, Cond.static yX4_checkArgument, Cond.code yX4_checkArgument cX4_checkArgument 3 none, Cond.classLink RX4 113 "java/lang/IllegalArgumentException", Cond.initialized "java/lang/IllegalArgumentException", Cond.methodLink RX4 216 yX1_figuresDone, Cond.instanceMethod yX1_figuresDone, Cond.selects RX1 yX1_figuresDone yX1_figuresDone]
def wsX4_digest_r2 : List Cond := [Cond.initialized RX1, Cond.code yX1_figuresDone cX1_figuresDone 3 (some .int), Cond.fieldLink RX1 49 "Waxrow$House" "figureCount" "I", Cond.fieldLink RX1 22 "Waxrow$House" "figures" "[LWaxrow$Figure;", Cond.methodLink RX1 119 yX0_isDone, Cond.instanceMethod yX0_isDone, Cond.selects RX0 yX0_isDone yX0_isDone, Cond.initialized RX0, Cond.code yX0_isDone cX0_isDone 1 (some .boolean), Cond.fieldLink RX0 22 "Waxrow$Figure" "step" "I", Cond.fieldLink RX0 18 "Waxrow$Figure" "place" "I", Cond.methodLink RX4 165 yX1_figuresIn, Cond.instanceMethod yX1_figuresIn, Cond.selects RX1 yX1_figuresIn yX1_figuresIn, Cond.code yX1_figuresIn cX1_figuresIn 5 (some .int), Cond.fieldLink RX1 107 "Waxrow$Figure" "place" "I", Cond.methodLink RX4 219 yX1_allDue, Cond.instanceMethod yX1_allDue, Cond.selects RX1 yX1_allDue yX1_allDue, Cond.code yX1_allDue cX1_allDue 3 (some .int), Cond.fieldLink RX1 46 "Waxrow$House" "personCount" "I", Cond.fieldLink RX1 11 "Waxrow$House" "persons" "[LWaxrow$Person;", Cond.fieldLink RX1 129 "Waxrow$Person" "due" "I", Cond.methodLink RX4 98 yX1_allHands]
def wsX4_digest_r3 : List Cond := [Cond.instanceMethod yX1_allHands, Cond.selects RX1 yX1_allHands yX1_allHands, Cond.code yX1_allHands cX1_allHands 3 (some .int), Cond.fieldLink RX1 132 "Waxrow$Figure" "hands" "I", Cond.methodLink RX4 210 yX1_drawsIn, Cond.instanceMethod yX1_drawsIn, Cond.selects RX1 yX1_drawsIn yX1_drawsIn, Cond.code yX1_drawsIn cX1_drawsIn 5 (some .int), Cond.methodLink RX1 122 yX0_draw, Cond.instanceMethod yX0_draw, Cond.selects RX0 yX0_draw yX0_draw, Cond.code yX0_draw cX0_draw 1 (some .int), Cond.fieldLink RX0 9 "Waxrow$Figure" "head" "LWaxrow$Person;", Cond.fieldLink RX0 66 "Waxrow$Person" "fame" "[I", Cond.methodLink RX0 63 yX0_isShown, Cond.instanceMethod yX0_isShown, Cond.selects RX0 yX0_isShown yX0_isShown, Cond.code yX0_isShown cX0_isShown 1 (some .boolean), Cond.methodLink RX0 69 yX0_likeness, Cond.instanceMethod yX0_likeness, Cond.selects RX0 yX0_likeness yX0_likeness, Cond.code yX0_likeness cX0_likeness 3 (some .int), Cond.fieldLink RX0 31 "Waxrow$Figure" "flaw" "I", Cond.fieldLink RX0 34 "Waxrow$Figure" "wear" "I"]
def wsX4_digest_r4 : List Cond := [Cond.fieldLink RX0 15 "Waxrow$Figure" "body" "LWaxrow$Person;", Cond.methodLink RX0 56 yX0_isDone, Cond.methodLink RX0 60 yX2_doubleHeight, Cond.instanceMethod yX2_doubleHeight, Cond.selects RX2 yX2_doubleHeight yX2_doubleHeight, Cond.initialized RX2, Cond.code yX2_doubleHeight cX2_doubleHeight 1 (some .int), Cond.fieldLink RX2 22 "Waxrow$Person" "low" "[I", Cond.fieldLink RX2 25 "Waxrow$Person" "high" "[I", Cond.methodLink RX4 250 yX4_digestWithPerson, Cond.instanceMethod yX4_digestWithPerson, Cond.selects RX4 yX4_digestWithPerson yX4_digestWithPerson, Cond.code yX4_digestWithPerson cX4_digestWithPerson 7 (some .long), Cond.methodLink RX4 269 yX4_ofPerson, Cond.instanceMethod yX4_ofPerson, Cond.selects RX4 yX4_ofPerson yX4_ofPerson, Cond.code yX4_ofPerson cX4_ofPerson 4 (some .int), Cond.fieldLink RX4 53 "Waxrow$Person" "fame" "[I", Cond.fieldLink RX4 43 "Waxrow$Person" "trend" "[I", Cond.fieldLink RX4 56 "Waxrow$Person" "consents" "Z", Cond.fieldLink RX4 82 "Waxrow$Person" "due" "I", Cond.fieldLink RX4 192 "Waxrow$Person" "clashes" "I", Cond.methodLink RX4 35 yX1_personAt, Cond.instanceMethod yX1_personAt]
def wsX4_digest_r5 : List Cond := [Cond.selects RX1 yX1_personAt yX1_personAt, Cond.code yX1_personAt cX1_personAt 2 (some (.object "Waxrow$Person")), Cond.static yX4_checkIndex, Cond.code yX4_checkIndex cX4_checkIndex 2 none, Cond.classLink RX4 279 "java/lang/IndexOutOfBoundsException", Cond.initialized "java/lang/IndexOutOfBoundsException", Cond.methodLink RX4 189 yX2_doubt, Cond.instanceMethod yX2_doubt, Cond.selects RX2 yX2_doubt yX2_doubt, Cond.code yX2_doubt cX2_doubt 3 (some .int), Cond.methodLink RX4 171 yX1_shownOf, Cond.instanceMethod yX1_shownOf, Cond.selects RX1 yX1_shownOf yX1_shownOf, Cond.code yX1_shownOf cX1_shownOf 3 (some .int), Cond.fieldLink RX1 64 "Waxrow$Figure" "head" "LWaxrow$Person;", Cond.methodLink RX1 103 yX0_isShown, Cond.methodLink RX4 272 yX4_known, Cond.instanceMethod yX4_known, Cond.selects RX4 yX4_known yX4_known, Cond.code yX4_known cX4_known 5 (some .int), Cond.fieldLink RX4 76 "Waxrow$Person" "high" "[I", Cond.fieldLink RX4 79 "Waxrow$Person" "low" "[I", Cond.methodLink RX4 39 yX4_checkIndex, Cond.methodLink RX4 276 yX4_wouldFame]
def wsX4_digest_r6 : List Cond := [Cond.instanceMethod yX4_wouldFame, Cond.selects RX4 yX4_wouldFame yX4_wouldFame, Cond.code yX4_wouldFame cX4_wouldFame 5 (some .int), Cond.methodLink RX4 228 yX2_fameBehind, Cond.instanceMethod yX2_fameBehind, Cond.selects RX2 yX2_fameBehind yX2_fameBehind, Cond.code yX2_fameBehind cX2_fameBehind 6 (some .int), Cond.fieldLink RX2 15 "Waxrow$Person" "fame" "[I", Cond.fieldLink RX2 19 "Waxrow$Person" "trend" "[I", Cond.methodLink RX2 38 yX2_heldFame, Cond.static yX2_heldFame, Cond.code yX2_heldFame cX2_heldFame 1 (some .int), Cond.methodLink RX2 42 yX2_nearerToZero, Cond.static yX2_nearerToZero, Cond.code yX2_nearerToZero cX2_nearerToZero 1 (some .int), Cond.methodLink RX4 254 yX4_ofFigure, Cond.instanceMethod yX4_ofFigure, Cond.selects RX4 yX4_ofFigure yX4_ofFigure, Cond.code yX4_ofFigure cX4_ofFigure 4 (some .int), Cond.fieldLink RX4 140 "Waxrow$Figure" "head" "LWaxrow$Person;", Cond.fieldLink RX4 195 "Waxrow$Person" "number" "I", Cond.fieldLink RX4 198 "Waxrow$Figure" "body" "LWaxrow$Person;", Cond.fieldLink RX4 107 "Waxrow$Figure" "step" "I", Cond.fieldLink RX4 102 "Waxrow$Figure" "hands" "I"]
def wsX4_digest_r7 : List Cond := [Cond.fieldLink RX4 204 "Waxrow$Figure" "flaw" "I", Cond.fieldLink RX4 131 "Waxrow$Figure" "wear" "I", Cond.fieldLink RX4 110 "Waxrow$Figure" "place" "I", Cond.fieldLink RX4 147 "Waxrow$Figure" "tourDays" "I", Cond.fieldLink RX4 207 "Waxrow$Figure" "touched" "I", Cond.methodLink RX4 94 yX1_figureAt, Cond.instanceMethod yX1_figureAt, Cond.selects RX1 yX1_figureAt yX1_figureAt, Cond.code yX1_figureAt cX1_figureAt 2 (some (.object "Waxrow$Figure")), Cond.methodLink RX4 201 yX0_workLeftInStep, Cond.instanceMethod yX0_workLeftInStep, Cond.selects RX0 yX0_workLeftInStep yX0_workLeftInStep, Cond.code yX0_workLeftInStep cX0_workLeftInStep 1 (some .int), Cond.fieldLink RX0 25 "Waxrow$Figure" "workInStep" "I", Cond.methodLink RX4 128 yX0_likeness, Cond.methodLink RX4 174 yX0_draw, Cond.methodLink RX4 257 yX4_readyIn, Cond.instanceMethod yX4_readyIn, Cond.selects RX4 yX4_readyIn yX4_readyIn, Cond.code yX4_readyIn cX4_readyIn 2 (some .int), Cond.methodLink RX4 231 yX0_daysTillDone, Cond.instanceMethod yX0_daysTillDone, Cond.selects RX0 yX0_daysTillDone yX0_daysTillDone, Cond.code yX0_daysTillDone cX0_daysTillDone 3 (some .int)]
def wsX4_digest_r8 : List Cond := [Cond.fieldLink RX0 28 "Waxrow$Figure" "hands" "I", Cond.methodLink RX4 260 yX4_meltsIn, Cond.instanceMethod yX4_meltsIn, Cond.selects RX4 yX4_meltsIn yX4_meltsIn, Cond.code yX4_meltsIn cX4_meltsIn 7 (some .int), Cond.fieldLink RX4 16 "Waxrow" "trial" "LWaxrow$House;", Cond.methodLink RX4 177 yX0_isShown, Cond.methodLink RX4 234 yX1_copyFrom, Cond.instanceMethod yX1_copyFrom, Cond.selects RX1 yX1_copyFrom yX1_copyFrom, Cond.code yX1_copyFrom cX1_copyFrom 4 none, Cond.fieldLink RX1 52 "Waxrow$House" "roomCount" "I", Cond.fieldLink RX1 55 "Waxrow$House" "day" "I", Cond.fieldLink RX1 36 "Waxrow$House" "money" "I", Cond.fieldLink RX1 40 "Waxrow$House" "wax" "I", Cond.fieldLink RX1 43 "Waxrow$House" "price" "I", Cond.fieldLink RX1 58 "Waxrow$House" "came" "I", Cond.fieldLink RX1 68 "Waxrow$Person" "number" "I", Cond.fieldLink RX1 75 "Waxrow$Figure" "body" "LWaxrow$Person;", Cond.fieldLink RX1 31 "Waxrow$House" "rooms" "[LWaxrow$Room;", Cond.fieldLink RX1 81 "Waxrow$Room" "lamps" "I", Cond.fieldLink RX1 84 "Waxrow$Room" "spots" "I", Cond.methodLink RX1 61 yX2_copyFrom, Cond.instanceMethod yX2_copyFrom]
def wsX4_digest_r9 : List Cond := [Cond.selects RX2 yX2_copyFrom yX2_copyFrom, Cond.code yX2_copyFrom cX2_copyFrom 3 none, Cond.fieldLink RX2 28 "Waxrow$Person" "consents" "Z", Cond.fieldLink RX2 32 "Waxrow$Person" "due" "I", Cond.fieldLink RX2 35 "Waxrow$Person" "clashes" "I", Cond.methodLink RX1 71 yX1_personAt, Cond.methodLink RX1 78 yX0_copyFrom, Cond.instanceMethod yX0_copyFrom, Cond.selects RX0 yX0_copyFrom yX0_copyFrom, Cond.code yX0_copyFrom cX0_copyFrom 4 none, Cond.fieldLink RX0 37 "Waxrow$Figure" "tourLand" "I", Cond.fieldLink RX0 40 "Waxrow$Figure" "tourDays" "I", Cond.fieldLink RX0 43 "Waxrow$Figure" "touched" "I", Cond.methodLink RX4 186 yX1_passDay, Cond.instanceMethod yX1_passDay, Cond.selects RX1 yX1_passDay yX1_passDay, Cond.code yX1_passDay cX1_passDay 7 (some .int), Cond.methodLink RX1 135 yX1_beginMonthOfAll, Cond.instanceMethod yX1_beginMonthOfAll, Cond.selects RX1 yX1_beginMonthOfAll yX1_beginMonthOfAll, Cond.code yX1_beginMonthOfAll cX1_beginMonthOfAll 2 none, Cond.methodLink RX1 151 yX2_beginMonth, Cond.instanceMethod yX2_beginMonth, Cond.selects RX2 yX2_beginMonth yX2_beginMonth]
def wsX4_digest_r10 : List Cond := [Cond.code yX2_beginMonth cX2_beginMonth 2 none, Cond.methodLink RX1 138 yX1_workOnAll, Cond.instanceMethod yX1_workOnAll, Cond.selects RX1 yX1_workOnAll yX1_workOnAll, Cond.code yX1_workOnAll cX1_workOnAll 3 (some .int), Cond.methodLink RX1 154 yX0_workDay, Cond.instanceMethod yX0_workDay, Cond.selects RX0 yX0_workDay yX0_workDay, Cond.code yX0_workDay cX0_workDay 1 (some .boolean), Cond.methodLink RX0 50 yX2_doubt, Cond.methodLink RX1 141 yX1_drawsIn, Cond.methodLink RX1 144 yX1_wearAllShown, Cond.instanceMethod yX1_wearAllShown, Cond.selects RX1 yX1_wearAllShown yX1_wearAllShown, Cond.code yX1_wearAllShown cX1_wearAllShown 8 (some .int), Cond.methodLink RX1 99 yX1_roomAt, Cond.instanceMethod yX1_roomAt, Cond.selects RX1 yX1_roomAt yX1_roomAt, Cond.code yX1_roomAt cX1_roomAt 2 (some (.object "Waxrow$Room")), Cond.methodLink RX1 157 yX0_wearDay, Cond.instanceMethod yX0_wearDay, Cond.selects RX0 yX0_wearDay yX0_wearDay, Cond.code yX0_wearDay cX0_wearDay 5 (some .boolean), Cond.fieldLink RX0 72 "Waxrow$Person" "due" "I"]
def wsX4_digest_r11 : List Cond := [Cond.methodLink RX0 75 Lib.Math.min.name, Cond.static Lib.Math.min.name, Cond.initialized "java/lang/Math", Cond.code Lib.Math.min.name Lib.Math.min.code 2 (some .int), Cond.methodLink RX0 81 yX0_becomeMelted, Cond.instanceMethod yX0_becomeMelted, Cond.selects RX0 yX0_becomeMelted yX0_becomeMelted, Cond.code yX0_becomeMelted cX0_becomeMelted 1 none, Cond.methodLink RX1 148 yX1_tourWithAll, Cond.instanceMethod yX1_tourWithAll, Cond.selects RX1 yX1_tourWithAll yX1_tourWithAll, Cond.code yX1_tourWithAll cX1_tourWithAll 2 none, Cond.methodLink RX1 161 yX0_tourDay, Cond.instanceMethod yX0_tourDay, Cond.selects RX0 yX0_tourDay yX0_tourDay, Cond.code yX0_tourDay cX0_tourDay 2 (some .int), Cond.methodLink RX4 263 yX4_ofRoom, Cond.instanceMethod yX4_ofRoom, Cond.selects RX4 yX4_ofRoom yX4_ofRoom, Cond.code yX4_ofRoom cX4_ofRoom 4 (some .int), Cond.fieldLink RX4 160 "Waxrow$Room" "lamps" "I", Cond.fieldLink RX4 168 "Waxrow$Room" "spots" "I", Cond.methodLink RX4 156 yX1_roomAt, Cond.methodLink RX4 266 yX4_bestNext]
def wsX4_digest_r12 : List Cond := [Cond.instanceMethod yX4_bestNext, Cond.selects RX4 yX4_bestNext yX4_bestNext, Cond.code yX4_bestNext cX4_bestNext 8 (some .int), Cond.methodLink RX4 238 yX1_hasFigureOf, Cond.instanceMethod yX1_hasFigureOf, Cond.selects RX1 yX1_hasFigureOf yX1_hasFigureOf, Cond.code yX1_hasFigureOf cX1_hasFigureOf 3 (some .boolean)]
def wsX4_digest : List Cond := .code yX4_digest cX4_digest 5 (some .long) :: ((wsX4_digest_r1 ++ (wsX4_digest_r2 ++ (wsX4_digest_r3 ++ (wsX4_digest_r4 ++ (wsX4_digest_r5 ++ (wsX4_digest_r6 ++ (wsX4_digest_r7 ++ (wsX4_digest_r8 ++ (wsX4_digest_r9 ++ (wsX4_digest_r10 ++ (wsX4_digest_r11 ++ wsX4_digest_r12))))))))))) ++ wsX40 ++ wsX10 ++ wsX00 ++ wsX20 ++ wsX30 ++ (vx_atS RX4 117 "java/lang/IllegalArgumentException" ["java/lang/RuntimeException", "java/lang/Exception"]).filter goodWord ++ (vx_atS RX4 283 "java/lang/IndexOutOfBoundsException" ["java/lang/RuntimeException", "java/lang/Exception"]).filter goodWord)
def wsX5_init : List Cond := .code yX5_init cX5_init 1 none :: ([.methodLink RX5 3 objectInit, .instanceMethod objectInit, .code objectInit ⟨#[0xb1]⟩ 1 none, .classLink RX5 9 "[[I", .arrayClass .int, .fieldLink RX5 11 "WaxrowModel$House" "persons" "[[I", .fieldLink RX5 16 "WaxrowModel$House" "low" "[[I", .fieldLink RX5 19 "WaxrowModel$House" "high" "[[I", .fieldLink RX5 22 "WaxrowModel$House" "figures" "[[I", .fieldLink RX5 25 "WaxrowModel$House" "lamps" "[I", .fieldLink RX5 29 "WaxrowModel$House" "spots" "[I", .fieldLink RX5 32 "WaxrowModel$House" "price" "I", .fieldLink RX5 36 "WaxrowModel$House" "money" "I", .fieldLink RX5 39 "WaxrowModel$House" "wax" "I"] ++ wsX50)
def wsX5_rows : List Cond := .code yX5_rows cX5_rows 3 none :: ([.methodLink RX5 47 arraycopyName, .native arraycopyName, .static arraycopyName, .initialized "java/lang/System"])
def wsX5_copy_r1 : List Cond := [Cond.classLink RX5 12 RX5, Cond.instantiable RX5 14, Cond.initialized RX5, Cond.fieldLink RX5 11 "WaxrowModel$House" "persons" "[[I", Cond.fieldLink RX5 16 "WaxrowModel$House" "low" "[[I", Cond.fieldLink RX5 19 "WaxrowModel$House" "high" "[[I", Cond.fieldLink RX5 22 "WaxrowModel$House" "figures" "[[I", Cond.fieldLink RX5 25 "WaxrowModel$House" "lamps" "[I", Cond.methodLink RX5 47 arraycopyName, Cond.native arraycopyName, Cond.static arraycopyName, Cond.initialized "java/lang/System", Cond.fieldLink RX5 29 "WaxrowModel$House" "spots" "[I", Cond.fieldLink RX5 53 "WaxrowModel$House" "personCount" "I", Cond.fieldLink RX5 56 "WaxrowModel$House" "figureCount" "I", Cond.fieldLink RX5 59 "WaxrowModel$House" "roomCount" "I", Cond.fieldLink RX5 62 "WaxrowModel$House" "day" "I", Cond.fieldLink RX5 65 "WaxrowModel$House" "came" "I", Cond.fieldLink RX5 32 "WaxrowModel$House" "price" "I", Cond.fieldLink RX5 36 "WaxrowModel$House" "money" "I", Cond.fieldLink RX5 39 "WaxrowModel$House" "wax" "I", Cond.methodLink RX5 42 yX5_init, Cond.instanceMethod yX5_init, Cond.code yX5_init cX5_init 1 none]
def wsX5_copy_r2 : List Cond := [Cond.methodLink RX5 3 objectInit, Cond.instanceMethod objectInit, Cond.code objectInit ⟨#[0xb1]⟩ 1 none, Cond.classLink RX5 9 "[[I", Cond.arrayClass .int, Cond.methodLink RX5 43 yX5_rows, Cond.static yX5_rows, Cond.code yX5_rows cX5_rows 3 none]
def wsX5_copy : List Cond := .code yX5_copy cX5_copy 2 (some (.object "WaxrowModel$House")) :: ((wsX5_copy_r1 ++ wsX5_copy_r2) ++ wsX50)
def wsX5_doubt : List Cond := .code yX5_doubt cX5_doubt 4 (some .int) :: ([.fieldLink RX5 19 "WaxrowModel$House" "high" "[[I", .fieldLink RX5 16 "WaxrowModel$House" "low" "[[I"] ++ wsX50)
def wsX5_height : List Cond := .code yX5_height cX5_height 2 (some .int) :: ([.fieldLink RX5 16 "WaxrowModel$House" "low" "[[I", .fieldLink RX5 19 "WaxrowModel$House" "high" "[[I"] ++ wsX50)
def wsX5_isDone : List Cond := .code yX5_isDone cX5_isDone 2 (some .boolean) :: ([])
def wsX5_likeness : List Cond := .code yX5_likeness cX5_likeness 3 (some .int) :: ([.methodLink RX5 76 Lib.Math.abs.name, .static Lib.Math.abs.name, .initialized "java/lang/Math", .code Lib.Math.abs.name Lib.Math.abs.code 1 (some .int), .methodLink RX5 81 Lib.Math.max.name, .static Lib.Math.max.name, .code Lib.Math.max.name Lib.Math.max.code 2 (some .int), .methodLink RX5 68 yX5_isDone, .instanceMethod yX5_isDone, .selects RX5 yX5_isDone yX5_isDone, .initialized RX5, .code yX5_isDone cX5_isDone 2 (some .boolean), .methodLink RX5 72 yX5_height, .instanceMethod yX5_height, .selects RX5 yX5_height yX5_height, .code yX5_height cX5_height 2 (some .int), .fieldLink RX5 16 "WaxrowModel$House" "low" "[[I", .fieldLink RX5 19 "WaxrowModel$House" "high" "[[I"] ++ wsX50)
def wsX5_isShown : List Cond := .code yX5_isShown cX5_isShown 2 (some .boolean) :: ([])
def wsX5_draw_r1 : List Cond := [Cond.fieldLink RX5 11 "WaxrowModel$House" "persons" "[[I", Cond.methodLink RX5 85 yX5_isShown, Cond.instanceMethod yX5_isShown, Cond.selects RX5 yX5_isShown yX5_isShown, Cond.initialized RX5, Cond.code yX5_isShown cX5_isShown 2 (some .boolean), Cond.methodLink RX5 88 yX5_likeness, Cond.instanceMethod yX5_likeness, Cond.selects RX5 yX5_likeness yX5_likeness, Cond.code yX5_likeness cX5_likeness 3 (some .int), Cond.methodLink RX5 76 Lib.Math.abs.name, Cond.static Lib.Math.abs.name, Cond.initialized "java/lang/Math", Cond.code Lib.Math.abs.name Lib.Math.abs.code 1 (some .int), Cond.methodLink RX5 81 Lib.Math.max.name, Cond.static Lib.Math.max.name, Cond.code Lib.Math.max.name Lib.Math.max.code 2 (some .int), Cond.methodLink RX5 68 yX5_isDone, Cond.instanceMethod yX5_isDone, Cond.selects RX5 yX5_isDone yX5_isDone, Cond.code yX5_isDone cX5_isDone 2 (some .boolean), Cond.methodLink RX5 72 yX5_height, Cond.instanceMethod yX5_height, Cond.selects RX5 yX5_height yX5_height]
def wsX5_draw_r2 : List Cond := [Cond.code yX5_height cX5_height 2 (some .int), Cond.fieldLink RX5 16 "WaxrowModel$House" "low" "[[I", Cond.fieldLink RX5 19 "WaxrowModel$House" "high" "[[I"]
def wsX5_draw : List Cond := .code yX5_draw cX5_draw 2 (some .int) :: ((wsX5_draw_r1 ++ wsX5_draw_r2) ++ wsX50)
def wsX6_in : List Cond := .code yX6_in cX6_in 3 (some .boolean) :: ([])
def wsX5_drawsIn_r1 : List Cond := [Cond.fieldLink RX5 56 "WaxrowModel$House" "figureCount" "I", Cond.fieldLink RX5 22 "WaxrowModel$House" "figures" "[[I", Cond.static yX6_in, Cond.initialized RX6, Cond.code yX6_in cX6_in 3 (some .boolean), Cond.methodLink RX5 96 yX5_draw, Cond.instanceMethod yX5_draw, Cond.selects RX5 yX5_draw yX5_draw, Cond.initialized RX5, Cond.code yX5_draw cX5_draw 2 (some .int), Cond.fieldLink RX5 11 "WaxrowModel$House" "persons" "[[I", Cond.methodLink RX5 85 yX5_isShown, Cond.instanceMethod yX5_isShown, Cond.selects RX5 yX5_isShown yX5_isShown, Cond.code yX5_isShown cX5_isShown 2 (some .boolean), Cond.methodLink RX5 88 yX5_likeness, Cond.instanceMethod yX5_likeness, Cond.selects RX5 yX5_likeness yX5_likeness, Cond.code yX5_likeness cX5_likeness 3 (some .int), Cond.methodLink RX5 76 Lib.Math.abs.name, Cond.static Lib.Math.abs.name, Cond.initialized "java/lang/Math", Cond.code Lib.Math.abs.name Lib.Math.abs.code 1 (some .int), Cond.methodLink RX5 81 Lib.Math.max.name]
def wsX5_drawsIn_r2 : List Cond := [Cond.static Lib.Math.max.name, Cond.code Lib.Math.max.name Lib.Math.max.code 2 (some .int), Cond.methodLink RX5 68 yX5_isDone, Cond.instanceMethod yX5_isDone, Cond.selects RX5 yX5_isDone yX5_isDone, Cond.code yX5_isDone cX5_isDone 2 (some .boolean), Cond.methodLink RX5 72 yX5_height, Cond.instanceMethod yX5_height, Cond.selects RX5 yX5_height yX5_height, Cond.code yX5_height cX5_height 2 (some .int), Cond.fieldLink RX5 16 "WaxrowModel$House" "low" "[[I", Cond.fieldLink RX5 19 "WaxrowModel$House" "high" "[[I"]
def wsX5_drawsIn : List Cond := .code yX5_drawsIn cX5_drawsIn 5 (some .int) :: ((wsX5_drawsIn_r1 ++ wsX5_drawsIn_r2) ++ wsX50)
def wsX5_shownIn : List Cond := .code yX5_shownIn cX5_shownIn 4 (some .int) :: ([.fieldLink RX5 56 "WaxrowModel$House" "figureCount" "I", .fieldLink RX5 22 "WaxrowModel$House" "figures" "[[I"] ++ wsX50)
def wsX5_shownOf : List Cond := .code yX5_shownOf cX5_shownOf 3 (some .int) :: ([.fieldLink RX5 56 "WaxrowModel$House" "figureCount" "I", .fieldLink RX5 22 "WaxrowModel$House" "figures" "[[I", .methodLink RX5 85 yX5_isShown, .instanceMethod yX5_isShown, .selects RX5 yX5_isShown yX5_isShown, .initialized RX5, .code yX5_isShown cX5_isShown 2 (some .boolean)] ++ wsX50)
def wsX5_hands : List Cond := .code yX5_hands cX5_hands 3 (some .int) :: ([.fieldLink RX5 56 "WaxrowModel$House" "figureCount" "I", .fieldLink RX5 22 "WaxrowModel$House" "figures" "[[I"] ++ wsX50)
def wsX6_held : List Cond := .code yX6_held cX6_held 2 (some .int) :: ([.methodLink RX6 20 Lib.Math.min.name, .static Lib.Math.min.name, .initialized "java/lang/Math", .code Lib.Math.min.name Lib.Math.min.code 2 (some .int), .methodLink RX6 26 Lib.Math.max.name, .static Lib.Math.max.name, .code Lib.Math.max.name Lib.Math.max.code 2 (some .int)])
def wsJ6_signum_0f7a4 : List Cond := .code yJ6_signum_0f7a4 cJ6_signum_0f7a4 1 (some .int) :: ([])
def wsX5_month : List Cond := .code yX5_month cX5_month 2 none :: ([.static yX6_held, .initialized RX6, .code yX6_held cX6_held 2 (some .int), .methodLink RX6 20 Lib.Math.min.name, .static Lib.Math.min.name, .initialized "java/lang/Math", .code Lib.Math.min.name Lib.Math.min.code 2 (some .int), .methodLink RX6 26 Lib.Math.max.name, .static Lib.Math.max.name, .code Lib.Math.max.name Lib.Math.max.code 2 (some .int), .methodLink RX5 102 yJ6_signum_0f7a4, .static yJ6_signum_0f7a4, .initialized RJ6, .code yJ6_signum_0f7a4 cJ6_signum_0f7a4 1 (some .int)])
def wsX6_needs : List Cond := .code yX6_needs cX6_needs 2 (some .int) :: ([.arrayClass .int])
def wsX5_work : List Cond := .code yX5_work cX5_work 3 (some .int) :: ([.static yX6_needs, .initialized RX6, .code yX6_needs cX6_needs 2 (some .int), .arrayClass .int, .methodLink RX5 110 yX5_doubt, .instanceMethod yX5_doubt, .selects RX5 yX5_doubt yX5_doubt, .initialized RX5, .code yX5_doubt cX5_doubt 4 (some .int), .fieldLink RX5 19 "WaxrowModel$House" "high" "[[I", .fieldLink RX5 16 "WaxrowModel$House" "low" "[[I"] ++ wsX50)
def wsX5_wear : List Cond := .code yX5_wear cX5_wear 5 (some .int) :: ([.fieldLink RX5 25 "WaxrowModel$House" "lamps" "[I", .fieldLink RX5 11 "WaxrowModel$House" "persons" "[[I", .methodLink RX5 81 Lib.Math.max.name, .static Lib.Math.max.name, .initialized "java/lang/Math", .code Lib.Math.max.name Lib.Math.max.code 2 (some .int), .static yX6_held, .initialized RX6, .code yX6_held cX6_held 2 (some .int), .methodLink RX6 20 Lib.Math.min.name, .static Lib.Math.min.name, .code Lib.Math.min.name Lib.Math.min.code 2 (some .int), .methodLink RX6 26 Lib.Math.max.name] ++ wsX50)
def wsX5_travel_r1 : List Cond := [Cond.fieldLink RX5 36 "WaxrowModel$House" "money" "I", Cond.fieldLink RX5 11 "WaxrowModel$House" "persons" "[[I", Cond.methodLink RX5 131 Lib.Math.min.name, Cond.static Lib.Math.min.name, Cond.initialized "java/lang/Math", Cond.code Lib.Math.min.name Lib.Math.min.code 2 (some .int), Cond.methodLink RX5 88 yX5_likeness, Cond.instanceMethod yX5_likeness, Cond.selects RX5 yX5_likeness yX5_likeness, Cond.initialized RX5, Cond.code yX5_likeness cX5_likeness 3 (some .int), Cond.methodLink RX5 76 Lib.Math.abs.name, Cond.static Lib.Math.abs.name, Cond.code Lib.Math.abs.name Lib.Math.abs.code 1 (some .int), Cond.methodLink RX5 81 Lib.Math.max.name, Cond.static Lib.Math.max.name, Cond.code Lib.Math.max.name Lib.Math.max.code 2 (some .int), Cond.methodLink RX5 68 yX5_isDone, Cond.instanceMethod yX5_isDone, Cond.selects RX5 yX5_isDone yX5_isDone, Cond.code yX5_isDone cX5_isDone 2 (some .boolean), Cond.methodLink RX5 72 yX5_height, Cond.instanceMethod yX5_height, Cond.selects RX5 yX5_height yX5_height]
def wsX5_travel_r2 : List Cond := [Cond.code yX5_height cX5_height 2 (some .int), Cond.fieldLink RX5 16 "WaxrowModel$House" "low" "[[I", Cond.fieldLink RX5 19 "WaxrowModel$House" "high" "[[I"]
def wsX5_travel : List Cond := .code yX5_travel cX5_travel 2 none :: ((wsX5_travel_r1 ++ wsX5_travel_r2) ++ wsX50)
def wsX5_go_r1 : List Cond := [Cond.fieldLink RX5 62 "WaxrowModel$House" "day" "I", Cond.fieldLink RX5 53 "WaxrowModel$House" "personCount" "I", Cond.fieldLink RX5 11 "WaxrowModel$House" "persons" "[[I", Cond.fieldLink RX5 56 "WaxrowModel$House" "figureCount" "I", Cond.fieldLink RX5 22 "WaxrowModel$House" "figures" "[[I", Cond.fieldLink RX5 32 "WaxrowModel$House" "price" "I", Cond.fieldLink RX5 65 "WaxrowModel$House" "came" "I", Cond.fieldLink RX5 36 "WaxrowModel$House" "money" "I", Cond.arrayClass .int, Cond.methodLink RX5 113 yX5_month, Cond.static yX5_month, Cond.initialized RX5, Cond.code yX5_month cX5_month 2 none, Cond.static yX6_held, Cond.initialized RX6, Cond.code yX6_held cX6_held 2 (some .int), Cond.methodLink RX6 20 Lib.Math.min.name, Cond.static Lib.Math.min.name, Cond.initialized "java/lang/Math", Cond.code Lib.Math.min.name Lib.Math.min.code 2 (some .int), Cond.methodLink RX6 26 Lib.Math.max.name, Cond.static Lib.Math.max.name, Cond.code Lib.Math.max.name Lib.Math.max.code 2 (some .int), Cond.methodLink RX5 102 yJ6_signum_0f7a4]
def wsX5_go_r2 : List Cond := [Cond.static yJ6_signum_0f7a4, Cond.initialized RJ6, Cond.code yJ6_signum_0f7a4 cJ6_signum_0f7a4 1 (some .int), Cond.methodLink RX5 117 yX5_work, Cond.instanceMethod yX5_work, Cond.selects RX5 yX5_work yX5_work, Cond.code yX5_work cX5_work 3 (some .int), Cond.static yX6_needs, Cond.code yX6_needs cX6_needs 2 (some .int), Cond.methodLink RX5 110 yX5_doubt, Cond.instanceMethod yX5_doubt, Cond.selects RX5 yX5_doubt yX5_doubt, Cond.code yX5_doubt cX5_doubt 4 (some .int), Cond.fieldLink RX5 19 "WaxrowModel$House" "high" "[[I", Cond.fieldLink RX5 16 "WaxrowModel$House" "low" "[[I", Cond.methodLink RX5 120 yX5_drawsIn, Cond.instanceMethod yX5_drawsIn, Cond.selects RX5 yX5_drawsIn yX5_drawsIn, Cond.code yX5_drawsIn cX5_drawsIn 5 (some .int), Cond.static yX6_in, Cond.code yX6_in cX6_in 3 (some .boolean), Cond.methodLink RX5 96 yX5_draw, Cond.instanceMethod yX5_draw, Cond.selects RX5 yX5_draw yX5_draw]
def wsX5_go_r3 : List Cond := [Cond.code yX5_draw cX5_draw 2 (some .int), Cond.methodLink RX5 85 yX5_isShown, Cond.instanceMethod yX5_isShown, Cond.selects RX5 yX5_isShown yX5_isShown, Cond.code yX5_isShown cX5_isShown 2 (some .boolean), Cond.methodLink RX5 88 yX5_likeness, Cond.instanceMethod yX5_likeness, Cond.selects RX5 yX5_likeness yX5_likeness, Cond.code yX5_likeness cX5_likeness 3 (some .int), Cond.methodLink RX5 76 Lib.Math.abs.name, Cond.static Lib.Math.abs.name, Cond.code Lib.Math.abs.name Lib.Math.abs.code 1 (some .int), Cond.methodLink RX5 81 Lib.Math.max.name, Cond.methodLink RX5 68 yX5_isDone, Cond.instanceMethod yX5_isDone, Cond.selects RX5 yX5_isDone yX5_isDone, Cond.code yX5_isDone cX5_isDone 2 (some .boolean), Cond.methodLink RX5 72 yX5_height, Cond.instanceMethod yX5_height, Cond.selects RX5 yX5_height yX5_height, Cond.code yX5_height cX5_height 2 (some .int), Cond.methodLink RX5 123 yX5_wear, Cond.instanceMethod yX5_wear, Cond.selects RX5 yX5_wear yX5_wear]
def wsX5_go_r4 : List Cond := [Cond.code yX5_wear cX5_wear 5 (some .int), Cond.fieldLink RX5 25 "WaxrowModel$House" "lamps" "[I", Cond.methodLink RX5 127 yX5_travel, Cond.instanceMethod yX5_travel, Cond.selects RX5 yX5_travel yX5_travel, Cond.code yX5_travel cX5_travel 2 none, Cond.methodLink RX5 131 Lib.Math.min.name]
def wsX5_go : List Cond := .code yX5_go cX5_go 8 (some .int) :: ((wsX5_go_r1 ++ (wsX5_go_r2 ++ (wsX5_go_r3 ++ wsX5_go_r4))) ++ wsX50)
def wsX6_init : List Cond := .code yX6_init cX6_init 1 none :: ([.methodLink RX6 1 objectInit, .instanceMethod objectInit, .code objectInit ⟨#[0xb1]⟩ 1 none, .classLink RX6 7 RX5, .instantiable RX5 14, .initialized RX5, .fieldLink RX6 10 "WaxrowModel" "house" "LWaxrowModel$House;", .instanceMethod yX5_init, .code yX5_init cX5_init 1 none, .methodLink RX5 3 objectInit, .classLink RX5 9 "[[I", .arrayClass .int, .fieldLink RX5 11 "WaxrowModel$House" "persons" "[[I", .fieldLink RX5 16 "WaxrowModel$House" "low" "[[I", .fieldLink RX5 19 "WaxrowModel$House" "high" "[[I", .fieldLink RX5 22 "WaxrowModel$House" "figures" "[[I", .fieldLink RX5 25 "WaxrowModel$House" "lamps" "[I", .fieldLink RX5 29 "WaxrowModel$House" "spots" "[I", .fieldLink RX5 32 "WaxrowModel$House" "price" "I", .fieldLink RX5 36 "WaxrowModel$House" "money" "I", .fieldLink RX5 39 "WaxrowModel$House" "wax" "I"] ++ wsX50 ++ wsX60)
def wsX6_thrown : List Cond := .code yX6_thrown cX6_thrown 1 (some .int) :: ([.fieldLink RX6 16 "WaxrowModel" "thrown" "I"] ++ wsX60)
def wsX6_no : List Cond := .code yX6_no cX6_no 2 (some .int) :: ([.fieldLink RX6 16 "WaxrowModel" "thrown" "I"] ++ wsX60)
def wsX6_isPerson : List Cond := .code yX6_isPerson cX6_isPerson 2 (some .boolean) :: ([.fieldLink RX6 10 "WaxrowModel" "house" "LWaxrowModel$House;", .fieldLink RX6 29 "WaxrowModel$House" "personCount" "I", .methodLink RX6 32 yX6_in, .static yX6_in, .initialized RX6, .code yX6_in cX6_in 3 (some .boolean)] ++ wsX60 ++ wsX50)
def wsX6_isFigure : List Cond := .code yX6_isFigure cX6_isFigure 2 (some .boolean) :: ([.fieldLink RX6 10 "WaxrowModel" "house" "LWaxrowModel$House;", .fieldLink RX6 36 "WaxrowModel$House" "figureCount" "I", .methodLink RX6 32 yX6_in, .static yX6_in, .initialized RX6, .code yX6_in cX6_in 3 (some .boolean)] ++ wsX60 ++ wsX50)
def wsX6_isRoom : List Cond := .code yX6_isRoom cX6_isRoom 2 (some .boolean) :: ([.fieldLink RX6 10 "WaxrowModel" "house" "LWaxrowModel$House;", .fieldLink RX6 39 "WaxrowModel$House" "roomCount" "I", .methodLink RX6 32 yX6_in, .static yX6_in, .initialized RX6, .code yX6_in cX6_in 3 (some .boolean)] ++ wsX60 ++ wsX50)
def wsX6_person : List Cond := .code yX6_person cX6_person 6 (some .int) :: ([.fieldLink RX6 16 "WaxrowModel" "thrown" "I", .fieldLink RX6 10 "WaxrowModel" "house" "LWaxrowModel$House;", .fieldLink RX6 29 "WaxrowModel$House" "personCount" "I", .fieldLink RX6 46 "WaxrowModel$House" "persons" "[[I", .fieldLink RX6 50 "WaxrowModel$House" "high" "[[I", .methodLink RX6 32 yX6_in, .static yX6_in, .initialized RX6, .code yX6_in cX6_in 3 (some .boolean), .methodLink RX6 42 yX6_no, .instanceMethod yX6_no, .selects RX6 yX6_no yX6_no, .code yX6_no cX6_no 2 (some .int)] ++ wsX60 ++ wsX50)
def wsX6_trend : List Cond := .code yX6_trend cX6_trend 5 (some .int) :: ([.fieldLink RX6 16 "WaxrowModel" "thrown" "I", .fieldLink RX6 10 "WaxrowModel" "house" "LWaxrowModel$House;", .fieldLink RX6 46 "WaxrowModel$House" "persons" "[[I", .methodLink RX6 53 yX6_isPerson, .instanceMethod yX6_isPerson, .selects RX6 yX6_isPerson yX6_isPerson, .initialized RX6, .code yX6_isPerson cX6_isPerson 2 (some .boolean), .fieldLink RX6 29 "WaxrowModel$House" "personCount" "I", .methodLink RX6 32 yX6_in, .static yX6_in, .code yX6_in cX6_in 3 (some .boolean), .methodLink RX6 42 yX6_no, .instanceMethod yX6_no, .selects RX6 yX6_no yX6_no, .code yX6_no cX6_no 2 (some .int)] ++ wsX60 ++ wsX50)
def wsX6_news_r1 : List Cond := [Cond.fieldLink RX6 16 "WaxrowModel" "thrown" "I", Cond.fieldLink RX6 10 "WaxrowModel" "house" "LWaxrowModel$House;", Cond.fieldLink RX6 46 "WaxrowModel$House" "persons" "[[I", Cond.methodLink RX6 53 yX6_isPerson, Cond.instanceMethod yX6_isPerson, Cond.selects RX6 yX6_isPerson yX6_isPerson, Cond.initialized RX6, Cond.code yX6_isPerson cX6_isPerson 2 (some .boolean), Cond.fieldLink RX6 29 "WaxrowModel$House" "personCount" "I", Cond.methodLink RX6 32 yX6_in, Cond.static yX6_in, Cond.code yX6_in cX6_in 3 (some .boolean), Cond.methodLink RX6 42 yX6_no, Cond.instanceMethod yX6_no, Cond.selects RX6 yX6_no yX6_no, Cond.code yX6_no cX6_no 2 (some .int), Cond.methodLink RX6 57 yX6_held, Cond.static yX6_held, Cond.code yX6_held cX6_held 2 (some .int), Cond.methodLink RX6 20 Lib.Math.min.name, Cond.static Lib.Math.min.name, Cond.initialized "java/lang/Math", Cond.code Lib.Math.min.name Lib.Math.min.code 2 (some .int), Cond.methodLink RX6 26 Lib.Math.max.name]
def wsX6_news_r2 : List Cond := [Cond.static Lib.Math.max.name, Cond.code Lib.Math.max.name Lib.Math.max.code 2 (some .int)]
def wsX6_news : List Cond := .code yX6_news cX6_news 4 (some .int) :: ((wsX6_news_r1 ++ wsX6_news_r2) ++ wsX60 ++ wsX50)
def wsX6_consent : List Cond := .code yX6_consent cX6_consent 6 (some .int) :: ([.fieldLink RX6 16 "WaxrowModel" "thrown" "I", .fieldLink RX6 10 "WaxrowModel" "house" "LWaxrowModel$House;", .fieldLink RX6 46 "WaxrowModel$House" "persons" "[[I", .fieldLink RX6 36 "WaxrowModel$House" "figureCount" "I", .fieldLink RX6 60 "WaxrowModel$House" "figures" "[[I", .methodLink RX6 53 yX6_isPerson, .instanceMethod yX6_isPerson, .selects RX6 yX6_isPerson yX6_isPerson, .initialized RX6, .code yX6_isPerson cX6_isPerson 2 (some .boolean), .fieldLink RX6 29 "WaxrowModel$House" "personCount" "I", .methodLink RX6 32 yX6_in, .static yX6_in, .code yX6_in cX6_in 3 (some .boolean), .methodLink RX6 42 yX6_no, .instanceMethod yX6_no, .selects RX6 yX6_no yX6_no, .code yX6_no cX6_no 2 (some .int), .methodLink RX6 63 yX5_isShown, .instanceMethod yX5_isShown, .selects RX5 yX5_isShown yX5_isShown, .initialized RX5, .code yX5_isShown cX5_isShown 2 (some .boolean)] ++ wsX60 ++ wsX50)
def wsX6_measure_r1 : List Cond := [Cond.fieldLink RX6 16 "WaxrowModel" "thrown" "I", Cond.fieldLink RX6 10 "WaxrowModel" "house" "LWaxrowModel$House;", Cond.fieldLink RX6 67 "WaxrowModel$House" "low" "[[I", Cond.methodLink RX6 26 Lib.Math.max.name, Cond.static Lib.Math.max.name, Cond.initialized "java/lang/Math", Cond.code Lib.Math.max.name Lib.Math.max.code 2 (some .int), Cond.fieldLink RX6 50 "WaxrowModel$House" "high" "[[I", Cond.methodLink RX6 20 Lib.Math.min.name, Cond.static Lib.Math.min.name, Cond.code Lib.Math.min.name Lib.Math.min.code 2 (some .int), Cond.fieldLink RX6 46 "WaxrowModel$House" "persons" "[[I", Cond.methodLink RX6 53 yX6_isPerson, Cond.instanceMethod yX6_isPerson, Cond.selects RX6 yX6_isPerson yX6_isPerson, Cond.initialized RX6, Cond.code yX6_isPerson cX6_isPerson 2 (some .boolean), Cond.fieldLink RX6 29 "WaxrowModel$House" "personCount" "I", Cond.methodLink RX6 32 yX6_in, Cond.static yX6_in, Cond.code yX6_in cX6_in 3 (some .boolean), Cond.methodLink RX6 42 yX6_no, Cond.instanceMethod yX6_no, Cond.selects RX6 yX6_no yX6_no]
def wsX6_measure_r2 : List Cond := [Cond.code yX6_no cX6_no 2 (some .int), Cond.methodLink RX6 57 yX6_held, Cond.static yX6_held, Cond.code yX6_held cX6_held 2 (some .int)]
def wsX6_measure : List Cond := .code yX6_measure cX6_measure 8 (some .int) :: ((wsX6_measure_r1 ++ wsX6_measure_r2) ++ wsX60 ++ wsX50)
def wsX6_pay : List Cond := .code yX6_pay cX6_pay 3 (some .int) :: ([.fieldLink RX6 16 "WaxrowModel" "thrown" "I", .fieldLink RX6 10 "WaxrowModel" "house" "LWaxrowModel$House;", .fieldLink RX6 46 "WaxrowModel$House" "persons" "[[I", .fieldLink RX6 70 "WaxrowModel$House" "money" "I", .methodLink RX6 53 yX6_isPerson, .instanceMethod yX6_isPerson, .selects RX6 yX6_isPerson yX6_isPerson, .initialized RX6, .code yX6_isPerson cX6_isPerson 2 (some .boolean), .fieldLink RX6 29 "WaxrowModel$House" "personCount" "I", .methodLink RX6 32 yX6_in, .static yX6_in, .code yX6_in cX6_in 3 (some .boolean), .methodLink RX6 42 yX6_no, .instanceMethod yX6_no, .selects RX6 yX6_no yX6_no, .code yX6_no cX6_no 2 (some .int)] ++ wsX60 ++ wsX50)
def wsX6_figure_r1 : List Cond := [Cond.fieldLink RX6 16 "WaxrowModel" "thrown" "I", Cond.fieldLink RX6 10 "WaxrowModel" "house" "LWaxrowModel$House;", Cond.fieldLink RX6 36 "WaxrowModel$House" "figureCount" "I", Cond.arrayClass .int, Cond.fieldLink RX6 60 "WaxrowModel$House" "figures" "[[I", Cond.methodLink RX6 76 arraycopyName, Cond.native arraycopyName, Cond.static arraycopyName, Cond.initialized "java/lang/System", Cond.methodLink RX6 53 yX6_isPerson, Cond.instanceMethod yX6_isPerson, Cond.selects RX6 yX6_isPerson yX6_isPerson, Cond.initialized RX6, Cond.code yX6_isPerson cX6_isPerson 2 (some .boolean), Cond.fieldLink RX6 29 "WaxrowModel$House" "personCount" "I", Cond.methodLink RX6 32 yX6_in, Cond.static yX6_in, Cond.code yX6_in cX6_in 3 (some .boolean), Cond.methodLink RX6 42 yX6_no, Cond.instanceMethod yX6_no, Cond.selects RX6 yX6_no yX6_no, Cond.code yX6_no cX6_no 2 (some .int), Cond.methodLink RX6 73 yX6_needs, Cond.static yX6_needs]
def wsX6_figure_r2 : List Cond := [Cond.code yX6_needs cX6_needs 2 (some .int)]
def wsX6_figure : List Cond := .code yX6_figure cX6_figure 3 (some .int) :: ((wsX6_figure_r1 ++ wsX6_figure_r2) ++ wsX60 ++ wsX50)
def wsX6_work : List Cond := .code yX6_work cX6_work 5 (some .int) :: ([.fieldLink RX6 16 "WaxrowModel" "thrown" "I", .fieldLink RX6 10 "WaxrowModel" "house" "LWaxrowModel$House;", .fieldLink RX6 60 "WaxrowModel$House" "figures" "[[I", .methodLink RX6 82 yX6_isFigure, .instanceMethod yX6_isFigure, .selects RX6 yX6_isFigure yX6_isFigure, .initialized RX6, .code yX6_isFigure cX6_isFigure 2 (some .boolean), .fieldLink RX6 36 "WaxrowModel$House" "figureCount" "I", .methodLink RX6 32 yX6_in, .static yX6_in, .code yX6_in cX6_in 3 (some .boolean), .methodLink RX6 42 yX6_no, .instanceMethod yX6_no, .selects RX6 yX6_no yX6_no, .code yX6_no cX6_no 2 (some .int), .methodLink RX6 85 yX5_hands, .instanceMethod yX5_hands, .selects RX5 yX5_hands yX5_hands, .initialized RX5, .code yX5_hands cX5_hands 3 (some .int), .fieldLink RX5 56 "WaxrowModel$House" "figureCount" "I", .fieldLink RX5 22 "WaxrowModel$House" "figures" "[[I"] ++ wsX60 ++ wsX50)
def wsX6_isAtHand : List Cond := .code yX6_isAtHand cX6_isAtHand 2 (some .boolean) :: ([.fieldLink RX6 10 "WaxrowModel" "house" "LWaxrowModel$House;", .methodLink RX6 89 yX5_isDone, .instanceMethod yX5_isDone, .selects RX5 yX5_isDone yX5_isDone, .initialized RX5, .code yX5_isDone cX5_isDone 2 (some .boolean)] ++ wsX60)
def wsX6_swap_r1 : List Cond := [Cond.fieldLink RX6 16 "WaxrowModel" "thrown" "I", Cond.fieldLink RX6 10 "WaxrowModel" "house" "LWaxrowModel$House;", Cond.fieldLink RX6 60 "WaxrowModel$House" "figures" "[[I", Cond.methodLink RX6 82 yX6_isFigure, Cond.instanceMethod yX6_isFigure, Cond.selects RX6 yX6_isFigure yX6_isFigure, Cond.initialized RX6, Cond.code yX6_isFigure cX6_isFigure 2 (some .boolean), Cond.fieldLink RX6 36 "WaxrowModel$House" "figureCount" "I", Cond.methodLink RX6 32 yX6_in, Cond.static yX6_in, Cond.code yX6_in cX6_in 3 (some .boolean), Cond.methodLink RX6 42 yX6_no, Cond.instanceMethod yX6_no, Cond.selects RX6 yX6_no yX6_no, Cond.code yX6_no cX6_no 2 (some .int), Cond.methodLink RX6 92 yX6_isAtHand, Cond.instanceMethod yX6_isAtHand, Cond.selects RX6 yX6_isAtHand yX6_isAtHand, Cond.code yX6_isAtHand cX6_isAtHand 2 (some .boolean), Cond.methodLink RX6 89 yX5_isDone, Cond.instanceMethod yX5_isDone, Cond.selects RX5 yX5_isDone yX5_isDone, Cond.initialized RX5]
def wsX6_swap_r2 : List Cond := [Cond.code yX5_isDone cX5_isDone 2 (some .boolean), Cond.methodLink RX6 95 yX5_likeness, Cond.instanceMethod yX5_likeness, Cond.selects RX5 yX5_likeness yX5_likeness, Cond.code yX5_likeness cX5_likeness 3 (some .int), Cond.methodLink RX5 76 Lib.Math.abs.name, Cond.static Lib.Math.abs.name, Cond.initialized "java/lang/Math", Cond.code Lib.Math.abs.name Lib.Math.abs.code 1 (some .int), Cond.methodLink RX5 81 Lib.Math.max.name, Cond.static Lib.Math.max.name, Cond.code Lib.Math.max.name Lib.Math.max.code 2 (some .int), Cond.methodLink RX5 68 yX5_isDone, Cond.methodLink RX5 72 yX5_height, Cond.instanceMethod yX5_height, Cond.selects RX5 yX5_height yX5_height, Cond.code yX5_height cX5_height 2 (some .int), Cond.fieldLink RX5 16 "WaxrowModel$House" "low" "[[I", Cond.fieldLink RX5 19 "WaxrowModel$House" "high" "[[I"]
def wsX6_swap : List Cond := .code yX6_swap cX6_swap 7 (some .int) :: ((wsX6_swap_r1 ++ wsX6_swap_r2) ++ wsX60 ++ wsX50)
def wsX6_mend_r1 : List Cond := [Cond.fieldLink RX6 16 "WaxrowModel" "thrown" "I", Cond.fieldLink RX6 10 "WaxrowModel" "house" "LWaxrowModel$House;", Cond.fieldLink RX6 60 "WaxrowModel$House" "figures" "[[I", Cond.fieldLink RX6 99 "WaxrowModel$House" "wax" "I", Cond.methodLink RX6 20 Lib.Math.min.name, Cond.static Lib.Math.min.name, Cond.initialized "java/lang/Math", Cond.code Lib.Math.min.name Lib.Math.min.code 2 (some .int), Cond.methodLink RX6 82 yX6_isFigure, Cond.instanceMethod yX6_isFigure, Cond.selects RX6 yX6_isFigure yX6_isFigure, Cond.initialized RX6, Cond.code yX6_isFigure cX6_isFigure 2 (some .boolean), Cond.fieldLink RX6 36 "WaxrowModel$House" "figureCount" "I", Cond.methodLink RX6 32 yX6_in, Cond.static yX6_in, Cond.code yX6_in cX6_in 3 (some .boolean), Cond.methodLink RX6 42 yX6_no, Cond.instanceMethod yX6_no, Cond.selects RX6 yX6_no yX6_no, Cond.code yX6_no cX6_no 2 (some .int), Cond.methodLink RX6 92 yX6_isAtHand, Cond.instanceMethod yX6_isAtHand, Cond.selects RX6 yX6_isAtHand yX6_isAtHand]
def wsX6_mend_r2 : List Cond := [Cond.code yX6_isAtHand cX6_isAtHand 2 (some .boolean), Cond.methodLink RX6 89 yX5_isDone, Cond.instanceMethod yX5_isDone, Cond.selects RX5 yX5_isDone yX5_isDone, Cond.initialized RX5, Cond.code yX5_isDone cX5_isDone 2 (some .boolean)]
def wsX6_mend : List Cond := .code yX6_mend cX6_mend 4 (some .int) :: ((wsX6_mend_r1 ++ wsX6_mend_r2) ++ wsX60 ++ wsX50)
def wsX6_melt : List Cond := .code yX6_melt cX6_melt 3 (some .int) :: ([.fieldLink RX6 16 "WaxrowModel" "thrown" "I", .fieldLink RX6 10 "WaxrowModel" "house" "LWaxrowModel$House;", .fieldLink RX6 60 "WaxrowModel$House" "figures" "[[I", .fieldLink RX6 99 "WaxrowModel$House" "wax" "I", .methodLink RX6 82 yX6_isFigure, .instanceMethod yX6_isFigure, .selects RX6 yX6_isFigure yX6_isFigure, .initialized RX6, .code yX6_isFigure cX6_isFigure 2 (some .boolean), .fieldLink RX6 36 "WaxrowModel$House" "figureCount" "I", .methodLink RX6 32 yX6_in, .static yX6_in, .code yX6_in cX6_in 3 (some .boolean), .methodLink RX6 42 yX6_no, .instanceMethod yX6_no, .selects RX6 yX6_no yX6_no, .code yX6_no cX6_no 2 (some .int)] ++ wsX60 ++ wsX50)
def wsX6_tour_r1 : List Cond := [Cond.fieldLink RX6 16 "WaxrowModel" "thrown" "I", Cond.fieldLink RX6 10 "WaxrowModel" "house" "LWaxrowModel$House;", Cond.fieldLink RX6 60 "WaxrowModel$House" "figures" "[[I", Cond.fieldLink RX6 46 "WaxrowModel$House" "persons" "[[I", Cond.methodLink RX6 82 yX6_isFigure, Cond.instanceMethod yX6_isFigure, Cond.selects RX6 yX6_isFigure yX6_isFigure, Cond.initialized RX6, Cond.code yX6_isFigure cX6_isFigure 2 (some .boolean), Cond.fieldLink RX6 36 "WaxrowModel$House" "figureCount" "I", Cond.methodLink RX6 32 yX6_in, Cond.static yX6_in, Cond.code yX6_in cX6_in 3 (some .boolean), Cond.methodLink RX6 42 yX6_no, Cond.instanceMethod yX6_no, Cond.selects RX6 yX6_no yX6_no, Cond.code yX6_no cX6_no 2 (some .int), Cond.methodLink RX6 92 yX6_isAtHand, Cond.instanceMethod yX6_isAtHand, Cond.selects RX6 yX6_isAtHand yX6_isAtHand, Cond.code yX6_isAtHand cX6_isAtHand 2 (some .boolean), Cond.methodLink RX6 89 yX5_isDone, Cond.instanceMethod yX5_isDone, Cond.selects RX5 yX5_isDone yX5_isDone]
def wsX6_tour_r2 : List Cond := [Cond.initialized RX5, Cond.code yX5_isDone cX5_isDone 2 (some .boolean), Cond.methodLink RX6 95 yX5_likeness, Cond.instanceMethod yX5_likeness, Cond.selects RX5 yX5_likeness yX5_likeness, Cond.code yX5_likeness cX5_likeness 3 (some .int), Cond.methodLink RX5 76 Lib.Math.abs.name, Cond.static Lib.Math.abs.name, Cond.initialized "java/lang/Math", Cond.code Lib.Math.abs.name Lib.Math.abs.code 1 (some .int), Cond.methodLink RX5 81 Lib.Math.max.name, Cond.static Lib.Math.max.name, Cond.code Lib.Math.max.name Lib.Math.max.code 2 (some .int), Cond.methodLink RX5 68 yX5_isDone, Cond.methodLink RX5 72 yX5_height, Cond.instanceMethod yX5_height, Cond.selects RX5 yX5_height yX5_height, Cond.code yX5_height cX5_height 2 (some .int), Cond.fieldLink RX5 16 "WaxrowModel$House" "low" "[[I", Cond.fieldLink RX5 19 "WaxrowModel$House" "high" "[[I"]
def wsX6_tour : List Cond := .code yX6_tour cX6_tour 5 (some .int) :: ((wsX6_tour_r1 ++ wsX6_tour_r2) ++ wsX60 ++ wsX50)
def wsX6_room : List Cond := .code yX6_room cX6_room 3 (some .int) :: ([.fieldLink RX6 16 "WaxrowModel" "thrown" "I", .fieldLink RX6 10 "WaxrowModel" "house" "LWaxrowModel$House;", .fieldLink RX6 39 "WaxrowModel$House" "roomCount" "I", .fieldLink RX6 102 "WaxrowModel$House" "lamps" "[I", .fieldLink RX6 106 "WaxrowModel$House" "spots" "[I", .methodLink RX6 32 yX6_in, .static yX6_in, .initialized RX6, .code yX6_in cX6_in 3 (some .boolean), .methodLink RX6 42 yX6_no, .instanceMethod yX6_no, .selects RX6 yX6_no yX6_no, .code yX6_no cX6_no 2 (some .int)] ++ wsX60 ++ wsX50)
def wsX6_lamps : List Cond := .code yX6_lamps cX6_lamps 4 (some .int) :: ([.fieldLink RX6 16 "WaxrowModel" "thrown" "I", .fieldLink RX6 10 "WaxrowModel" "house" "LWaxrowModel$House;", .fieldLink RX6 102 "WaxrowModel$House" "lamps" "[I", .methodLink RX6 109 yX6_isRoom, .instanceMethod yX6_isRoom, .selects RX6 yX6_isRoom yX6_isRoom, .initialized RX6, .code yX6_isRoom cX6_isRoom 2 (some .boolean), .fieldLink RX6 39 "WaxrowModel$House" "roomCount" "I", .methodLink RX6 32 yX6_in, .static yX6_in, .code yX6_in cX6_in 3 (some .boolean), .methodLink RX6 42 yX6_no, .instanceMethod yX6_no, .selects RX6 yX6_no yX6_no, .code yX6_no cX6_no 2 (some .int)] ++ wsX60 ++ wsX50)
def wsX6_show_r1 : List Cond := [Cond.fieldLink RX6 16 "WaxrowModel" "thrown" "I", Cond.fieldLink RX6 10 "WaxrowModel" "house" "LWaxrowModel$House;", Cond.fieldLink RX6 60 "WaxrowModel$House" "figures" "[[I", Cond.fieldLink RX6 46 "WaxrowModel$House" "persons" "[[I", Cond.fieldLink RX6 106 "WaxrowModel$House" "spots" "[I", Cond.methodLink RX6 82 yX6_isFigure, Cond.instanceMethod yX6_isFigure, Cond.selects RX6 yX6_isFigure yX6_isFigure, Cond.initialized RX6, Cond.code yX6_isFigure cX6_isFigure 2 (some .boolean), Cond.fieldLink RX6 36 "WaxrowModel$House" "figureCount" "I", Cond.methodLink RX6 32 yX6_in, Cond.static yX6_in, Cond.code yX6_in cX6_in 3 (some .boolean), Cond.methodLink RX6 109 yX6_isRoom, Cond.instanceMethod yX6_isRoom, Cond.selects RX6 yX6_isRoom yX6_isRoom, Cond.code yX6_isRoom cX6_isRoom 2 (some .boolean), Cond.fieldLink RX6 39 "WaxrowModel$House" "roomCount" "I", Cond.methodLink RX6 42 yX6_no, Cond.instanceMethod yX6_no, Cond.selects RX6 yX6_no yX6_no, Cond.code yX6_no cX6_no 2 (some .int), Cond.methodLink RX6 92 yX6_isAtHand]
def wsX6_show_r2 : List Cond := [Cond.instanceMethod yX6_isAtHand, Cond.selects RX6 yX6_isAtHand yX6_isAtHand, Cond.code yX6_isAtHand cX6_isAtHand 2 (some .boolean), Cond.methodLink RX6 89 yX5_isDone, Cond.instanceMethod yX5_isDone, Cond.selects RX5 yX5_isDone yX5_isDone, Cond.initialized RX5, Cond.code yX5_isDone cX5_isDone 2 (some .boolean), Cond.methodLink RX6 95 yX5_likeness, Cond.instanceMethod yX5_likeness, Cond.selects RX5 yX5_likeness yX5_likeness, Cond.code yX5_likeness cX5_likeness 3 (some .int), Cond.methodLink RX5 76 Lib.Math.abs.name, Cond.static Lib.Math.abs.name, Cond.initialized "java/lang/Math", Cond.code Lib.Math.abs.name Lib.Math.abs.code 1 (some .int), Cond.methodLink RX5 81 Lib.Math.max.name, Cond.static Lib.Math.max.name, Cond.code Lib.Math.max.name Lib.Math.max.code 2 (some .int), Cond.methodLink RX5 68 yX5_isDone, Cond.methodLink RX5 72 yX5_height, Cond.instanceMethod yX5_height, Cond.selects RX5 yX5_height yX5_height, Cond.code yX5_height cX5_height 2 (some .int)]
def wsX6_show_r3 : List Cond := [Cond.fieldLink RX5 16 "WaxrowModel$House" "low" "[[I", Cond.fieldLink RX5 19 "WaxrowModel$House" "high" "[[I", Cond.methodLink RX6 112 yX5_shownIn, Cond.instanceMethod yX5_shownIn, Cond.selects RX5 yX5_shownIn yX5_shownIn, Cond.code yX5_shownIn cX5_shownIn 4 (some .int), Cond.fieldLink RX5 56 "WaxrowModel$House" "figureCount" "I", Cond.fieldLink RX5 22 "WaxrowModel$House" "figures" "[[I", Cond.methodLink RX6 115 yX5_shownOf, Cond.instanceMethod yX5_shownOf, Cond.selects RX5 yX5_shownOf yX5_shownOf, Cond.code yX5_shownOf cX5_shownOf 3 (some .int), Cond.methodLink RX5 85 yX5_isShown, Cond.instanceMethod yX5_isShown, Cond.selects RX5 yX5_isShown yX5_isShown, Cond.code yX5_isShown cX5_isShown 2 (some .boolean), Cond.methodLink RX6 118 yX5_draw, Cond.instanceMethod yX5_draw, Cond.selects RX5 yX5_draw yX5_draw, Cond.code yX5_draw cX5_draw 2 (some .int), Cond.fieldLink RX5 11 "WaxrowModel$House" "persons" "[[I", Cond.methodLink RX5 88 yX5_likeness]
def wsX6_show : List Cond := .code yX6_show cX6_show 5 (some .int) :: ((wsX6_show_r1 ++ (wsX6_show_r2 ++ wsX6_show_r3)) ++ wsX60 ++ wsX50)
def wsX6_take : List Cond := .code yX6_take cX6_take 3 (some .int) :: ([.fieldLink RX6 16 "WaxrowModel" "thrown" "I", .fieldLink RX6 10 "WaxrowModel" "house" "LWaxrowModel$House;", .fieldLink RX6 60 "WaxrowModel$House" "figures" "[[I", .methodLink RX6 82 yX6_isFigure, .instanceMethod yX6_isFigure, .selects RX6 yX6_isFigure yX6_isFigure, .initialized RX6, .code yX6_isFigure cX6_isFigure 2 (some .boolean), .fieldLink RX6 36 "WaxrowModel$House" "figureCount" "I", .methodLink RX6 32 yX6_in, .static yX6_in, .code yX6_in cX6_in 3 (some .boolean), .methodLink RX6 42 yX6_no, .instanceMethod yX6_no, .selects RX6 yX6_no yX6_no, .code yX6_no cX6_no 2 (some .int)] ++ wsX60 ++ wsX50)
def wsX6_clean : List Cond := .code yX6_clean cX6_clean 3 (some .int) :: ([.fieldLink RX6 16 "WaxrowModel" "thrown" "I", .fieldLink RX6 10 "WaxrowModel" "house" "LWaxrowModel$House;", .fieldLink RX6 70 "WaxrowModel$House" "money" "I", .fieldLink RX6 36 "WaxrowModel$House" "figureCount" "I", .fieldLink RX6 60 "WaxrowModel$House" "figures" "[[I", .methodLink RX6 26 Lib.Math.max.name, .static Lib.Math.max.name, .initialized "java/lang/Math", .code Lib.Math.max.name Lib.Math.max.code 2 (some .int), .methodLink RX6 109 yX6_isRoom, .instanceMethod yX6_isRoom, .selects RX6 yX6_isRoom yX6_isRoom, .initialized RX6, .code yX6_isRoom cX6_isRoom 2 (some .boolean), .fieldLink RX6 39 "WaxrowModel$House" "roomCount" "I", .methodLink RX6 32 yX6_in, .static yX6_in, .code yX6_in cX6_in 3 (some .boolean), .methodLink RX6 42 yX6_no, .instanceMethod yX6_no, .selects RX6 yX6_no yX6_no, .code yX6_no cX6_no 2 (some .int)] ++ wsX60 ++ wsX50)
def wsX6_price : List Cond := .code yX6_price cX6_price 3 (some .int) :: ([.fieldLink RX6 16 "WaxrowModel" "thrown" "I", .fieldLink RX6 10 "WaxrowModel" "house" "LWaxrowModel$House;", .fieldLink RX6 121 "WaxrowModel$House" "price" "I", .methodLink RX6 32 yX6_in, .static yX6_in, .initialized RX6, .code yX6_in cX6_in 3 (some .boolean), .methodLink RX6 42 yX6_no, .instanceMethod yX6_no, .selects RX6 yX6_no yX6_no, .code yX6_no cX6_no 2 (some .int)] ++ wsX60 ++ wsX50)
def wsX6_pass_r1 : List Cond := [Cond.fieldLink RX6 16 "WaxrowModel" "thrown" "I", Cond.fieldLink RX6 10 "WaxrowModel" "house" "LWaxrowModel$House;", Cond.methodLink RX6 32 yX6_in, Cond.static yX6_in, Cond.initialized RX6, Cond.code yX6_in cX6_in 3 (some .boolean), Cond.methodLink RX6 42 yX6_no, Cond.instanceMethod yX6_no, Cond.selects RX6 yX6_no yX6_no, Cond.code yX6_no cX6_no 2 (some .int), Cond.methodLink RX6 124 yX5_go, Cond.instanceMethod yX5_go, Cond.selects RX5 yX5_go yX5_go, Cond.initialized RX5, Cond.code yX5_go cX5_go 8 (some .int), Cond.fieldLink RX5 62 "WaxrowModel$House" "day" "I", Cond.fieldLink RX5 53 "WaxrowModel$House" "personCount" "I", Cond.fieldLink RX5 11 "WaxrowModel$House" "persons" "[[I", Cond.fieldLink RX5 56 "WaxrowModel$House" "figureCount" "I", Cond.fieldLink RX5 22 "WaxrowModel$House" "figures" "[[I", Cond.fieldLink RX5 32 "WaxrowModel$House" "price" "I", Cond.fieldLink RX5 65 "WaxrowModel$House" "came" "I", Cond.fieldLink RX5 36 "WaxrowModel$House" "money" "I", Cond.arrayClass .int]
def wsX6_pass_r2 : List Cond := [Cond.methodLink RX5 113 yX5_month, Cond.static yX5_month, Cond.code yX5_month cX5_month 2 none, Cond.static yX6_held, Cond.code yX6_held cX6_held 2 (some .int), Cond.methodLink RX6 20 Lib.Math.min.name, Cond.static Lib.Math.min.name, Cond.initialized "java/lang/Math", Cond.code Lib.Math.min.name Lib.Math.min.code 2 (some .int), Cond.methodLink RX6 26 Lib.Math.max.name, Cond.static Lib.Math.max.name, Cond.code Lib.Math.max.name Lib.Math.max.code 2 (some .int), Cond.methodLink RX5 102 yJ6_signum_0f7a4, Cond.static yJ6_signum_0f7a4, Cond.initialized RJ6, Cond.code yJ6_signum_0f7a4 cJ6_signum_0f7a4 1 (some .int), Cond.methodLink RX5 117 yX5_work, Cond.instanceMethod yX5_work, Cond.selects RX5 yX5_work yX5_work, Cond.code yX5_work cX5_work 3 (some .int), Cond.static yX6_needs, Cond.code yX6_needs cX6_needs 2 (some .int), Cond.methodLink RX5 110 yX5_doubt, Cond.instanceMethod yX5_doubt]
def wsX6_pass_r3 : List Cond := [Cond.selects RX5 yX5_doubt yX5_doubt, Cond.code yX5_doubt cX5_doubt 4 (some .int), Cond.fieldLink RX5 19 "WaxrowModel$House" "high" "[[I", Cond.fieldLink RX5 16 "WaxrowModel$House" "low" "[[I", Cond.methodLink RX5 120 yX5_drawsIn, Cond.instanceMethod yX5_drawsIn, Cond.selects RX5 yX5_drawsIn yX5_drawsIn, Cond.code yX5_drawsIn cX5_drawsIn 5 (some .int), Cond.methodLink RX5 96 yX5_draw, Cond.instanceMethod yX5_draw, Cond.selects RX5 yX5_draw yX5_draw, Cond.code yX5_draw cX5_draw 2 (some .int), Cond.methodLink RX5 85 yX5_isShown, Cond.instanceMethod yX5_isShown, Cond.selects RX5 yX5_isShown yX5_isShown, Cond.code yX5_isShown cX5_isShown 2 (some .boolean), Cond.methodLink RX5 88 yX5_likeness, Cond.instanceMethod yX5_likeness, Cond.selects RX5 yX5_likeness yX5_likeness, Cond.code yX5_likeness cX5_likeness 3 (some .int), Cond.methodLink RX5 76 Lib.Math.abs.name, Cond.static Lib.Math.abs.name, Cond.code Lib.Math.abs.name Lib.Math.abs.code 1 (some .int), Cond.methodLink RX5 81 Lib.Math.max.name]
def wsX6_pass_r4 : List Cond := [Cond.methodLink RX5 68 yX5_isDone, Cond.instanceMethod yX5_isDone, Cond.selects RX5 yX5_isDone yX5_isDone, Cond.code yX5_isDone cX5_isDone 2 (some .boolean), Cond.methodLink RX5 72 yX5_height, Cond.instanceMethod yX5_height, Cond.selects RX5 yX5_height yX5_height, Cond.code yX5_height cX5_height 2 (some .int), Cond.methodLink RX5 123 yX5_wear, Cond.instanceMethod yX5_wear, Cond.selects RX5 yX5_wear yX5_wear, Cond.code yX5_wear cX5_wear 5 (some .int), Cond.fieldLink RX5 25 "WaxrowModel$House" "lamps" "[I", Cond.methodLink RX5 127 yX5_travel, Cond.instanceMethod yX5_travel, Cond.selects RX5 yX5_travel yX5_travel, Cond.code yX5_travel cX5_travel 2 none, Cond.methodLink RX5 131 Lib.Math.min.name]
def wsX6_pass : List Cond := .code yX6_pass cX6_pass 6 (some .int) :: ((wsX6_pass_r1 ++ (wsX6_pass_r2 ++ (wsX6_pass_r3 ++ wsX6_pass_r4))) ++ wsX60 ++ wsX50)
def wsX6_personNow : List Cond := .code yX6_personNow cX6_personNow 4 (some .int) :: ([.fieldLink RX6 10 "WaxrowModel" "house" "LWaxrowModel$House;", .fieldLink RX6 46 "WaxrowModel$House" "persons" "[[I", .methodLink RX6 127 yX5_doubt, .instanceMethod yX5_doubt, .selects RX5 yX5_doubt yX5_doubt, .initialized RX5, .code yX5_doubt cX5_doubt 4 (some .int), .fieldLink RX5 19 "WaxrowModel$House" "high" "[[I", .fieldLink RX5 16 "WaxrowModel$House" "low" "[[I", .methodLink RX6 115 yX5_shownOf, .instanceMethod yX5_shownOf, .selects RX5 yX5_shownOf yX5_shownOf, .code yX5_shownOf cX5_shownOf 3 (some .int), .fieldLink RX5 56 "WaxrowModel$House" "figureCount" "I", .fieldLink RX5 22 "WaxrowModel$House" "figures" "[[I", .methodLink RX5 85 yX5_isShown, .instanceMethod yX5_isShown, .selects RX5 yX5_isShown yX5_isShown, .code yX5_isShown cX5_isShown 2 (some .boolean)] ++ wsX60 ++ wsX50)
def wsX6_ofPerson_r1 : List Cond := [Cond.fieldLink RX6 16 "WaxrowModel" "thrown" "I", Cond.methodLink RX6 53 yX6_isPerson, Cond.instanceMethod yX6_isPerson, Cond.selects RX6 yX6_isPerson yX6_isPerson, Cond.initialized RX6, Cond.code yX6_isPerson cX6_isPerson 2 (some .boolean), Cond.fieldLink RX6 10 "WaxrowModel" "house" "LWaxrowModel$House;", Cond.fieldLink RX6 29 "WaxrowModel$House" "personCount" "I", Cond.methodLink RX6 32 yX6_in, Cond.static yX6_in, Cond.code yX6_in cX6_in 3 (some .boolean), Cond.methodLink RX6 42 yX6_no, Cond.instanceMethod yX6_no, Cond.selects RX6 yX6_no yX6_no, Cond.code yX6_no cX6_no 2 (some .int), Cond.methodLink RX6 130 yX6_personNow, Cond.instanceMethod yX6_personNow, Cond.selects RX6 yX6_personNow yX6_personNow, Cond.code yX6_personNow cX6_personNow 4 (some .int), Cond.fieldLink RX6 46 "WaxrowModel$House" "persons" "[[I", Cond.methodLink RX6 127 yX5_doubt, Cond.instanceMethod yX5_doubt, Cond.selects RX5 yX5_doubt yX5_doubt, Cond.initialized RX5]
def wsX6_ofPerson_r2 : List Cond := [Cond.code yX5_doubt cX5_doubt 4 (some .int), Cond.fieldLink RX5 19 "WaxrowModel$House" "high" "[[I", Cond.fieldLink RX5 16 "WaxrowModel$House" "low" "[[I", Cond.methodLink RX6 115 yX5_shownOf, Cond.instanceMethod yX5_shownOf, Cond.selects RX5 yX5_shownOf yX5_shownOf, Cond.code yX5_shownOf cX5_shownOf 3 (some .int), Cond.fieldLink RX5 56 "WaxrowModel$House" "figureCount" "I", Cond.fieldLink RX5 22 "WaxrowModel$House" "figures" "[[I", Cond.methodLink RX5 85 yX5_isShown, Cond.instanceMethod yX5_isShown, Cond.selects RX5 yX5_isShown yX5_isShown, Cond.code yX5_isShown cX5_isShown 2 (some .boolean)]
def wsX6_ofPerson : List Cond := .code yX6_ofPerson cX6_ofPerson 3 (some .int) :: ((wsX6_ofPerson_r1 ++ wsX6_ofPerson_r2) ++ wsX60 ++ wsX50)
def wsX6_known : List Cond := .code yX6_known cX6_known 4 (some .int) :: ([.fieldLink RX6 16 "WaxrowModel" "thrown" "I", .fieldLink RX6 10 "WaxrowModel" "house" "LWaxrowModel$House;", .fieldLink RX6 50 "WaxrowModel$House" "high" "[[I", .fieldLink RX6 67 "WaxrowModel$House" "low" "[[I", .methodLink RX6 53 yX6_isPerson, .instanceMethod yX6_isPerson, .selects RX6 yX6_isPerson yX6_isPerson, .initialized RX6, .code yX6_isPerson cX6_isPerson 2 (some .boolean), .fieldLink RX6 29 "WaxrowModel$House" "personCount" "I", .methodLink RX6 32 yX6_in, .static yX6_in, .code yX6_in cX6_in 3 (some .boolean), .methodLink RX6 42 yX6_no, .instanceMethod yX6_no, .selects RX6 yX6_no yX6_no, .code yX6_no cX6_no 2 (some .int)] ++ wsX60 ++ wsX50)
def wsX6_figureNow_r1 : List Cond := [Cond.arrayClass .int, Cond.fieldLink RX6 10 "WaxrowModel" "house" "LWaxrowModel$House;", Cond.methodLink RX6 95 yX5_likeness, Cond.instanceMethod yX5_likeness, Cond.selects RX5 yX5_likeness yX5_likeness, Cond.initialized RX5, Cond.code yX5_likeness cX5_likeness 3 (some .int), Cond.methodLink RX5 76 Lib.Math.abs.name, Cond.static Lib.Math.abs.name, Cond.initialized "java/lang/Math", Cond.code Lib.Math.abs.name Lib.Math.abs.code 1 (some .int), Cond.methodLink RX5 81 Lib.Math.max.name, Cond.static Lib.Math.max.name, Cond.code Lib.Math.max.name Lib.Math.max.code 2 (some .int), Cond.methodLink RX5 68 yX5_isDone, Cond.instanceMethod yX5_isDone, Cond.selects RX5 yX5_isDone yX5_isDone, Cond.code yX5_isDone cX5_isDone 2 (some .boolean), Cond.methodLink RX5 72 yX5_height, Cond.instanceMethod yX5_height, Cond.selects RX5 yX5_height yX5_height, Cond.code yX5_height cX5_height 2 (some .int), Cond.fieldLink RX5 16 "WaxrowModel$House" "low" "[[I", Cond.fieldLink RX5 19 "WaxrowModel$House" "high" "[[I"]
def wsX6_figureNow_r2 : List Cond := [Cond.methodLink RX6 118 yX5_draw, Cond.instanceMethod yX5_draw, Cond.selects RX5 yX5_draw yX5_draw, Cond.code yX5_draw cX5_draw 2 (some .int), Cond.fieldLink RX5 11 "WaxrowModel$House" "persons" "[[I", Cond.methodLink RX5 85 yX5_isShown, Cond.instanceMethod yX5_isShown, Cond.selects RX5 yX5_isShown yX5_isShown, Cond.code yX5_isShown cX5_isShown 2 (some .boolean), Cond.methodLink RX5 88 yX5_likeness]
def wsX6_figureNow : List Cond := .code yX6_figureNow cX6_figureNow 4 (some .int) :: ((wsX6_figureNow_r1 ++ wsX6_figureNow_r2) ++ wsX60 ++ wsX50)
def wsX6_ofFigure_r1 : List Cond := [Cond.fieldLink RX6 16 "WaxrowModel" "thrown" "I", Cond.fieldLink RX6 10 "WaxrowModel" "house" "LWaxrowModel$House;", Cond.fieldLink RX6 60 "WaxrowModel$House" "figures" "[[I", Cond.methodLink RX6 82 yX6_isFigure, Cond.instanceMethod yX6_isFigure, Cond.selects RX6 yX6_isFigure yX6_isFigure, Cond.initialized RX6, Cond.code yX6_isFigure cX6_isFigure 2 (some .boolean), Cond.fieldLink RX6 36 "WaxrowModel$House" "figureCount" "I", Cond.methodLink RX6 32 yX6_in, Cond.static yX6_in, Cond.code yX6_in cX6_in 3 (some .boolean), Cond.methodLink RX6 42 yX6_no, Cond.instanceMethod yX6_no, Cond.selects RX6 yX6_no yX6_no, Cond.code yX6_no cX6_no 2 (some .int), Cond.methodLink RX6 133 yX6_figureNow, Cond.instanceMethod yX6_figureNow, Cond.selects RX6 yX6_figureNow yX6_figureNow, Cond.code yX6_figureNow cX6_figureNow 4 (some .int), Cond.arrayClass .int, Cond.methodLink RX6 95 yX5_likeness, Cond.instanceMethod yX5_likeness, Cond.selects RX5 yX5_likeness yX5_likeness]
def wsX6_ofFigure_r2 : List Cond := [Cond.initialized RX5, Cond.code yX5_likeness cX5_likeness 3 (some .int), Cond.methodLink RX5 76 Lib.Math.abs.name, Cond.static Lib.Math.abs.name, Cond.initialized "java/lang/Math", Cond.code Lib.Math.abs.name Lib.Math.abs.code 1 (some .int), Cond.methodLink RX5 81 Lib.Math.max.name, Cond.static Lib.Math.max.name, Cond.code Lib.Math.max.name Lib.Math.max.code 2 (some .int), Cond.methodLink RX5 68 yX5_isDone, Cond.instanceMethod yX5_isDone, Cond.selects RX5 yX5_isDone yX5_isDone, Cond.code yX5_isDone cX5_isDone 2 (some .boolean), Cond.methodLink RX5 72 yX5_height, Cond.instanceMethod yX5_height, Cond.selects RX5 yX5_height yX5_height, Cond.code yX5_height cX5_height 2 (some .int), Cond.fieldLink RX5 16 "WaxrowModel$House" "low" "[[I", Cond.fieldLink RX5 19 "WaxrowModel$House" "high" "[[I", Cond.methodLink RX6 118 yX5_draw, Cond.instanceMethod yX5_draw, Cond.selects RX5 yX5_draw yX5_draw, Cond.code yX5_draw cX5_draw 2 (some .int), Cond.fieldLink RX5 11 "WaxrowModel$House" "persons" "[[I"]
def wsX6_ofFigure_r3 : List Cond := [Cond.methodLink RX5 85 yX5_isShown, Cond.instanceMethod yX5_isShown, Cond.selects RX5 yX5_isShown yX5_isShown, Cond.code yX5_isShown cX5_isShown 2 (some .boolean), Cond.methodLink RX5 88 yX5_likeness]
def wsX6_ofFigure : List Cond := .code yX6_ofFigure cX6_ofFigure 3 (some .int) :: ((wsX6_ofFigure_r1 ++ (wsX6_ofFigure_r2 ++ wsX6_ofFigure_r3)) ++ wsX60 ++ wsX50)
def wsX6_roomNow_r1 : List Cond := [Cond.arrayClass .int, Cond.fieldLink RX6 10 "WaxrowModel" "house" "LWaxrowModel$House;", Cond.fieldLink RX6 102 "WaxrowModel$House" "lamps" "[I", Cond.fieldLink RX6 106 "WaxrowModel$House" "spots" "[I", Cond.methodLink RX6 112 yX5_shownIn, Cond.instanceMethod yX5_shownIn, Cond.selects RX5 yX5_shownIn yX5_shownIn, Cond.initialized RX5, Cond.code yX5_shownIn cX5_shownIn 4 (some .int), Cond.fieldLink RX5 56 "WaxrowModel$House" "figureCount" "I", Cond.fieldLink RX5 22 "WaxrowModel$House" "figures" "[[I", Cond.methodLink RX6 137 yX5_drawsIn, Cond.instanceMethod yX5_drawsIn, Cond.selects RX5 yX5_drawsIn yX5_drawsIn, Cond.code yX5_drawsIn cX5_drawsIn 5 (some .int), Cond.static yX6_in, Cond.initialized RX6, Cond.code yX6_in cX6_in 3 (some .boolean), Cond.methodLink RX5 96 yX5_draw, Cond.instanceMethod yX5_draw, Cond.selects RX5 yX5_draw yX5_draw, Cond.code yX5_draw cX5_draw 2 (some .int), Cond.fieldLink RX5 11 "WaxrowModel$House" "persons" "[[I", Cond.methodLink RX5 85 yX5_isShown]
def wsX6_roomNow_r2 : List Cond := [Cond.instanceMethod yX5_isShown, Cond.selects RX5 yX5_isShown yX5_isShown, Cond.code yX5_isShown cX5_isShown 2 (some .boolean), Cond.methodLink RX5 88 yX5_likeness, Cond.instanceMethod yX5_likeness, Cond.selects RX5 yX5_likeness yX5_likeness, Cond.code yX5_likeness cX5_likeness 3 (some .int), Cond.methodLink RX5 76 Lib.Math.abs.name, Cond.static Lib.Math.abs.name, Cond.initialized "java/lang/Math", Cond.code Lib.Math.abs.name Lib.Math.abs.code 1 (some .int), Cond.methodLink RX5 81 Lib.Math.max.name, Cond.static Lib.Math.max.name, Cond.code Lib.Math.max.name Lib.Math.max.code 2 (some .int), Cond.methodLink RX5 68 yX5_isDone, Cond.instanceMethod yX5_isDone, Cond.selects RX5 yX5_isDone yX5_isDone, Cond.code yX5_isDone cX5_isDone 2 (some .boolean), Cond.methodLink RX5 72 yX5_height, Cond.instanceMethod yX5_height, Cond.selects RX5 yX5_height yX5_height, Cond.code yX5_height cX5_height 2 (some .int), Cond.fieldLink RX5 16 "WaxrowModel$House" "low" "[[I", Cond.fieldLink RX5 19 "WaxrowModel$House" "high" "[[I"]
def wsX6_roomNow : List Cond := .code yX6_roomNow cX6_roomNow 4 (some .int) :: ((wsX6_roomNow_r1 ++ wsX6_roomNow_r2) ++ wsX60 ++ wsX50)
def wsX6_ofRoom_r1 : List Cond := [Cond.fieldLink RX6 16 "WaxrowModel" "thrown" "I", Cond.methodLink RX6 109 yX6_isRoom, Cond.instanceMethod yX6_isRoom, Cond.selects RX6 yX6_isRoom yX6_isRoom, Cond.initialized RX6, Cond.code yX6_isRoom cX6_isRoom 2 (some .boolean), Cond.fieldLink RX6 10 "WaxrowModel" "house" "LWaxrowModel$House;", Cond.fieldLink RX6 39 "WaxrowModel$House" "roomCount" "I", Cond.methodLink RX6 32 yX6_in, Cond.static yX6_in, Cond.code yX6_in cX6_in 3 (some .boolean), Cond.methodLink RX6 42 yX6_no, Cond.instanceMethod yX6_no, Cond.selects RX6 yX6_no yX6_no, Cond.code yX6_no cX6_no 2 (some .int), Cond.methodLink RX6 140 yX6_roomNow, Cond.instanceMethod yX6_roomNow, Cond.selects RX6 yX6_roomNow yX6_roomNow, Cond.code yX6_roomNow cX6_roomNow 4 (some .int), Cond.arrayClass .int, Cond.fieldLink RX6 102 "WaxrowModel$House" "lamps" "[I", Cond.fieldLink RX6 106 "WaxrowModel$House" "spots" "[I", Cond.methodLink RX6 112 yX5_shownIn, Cond.instanceMethod yX5_shownIn]
def wsX6_ofRoom_r2 : List Cond := [Cond.selects RX5 yX5_shownIn yX5_shownIn, Cond.initialized RX5, Cond.code yX5_shownIn cX5_shownIn 4 (some .int), Cond.fieldLink RX5 56 "WaxrowModel$House" "figureCount" "I", Cond.fieldLink RX5 22 "WaxrowModel$House" "figures" "[[I", Cond.methodLink RX6 137 yX5_drawsIn, Cond.instanceMethod yX5_drawsIn, Cond.selects RX5 yX5_drawsIn yX5_drawsIn, Cond.code yX5_drawsIn cX5_drawsIn 5 (some .int), Cond.methodLink RX5 96 yX5_draw, Cond.instanceMethod yX5_draw, Cond.selects RX5 yX5_draw yX5_draw, Cond.code yX5_draw cX5_draw 2 (some .int), Cond.fieldLink RX5 11 "WaxrowModel$House" "persons" "[[I", Cond.methodLink RX5 85 yX5_isShown, Cond.instanceMethod yX5_isShown, Cond.selects RX5 yX5_isShown yX5_isShown, Cond.code yX5_isShown cX5_isShown 2 (some .boolean), Cond.methodLink RX5 88 yX5_likeness, Cond.instanceMethod yX5_likeness, Cond.selects RX5 yX5_likeness yX5_likeness, Cond.code yX5_likeness cX5_likeness 3 (some .int), Cond.methodLink RX5 76 Lib.Math.abs.name, Cond.static Lib.Math.abs.name]
def wsX6_ofRoom_r3 : List Cond := [Cond.initialized "java/lang/Math", Cond.code Lib.Math.abs.name Lib.Math.abs.code 1 (some .int), Cond.methodLink RX5 81 Lib.Math.max.name, Cond.static Lib.Math.max.name, Cond.code Lib.Math.max.name Lib.Math.max.code 2 (some .int), Cond.methodLink RX5 68 yX5_isDone, Cond.instanceMethod yX5_isDone, Cond.selects RX5 yX5_isDone yX5_isDone, Cond.code yX5_isDone cX5_isDone 2 (some .boolean), Cond.methodLink RX5 72 yX5_height, Cond.instanceMethod yX5_height, Cond.selects RX5 yX5_height yX5_height, Cond.code yX5_height cX5_height 2 (some .int), Cond.fieldLink RX5 16 "WaxrowModel$House" "low" "[[I", Cond.fieldLink RX5 19 "WaxrowModel$House" "high" "[[I"]
def wsX6_ofRoom : List Cond := .code yX6_ofRoom cX6_ofRoom 3 (some .int) :: ((wsX6_ofRoom_r1 ++ (wsX6_ofRoom_r2 ++ wsX6_ofRoom_r3)) ++ wsX60 ++ wsX50)
def wsX6_countAt : List Cond := .code yX6_countAt cX6_countAt 5 (some .int) :: ([.fieldLink RX6 10 "WaxrowModel" "house" "LWaxrowModel$House;", .fieldLink RX6 36 "WaxrowModel$House" "figureCount" "I", .fieldLink RX6 60 "WaxrowModel$House" "figures" "[[I", .methodLink RX6 32 yX6_in, .static yX6_in, .initialized RX6, .code yX6_in cX6_in 3 (some .boolean)] ++ wsX60 ++ wsX50)
def wsX6_manyNow_r1 : List Cond := [Cond.fieldLink RX6 10 "WaxrowModel" "house" "LWaxrowModel$House;", Cond.fieldLink RX6 36 "WaxrowModel$House" "figureCount" "I", Cond.fieldLink RX6 60 "WaxrowModel$House" "figures" "[[I", Cond.fieldLink RX6 29 "WaxrowModel$House" "personCount" "I", Cond.fieldLink RX6 46 "WaxrowModel$House" "persons" "[[I", Cond.arrayClass .int, Cond.fieldLink RX6 143 "WaxrowModel$House" "day" "I", Cond.fieldLink RX6 39 "WaxrowModel$House" "roomCount" "I", Cond.fieldLink RX6 70 "WaxrowModel$House" "money" "I", Cond.fieldLink RX6 99 "WaxrowModel$House" "wax" "I", Cond.fieldLink RX6 149 "WaxrowModel$House" "came" "I", Cond.fieldLink RX6 121 "WaxrowModel$House" "price" "I", Cond.methodLink RX6 89 yX5_isDone, Cond.instanceMethod yX5_isDone, Cond.selects RX5 yX5_isDone yX5_isDone, Cond.initialized RX5, Cond.code yX5_isDone cX5_isDone 2 (some .boolean), Cond.methodLink RX6 146 yX6_countAt, Cond.instanceMethod yX6_countAt, Cond.selects RX6 yX6_countAt yX6_countAt, Cond.initialized RX6, Cond.code yX6_countAt cX6_countAt 5 (some .int), Cond.methodLink RX6 32 yX6_in, Cond.static yX6_in]
def wsX6_manyNow_r2 : List Cond := [Cond.code yX6_in cX6_in 3 (some .boolean), Cond.methodLink RX6 85 yX5_hands, Cond.instanceMethod yX5_hands, Cond.selects RX5 yX5_hands yX5_hands, Cond.code yX5_hands cX5_hands 3 (some .int), Cond.fieldLink RX5 56 "WaxrowModel$House" "figureCount" "I", Cond.fieldLink RX5 22 "WaxrowModel$House" "figures" "[[I", Cond.methodLink RX6 137 yX5_drawsIn, Cond.instanceMethod yX5_drawsIn, Cond.selects RX5 yX5_drawsIn yX5_drawsIn, Cond.code yX5_drawsIn cX5_drawsIn 5 (some .int), Cond.methodLink RX5 96 yX5_draw, Cond.instanceMethod yX5_draw, Cond.selects RX5 yX5_draw yX5_draw, Cond.code yX5_draw cX5_draw 2 (some .int), Cond.fieldLink RX5 11 "WaxrowModel$House" "persons" "[[I", Cond.methodLink RX5 85 yX5_isShown, Cond.instanceMethod yX5_isShown, Cond.selects RX5 yX5_isShown yX5_isShown, Cond.code yX5_isShown cX5_isShown 2 (some .boolean), Cond.methodLink RX5 88 yX5_likeness, Cond.instanceMethod yX5_likeness, Cond.selects RX5 yX5_likeness yX5_likeness, Cond.code yX5_likeness cX5_likeness 3 (some .int)]
def wsX6_manyNow_r3 : List Cond := [Cond.methodLink RX5 76 Lib.Math.abs.name, Cond.static Lib.Math.abs.name, Cond.initialized "java/lang/Math", Cond.code Lib.Math.abs.name Lib.Math.abs.code 1 (some .int), Cond.methodLink RX5 81 Lib.Math.max.name, Cond.static Lib.Math.max.name, Cond.code Lib.Math.max.name Lib.Math.max.code 2 (some .int), Cond.methodLink RX5 68 yX5_isDone, Cond.methodLink RX5 72 yX5_height, Cond.instanceMethod yX5_height, Cond.selects RX5 yX5_height yX5_height, Cond.code yX5_height cX5_height 2 (some .int), Cond.fieldLink RX5 16 "WaxrowModel$House" "low" "[[I", Cond.fieldLink RX5 19 "WaxrowModel$House" "high" "[[I"]
def wsX6_manyNow : List Cond := .code yX6_manyNow cX6_manyNow 5 (some .int) :: ((wsX6_manyNow_r1 ++ (wsX6_manyNow_r2 ++ wsX6_manyNow_r3)) ++ wsX60 ++ wsX50)
def wsX6_many_r1 : List Cond := [Cond.fieldLink RX6 16 "WaxrowModel" "thrown" "I", Cond.methodLink RX6 32 yX6_in, Cond.static yX6_in, Cond.initialized RX6, Cond.code yX6_in cX6_in 3 (some .boolean), Cond.methodLink RX6 42 yX6_no, Cond.instanceMethod yX6_no, Cond.selects RX6 yX6_no yX6_no, Cond.code yX6_no cX6_no 2 (some .int), Cond.methodLink RX6 152 yX6_manyNow, Cond.instanceMethod yX6_manyNow, Cond.selects RX6 yX6_manyNow yX6_manyNow, Cond.code yX6_manyNow cX6_manyNow 5 (some .int), Cond.fieldLink RX6 10 "WaxrowModel" "house" "LWaxrowModel$House;", Cond.fieldLink RX6 36 "WaxrowModel$House" "figureCount" "I", Cond.fieldLink RX6 60 "WaxrowModel$House" "figures" "[[I", Cond.fieldLink RX6 29 "WaxrowModel$House" "personCount" "I", Cond.fieldLink RX6 46 "WaxrowModel$House" "persons" "[[I", Cond.arrayClass .int, Cond.fieldLink RX6 143 "WaxrowModel$House" "day" "I", Cond.fieldLink RX6 39 "WaxrowModel$House" "roomCount" "I", Cond.fieldLink RX6 70 "WaxrowModel$House" "money" "I", Cond.fieldLink RX6 99 "WaxrowModel$House" "wax" "I", Cond.fieldLink RX6 149 "WaxrowModel$House" "came" "I"]
def wsX6_many_r2 : List Cond := [Cond.fieldLink RX6 121 "WaxrowModel$House" "price" "I", Cond.methodLink RX6 89 yX5_isDone, Cond.instanceMethod yX5_isDone, Cond.selects RX5 yX5_isDone yX5_isDone, Cond.initialized RX5, Cond.code yX5_isDone cX5_isDone 2 (some .boolean), Cond.methodLink RX6 146 yX6_countAt, Cond.instanceMethod yX6_countAt, Cond.selects RX6 yX6_countAt yX6_countAt, Cond.code yX6_countAt cX6_countAt 5 (some .int), Cond.methodLink RX6 85 yX5_hands, Cond.instanceMethod yX5_hands, Cond.selects RX5 yX5_hands yX5_hands, Cond.code yX5_hands cX5_hands 3 (some .int), Cond.fieldLink RX5 56 "WaxrowModel$House" "figureCount" "I", Cond.fieldLink RX5 22 "WaxrowModel$House" "figures" "[[I", Cond.methodLink RX6 137 yX5_drawsIn, Cond.instanceMethod yX5_drawsIn, Cond.selects RX5 yX5_drawsIn yX5_drawsIn, Cond.code yX5_drawsIn cX5_drawsIn 5 (some .int), Cond.methodLink RX5 96 yX5_draw, Cond.instanceMethod yX5_draw, Cond.selects RX5 yX5_draw yX5_draw, Cond.code yX5_draw cX5_draw 2 (some .int)]
def wsX6_many_r3 : List Cond := [Cond.fieldLink RX5 11 "WaxrowModel$House" "persons" "[[I", Cond.methodLink RX5 85 yX5_isShown, Cond.instanceMethod yX5_isShown, Cond.selects RX5 yX5_isShown yX5_isShown, Cond.code yX5_isShown cX5_isShown 2 (some .boolean), Cond.methodLink RX5 88 yX5_likeness, Cond.instanceMethod yX5_likeness, Cond.selects RX5 yX5_likeness yX5_likeness, Cond.code yX5_likeness cX5_likeness 3 (some .int), Cond.methodLink RX5 76 Lib.Math.abs.name, Cond.static Lib.Math.abs.name, Cond.initialized "java/lang/Math", Cond.code Lib.Math.abs.name Lib.Math.abs.code 1 (some .int), Cond.methodLink RX5 81 Lib.Math.max.name, Cond.static Lib.Math.max.name, Cond.code Lib.Math.max.name Lib.Math.max.code 2 (some .int), Cond.methodLink RX5 68 yX5_isDone, Cond.methodLink RX5 72 yX5_height, Cond.instanceMethod yX5_height, Cond.selects RX5 yX5_height yX5_height, Cond.code yX5_height cX5_height 2 (some .int), Cond.fieldLink RX5 16 "WaxrowModel$House" "low" "[[I", Cond.fieldLink RX5 19 "WaxrowModel$House" "high" "[[I"]
def wsX6_many : List Cond := .code yX6_many cX6_many 2 (some .int) :: ((wsX6_many_r1 ++ (wsX6_many_r2 ++ wsX6_many_r3)) ++ wsX60 ++ wsX50)
def wsX6_meanLikeness_r1 : List Cond := [Cond.fieldLink RX6 16 "WaxrowModel" "thrown" "I", Cond.fieldLink RX6 10 "WaxrowModel" "house" "LWaxrowModel$House;", Cond.fieldLink RX6 36 "WaxrowModel$House" "figureCount" "I", Cond.fieldLink RX6 60 "WaxrowModel$House" "figures" "[[I", Cond.methodLink RX6 63 yX5_isShown, Cond.instanceMethod yX5_isShown, Cond.selects RX5 yX5_isShown yX5_isShown, Cond.initialized RX5, Cond.code yX5_isShown cX5_isShown 2 (some .boolean), Cond.methodLink RX6 95 yX5_likeness, Cond.instanceMethod yX5_likeness, Cond.selects RX5 yX5_likeness yX5_likeness, Cond.code yX5_likeness cX5_likeness 3 (some .int), Cond.methodLink RX5 76 Lib.Math.abs.name, Cond.static Lib.Math.abs.name, Cond.initialized "java/lang/Math", Cond.code Lib.Math.abs.name Lib.Math.abs.code 1 (some .int), Cond.methodLink RX5 81 Lib.Math.max.name, Cond.static Lib.Math.max.name, Cond.code Lib.Math.max.name Lib.Math.max.code 2 (some .int), Cond.methodLink RX5 68 yX5_isDone, Cond.instanceMethod yX5_isDone, Cond.selects RX5 yX5_isDone yX5_isDone, Cond.code yX5_isDone cX5_isDone 2 (some .boolean)]
def wsX6_meanLikeness_r2 : List Cond := [Cond.methodLink RX5 72 yX5_height, Cond.instanceMethod yX5_height, Cond.selects RX5 yX5_height yX5_height, Cond.code yX5_height cX5_height 2 (some .int), Cond.fieldLink RX5 16 "WaxrowModel$House" "low" "[[I", Cond.fieldLink RX5 19 "WaxrowModel$House" "high" "[[I", Cond.methodLink RX6 146 yX6_countAt, Cond.instanceMethod yX6_countAt, Cond.selects RX6 yX6_countAt yX6_countAt, Cond.initialized RX6, Cond.code yX6_countAt cX6_countAt 5 (some .int), Cond.methodLink RX6 32 yX6_in, Cond.static yX6_in, Cond.code yX6_in cX6_in 3 (some .boolean)]
def wsX6_meanLikeness : List Cond := .code yX6_meanLikeness cX6_meanLikeness 3 (some .double) :: ((wsX6_meanLikeness_r1 ++ wsX6_meanLikeness_r2) ++ wsX60 ++ wsX50)
def wsX6_fameNow_r1 : List Cond := [Cond.arrayClass .int, Cond.fieldLink RX6 10 "WaxrowModel" "house" "LWaxrowModel$House;", Cond.fieldLink RX6 46 "WaxrowModel$House" "persons" "[[I", Cond.methodLink RX6 76 arraycopyName, Cond.native arraycopyName, Cond.static arraycopyName, Cond.initialized "java/lang/System", Cond.methodLink RX6 155 yX5_month, Cond.static yX5_month, Cond.initialized RX5, Cond.code yX5_month cX5_month 2 none, Cond.static yX6_held, Cond.initialized RX6, Cond.code yX6_held cX6_held 2 (some .int), Cond.methodLink RX6 20 Lib.Math.min.name, Cond.static Lib.Math.min.name, Cond.initialized "java/lang/Math", Cond.code Lib.Math.min.name Lib.Math.min.code 2 (some .int), Cond.methodLink RX6 26 Lib.Math.max.name, Cond.static Lib.Math.max.name, Cond.code Lib.Math.max.name Lib.Math.max.code 2 (some .int), Cond.methodLink RX5 102 yJ6_signum_0f7a4, Cond.static yJ6_signum_0f7a4, Cond.initialized RJ6]
def wsX6_fameNow_r2 : List Cond := [Cond.code yJ6_signum_0f7a4 cJ6_signum_0f7a4 1 (some .int)]
def wsX6_fameNow : List Cond := .code yX6_fameNow cX6_fameNow 6 (some .int) :: ((wsX6_fameNow_r1 ++ wsX6_fameNow_r2) ++ wsX60 ++ wsX50)
def wsX6_wouldFame_r1 : List Cond := [Cond.fieldLink RX6 16 "WaxrowModel" "thrown" "I", Cond.methodLink RX6 53 yX6_isPerson, Cond.instanceMethod yX6_isPerson, Cond.selects RX6 yX6_isPerson yX6_isPerson, Cond.initialized RX6, Cond.code yX6_isPerson cX6_isPerson 2 (some .boolean), Cond.fieldLink RX6 10 "WaxrowModel" "house" "LWaxrowModel$House;", Cond.fieldLink RX6 29 "WaxrowModel$House" "personCount" "I", Cond.methodLink RX6 32 yX6_in, Cond.static yX6_in, Cond.code yX6_in cX6_in 3 (some .boolean), Cond.methodLink RX6 42 yX6_no, Cond.instanceMethod yX6_no, Cond.selects RX6 yX6_no yX6_no, Cond.code yX6_no cX6_no 2 (some .int), Cond.methodLink RX6 159 yX6_fameNow, Cond.instanceMethod yX6_fameNow, Cond.selects RX6 yX6_fameNow yX6_fameNow, Cond.code yX6_fameNow cX6_fameNow 6 (some .int), Cond.arrayClass .int, Cond.fieldLink RX6 46 "WaxrowModel$House" "persons" "[[I", Cond.methodLink RX6 76 arraycopyName, Cond.native arraycopyName, Cond.static arraycopyName]
def wsX6_wouldFame_r2 : List Cond := [Cond.initialized "java/lang/System", Cond.methodLink RX6 155 yX5_month, Cond.static yX5_month, Cond.initialized RX5, Cond.code yX5_month cX5_month 2 none, Cond.static yX6_held, Cond.code yX6_held cX6_held 2 (some .int), Cond.methodLink RX6 20 Lib.Math.min.name, Cond.static Lib.Math.min.name, Cond.initialized "java/lang/Math", Cond.code Lib.Math.min.name Lib.Math.min.code 2 (some .int), Cond.methodLink RX6 26 Lib.Math.max.name, Cond.static Lib.Math.max.name, Cond.code Lib.Math.max.name Lib.Math.max.code 2 (some .int), Cond.methodLink RX5 102 yJ6_signum_0f7a4, Cond.static yJ6_signum_0f7a4, Cond.initialized RJ6, Cond.code yJ6_signum_0f7a4 cJ6_signum_0f7a4 1 (some .int)]
def wsX6_wouldFame : List Cond := .code yX6_wouldFame cX6_wouldFame 4 (some .int) :: ((wsX6_wouldFame_r1 ++ wsX6_wouldFame_r2) ++ wsX60 ++ wsX50)
def wsX6_readyNow : List Cond := .code yX6_readyNow cX6_readyNow 4 (some .int) :: ([.fieldLink RX6 10 "WaxrowModel" "house" "LWaxrowModel$House;", .methodLink RX6 89 yX5_isDone, .instanceMethod yX5_isDone, .selects RX5 yX5_isDone yX5_isDone, .initialized RX5, .code yX5_isDone cX5_isDone 2 (some .boolean), .methodLink RX6 73 yX6_needs, .static yX6_needs, .initialized RX6, .code yX6_needs cX6_needs 2 (some .int), .arrayClass .int] ++ wsX60)
def wsX6_readyIn_r1 : List Cond := [Cond.fieldLink RX6 16 "WaxrowModel" "thrown" "I", Cond.fieldLink RX6 10 "WaxrowModel" "house" "LWaxrowModel$House;", Cond.fieldLink RX6 60 "WaxrowModel$House" "figures" "[[I", Cond.methodLink RX6 82 yX6_isFigure, Cond.instanceMethod yX6_isFigure, Cond.selects RX6 yX6_isFigure yX6_isFigure, Cond.initialized RX6, Cond.code yX6_isFigure cX6_isFigure 2 (some .boolean), Cond.fieldLink RX6 36 "WaxrowModel$House" "figureCount" "I", Cond.methodLink RX6 32 yX6_in, Cond.static yX6_in, Cond.code yX6_in cX6_in 3 (some .boolean), Cond.methodLink RX6 42 yX6_no, Cond.instanceMethod yX6_no, Cond.selects RX6 yX6_no yX6_no, Cond.code yX6_no cX6_no 2 (some .int), Cond.methodLink RX6 163 yX6_readyNow, Cond.instanceMethod yX6_readyNow, Cond.selects RX6 yX6_readyNow yX6_readyNow, Cond.code yX6_readyNow cX6_readyNow 4 (some .int), Cond.methodLink RX6 89 yX5_isDone, Cond.instanceMethod yX5_isDone, Cond.selects RX5 yX5_isDone yX5_isDone, Cond.initialized RX5]
def wsX6_readyIn_r2 : List Cond := [Cond.code yX5_isDone cX5_isDone 2 (some .boolean), Cond.methodLink RX6 73 yX6_needs, Cond.static yX6_needs, Cond.code yX6_needs cX6_needs 2 (some .int), Cond.arrayClass .int]
def wsX6_readyIn : List Cond := .code yX6_readyIn cX6_readyIn 2 (some .int) :: ((wsX6_readyIn_r1 ++ wsX6_readyIn_r2) ++ wsX60 ++ wsX50)
def wsX6_meltsNow_r1 : List Cond := [Cond.fieldLink RX6 10 "WaxrowModel" "house" "LWaxrowModel$House;", Cond.fieldLink RX6 60 "WaxrowModel$House" "figures" "[[I", Cond.methodLink RX6 166 yX5_copy, Cond.instanceMethod yX5_copy, Cond.selects RX5 yX5_copy yX5_copy, Cond.initialized RX5, Cond.code yX5_copy cX5_copy 2 (some (.object "WaxrowModel$House")), Cond.classLink RX5 12 RX5, Cond.instantiable RX5 14, Cond.fieldLink RX5 11 "WaxrowModel$House" "persons" "[[I", Cond.fieldLink RX5 16 "WaxrowModel$House" "low" "[[I", Cond.fieldLink RX5 19 "WaxrowModel$House" "high" "[[I", Cond.fieldLink RX5 22 "WaxrowModel$House" "figures" "[[I", Cond.fieldLink RX5 25 "WaxrowModel$House" "lamps" "[I", Cond.methodLink RX5 47 arraycopyName, Cond.native arraycopyName, Cond.static arraycopyName, Cond.initialized "java/lang/System", Cond.fieldLink RX5 29 "WaxrowModel$House" "spots" "[I", Cond.fieldLink RX5 53 "WaxrowModel$House" "personCount" "I", Cond.fieldLink RX5 56 "WaxrowModel$House" "figureCount" "I", Cond.fieldLink RX5 59 "WaxrowModel$House" "roomCount" "I", Cond.fieldLink RX5 62 "WaxrowModel$House" "day" "I", Cond.fieldLink RX5 65 "WaxrowModel$House" "came" "I"]
def wsX6_meltsNow_r2 : List Cond := [Cond.fieldLink RX5 32 "WaxrowModel$House" "price" "I", Cond.fieldLink RX5 36 "WaxrowModel$House" "money" "I", Cond.fieldLink RX5 39 "WaxrowModel$House" "wax" "I", Cond.methodLink RX5 42 yX5_init, Cond.instanceMethod yX5_init, Cond.code yX5_init cX5_init 1 none, Cond.methodLink RX5 3 objectInit, Cond.instanceMethod objectInit, Cond.code objectInit ⟨#[0xb1]⟩ 1 none, Cond.classLink RX5 9 "[[I", Cond.arrayClass .int, Cond.methodLink RX5 43 yX5_rows, Cond.static yX5_rows, Cond.code yX5_rows cX5_rows 3 none, Cond.methodLink RX6 124 yX5_go, Cond.instanceMethod yX5_go, Cond.selects RX5 yX5_go yX5_go, Cond.code yX5_go cX5_go 8 (some .int), Cond.methodLink RX5 113 yX5_month, Cond.static yX5_month, Cond.code yX5_month cX5_month 2 none, Cond.static yX6_held, Cond.initialized RX6, Cond.code yX6_held cX6_held 2 (some .int)]
def wsX6_meltsNow_r3 : List Cond := [Cond.methodLink RX6 20 Lib.Math.min.name, Cond.static Lib.Math.min.name, Cond.initialized "java/lang/Math", Cond.code Lib.Math.min.name Lib.Math.min.code 2 (some .int), Cond.methodLink RX6 26 Lib.Math.max.name, Cond.static Lib.Math.max.name, Cond.code Lib.Math.max.name Lib.Math.max.code 2 (some .int), Cond.methodLink RX5 102 yJ6_signum_0f7a4, Cond.static yJ6_signum_0f7a4, Cond.initialized RJ6, Cond.code yJ6_signum_0f7a4 cJ6_signum_0f7a4 1 (some .int), Cond.methodLink RX5 117 yX5_work, Cond.instanceMethod yX5_work, Cond.selects RX5 yX5_work yX5_work, Cond.code yX5_work cX5_work 3 (some .int), Cond.static yX6_needs, Cond.code yX6_needs cX6_needs 2 (some .int), Cond.methodLink RX5 110 yX5_doubt, Cond.instanceMethod yX5_doubt, Cond.selects RX5 yX5_doubt yX5_doubt, Cond.code yX5_doubt cX5_doubt 4 (some .int), Cond.methodLink RX5 120 yX5_drawsIn, Cond.instanceMethod yX5_drawsIn, Cond.selects RX5 yX5_drawsIn yX5_drawsIn]
def wsX6_meltsNow_r4 : List Cond := [Cond.code yX5_drawsIn cX5_drawsIn 5 (some .int), Cond.static yX6_in, Cond.code yX6_in cX6_in 3 (some .boolean), Cond.methodLink RX5 96 yX5_draw, Cond.instanceMethod yX5_draw, Cond.selects RX5 yX5_draw yX5_draw, Cond.code yX5_draw cX5_draw 2 (some .int), Cond.methodLink RX5 85 yX5_isShown, Cond.instanceMethod yX5_isShown, Cond.selects RX5 yX5_isShown yX5_isShown, Cond.code yX5_isShown cX5_isShown 2 (some .boolean), Cond.methodLink RX5 88 yX5_likeness, Cond.instanceMethod yX5_likeness, Cond.selects RX5 yX5_likeness yX5_likeness, Cond.code yX5_likeness cX5_likeness 3 (some .int), Cond.methodLink RX5 76 Lib.Math.abs.name, Cond.static Lib.Math.abs.name, Cond.code Lib.Math.abs.name Lib.Math.abs.code 1 (some .int), Cond.methodLink RX5 81 Lib.Math.max.name, Cond.methodLink RX5 68 yX5_isDone, Cond.instanceMethod yX5_isDone, Cond.selects RX5 yX5_isDone yX5_isDone, Cond.code yX5_isDone cX5_isDone 2 (some .boolean), Cond.methodLink RX5 72 yX5_height]
def wsX6_meltsNow_r5 : List Cond := [Cond.instanceMethod yX5_height, Cond.selects RX5 yX5_height yX5_height, Cond.code yX5_height cX5_height 2 (some .int), Cond.methodLink RX5 123 yX5_wear, Cond.instanceMethod yX5_wear, Cond.selects RX5 yX5_wear yX5_wear, Cond.code yX5_wear cX5_wear 5 (some .int), Cond.methodLink RX5 127 yX5_travel, Cond.instanceMethod yX5_travel, Cond.selects RX5 yX5_travel yX5_travel, Cond.code yX5_travel cX5_travel 2 none, Cond.methodLink RX5 131 Lib.Math.min.name]
def wsX6_meltsNow : List Cond := .code yX6_meltsNow cX6_meltsNow 6 (some .int) :: ((wsX6_meltsNow_r1 ++ (wsX6_meltsNow_r2 ++ (wsX6_meltsNow_r3 ++ (wsX6_meltsNow_r4 ++ wsX6_meltsNow_r5)))) ++ wsX60 ++ wsX50)
def wsX6_meltsIn_r1 : List Cond := [Cond.fieldLink RX6 16 "WaxrowModel" "thrown" "I", Cond.methodLink RX6 82 yX6_isFigure, Cond.instanceMethod yX6_isFigure, Cond.selects RX6 yX6_isFigure yX6_isFigure, Cond.initialized RX6, Cond.code yX6_isFigure cX6_isFigure 2 (some .boolean), Cond.fieldLink RX6 10 "WaxrowModel" "house" "LWaxrowModel$House;", Cond.fieldLink RX6 36 "WaxrowModel$House" "figureCount" "I", Cond.methodLink RX6 32 yX6_in, Cond.static yX6_in, Cond.code yX6_in cX6_in 3 (some .boolean), Cond.methodLink RX6 42 yX6_no, Cond.instanceMethod yX6_no, Cond.selects RX6 yX6_no yX6_no, Cond.code yX6_no cX6_no 2 (some .int), Cond.methodLink RX6 170 yX6_meltsNow, Cond.instanceMethod yX6_meltsNow, Cond.selects RX6 yX6_meltsNow yX6_meltsNow, Cond.code yX6_meltsNow cX6_meltsNow 6 (some .int), Cond.fieldLink RX6 60 "WaxrowModel$House" "figures" "[[I", Cond.methodLink RX6 166 yX5_copy, Cond.instanceMethod yX5_copy, Cond.selects RX5 yX5_copy yX5_copy, Cond.initialized RX5]
def wsX6_meltsIn_r2 : List Cond := [Cond.code yX5_copy cX5_copy 2 (some (.object "WaxrowModel$House")), Cond.classLink RX5 12 RX5, Cond.instantiable RX5 14, Cond.fieldLink RX5 11 "WaxrowModel$House" "persons" "[[I", Cond.fieldLink RX5 16 "WaxrowModel$House" "low" "[[I", Cond.fieldLink RX5 19 "WaxrowModel$House" "high" "[[I", Cond.fieldLink RX5 22 "WaxrowModel$House" "figures" "[[I", Cond.fieldLink RX5 25 "WaxrowModel$House" "lamps" "[I", Cond.methodLink RX5 47 arraycopyName, Cond.native arraycopyName, Cond.static arraycopyName, Cond.initialized "java/lang/System", Cond.fieldLink RX5 29 "WaxrowModel$House" "spots" "[I", Cond.fieldLink RX5 53 "WaxrowModel$House" "personCount" "I", Cond.fieldLink RX5 56 "WaxrowModel$House" "figureCount" "I", Cond.fieldLink RX5 59 "WaxrowModel$House" "roomCount" "I", Cond.fieldLink RX5 62 "WaxrowModel$House" "day" "I", Cond.fieldLink RX5 65 "WaxrowModel$House" "came" "I", Cond.fieldLink RX5 32 "WaxrowModel$House" "price" "I", Cond.fieldLink RX5 36 "WaxrowModel$House" "money" "I", Cond.fieldLink RX5 39 "WaxrowModel$House" "wax" "I", Cond.methodLink RX5 42 yX5_init, Cond.instanceMethod yX5_init, Cond.code yX5_init cX5_init 1 none]
def wsX6_meltsIn_r3 : List Cond := [Cond.methodLink RX5 3 objectInit, Cond.instanceMethod objectInit, Cond.code objectInit ⟨#[0xb1]⟩ 1 none, Cond.classLink RX5 9 "[[I", Cond.arrayClass .int, Cond.methodLink RX5 43 yX5_rows, Cond.static yX5_rows, Cond.code yX5_rows cX5_rows 3 none, Cond.methodLink RX6 124 yX5_go, Cond.instanceMethod yX5_go, Cond.selects RX5 yX5_go yX5_go, Cond.code yX5_go cX5_go 8 (some .int), Cond.methodLink RX5 113 yX5_month, Cond.static yX5_month, Cond.code yX5_month cX5_month 2 none, Cond.static yX6_held, Cond.code yX6_held cX6_held 2 (some .int), Cond.methodLink RX6 20 Lib.Math.min.name, Cond.static Lib.Math.min.name, Cond.initialized "java/lang/Math", Cond.code Lib.Math.min.name Lib.Math.min.code 2 (some .int), Cond.methodLink RX6 26 Lib.Math.max.name, Cond.static Lib.Math.max.name, Cond.code Lib.Math.max.name Lib.Math.max.code 2 (some .int)]
def wsX6_meltsIn_r4 : List Cond := [Cond.methodLink RX5 102 yJ6_signum_0f7a4, Cond.static yJ6_signum_0f7a4, Cond.initialized RJ6, Cond.code yJ6_signum_0f7a4 cJ6_signum_0f7a4 1 (some .int), Cond.methodLink RX5 117 yX5_work, Cond.instanceMethod yX5_work, Cond.selects RX5 yX5_work yX5_work, Cond.code yX5_work cX5_work 3 (some .int), Cond.static yX6_needs, Cond.code yX6_needs cX6_needs 2 (some .int), Cond.methodLink RX5 110 yX5_doubt, Cond.instanceMethod yX5_doubt, Cond.selects RX5 yX5_doubt yX5_doubt, Cond.code yX5_doubt cX5_doubt 4 (some .int), Cond.methodLink RX5 120 yX5_drawsIn, Cond.instanceMethod yX5_drawsIn, Cond.selects RX5 yX5_drawsIn yX5_drawsIn, Cond.code yX5_drawsIn cX5_drawsIn 5 (some .int), Cond.methodLink RX5 96 yX5_draw, Cond.instanceMethod yX5_draw, Cond.selects RX5 yX5_draw yX5_draw, Cond.code yX5_draw cX5_draw 2 (some .int), Cond.methodLink RX5 85 yX5_isShown, Cond.instanceMethod yX5_isShown]
def wsX6_meltsIn_r5 : List Cond := [Cond.selects RX5 yX5_isShown yX5_isShown, Cond.code yX5_isShown cX5_isShown 2 (some .boolean), Cond.methodLink RX5 88 yX5_likeness, Cond.instanceMethod yX5_likeness, Cond.selects RX5 yX5_likeness yX5_likeness, Cond.code yX5_likeness cX5_likeness 3 (some .int), Cond.methodLink RX5 76 Lib.Math.abs.name, Cond.static Lib.Math.abs.name, Cond.code Lib.Math.abs.name Lib.Math.abs.code 1 (some .int), Cond.methodLink RX5 81 Lib.Math.max.name, Cond.methodLink RX5 68 yX5_isDone, Cond.instanceMethod yX5_isDone, Cond.selects RX5 yX5_isDone yX5_isDone, Cond.code yX5_isDone cX5_isDone 2 (some .boolean), Cond.methodLink RX5 72 yX5_height, Cond.instanceMethod yX5_height, Cond.selects RX5 yX5_height yX5_height, Cond.code yX5_height cX5_height 2 (some .int), Cond.methodLink RX5 123 yX5_wear, Cond.instanceMethod yX5_wear, Cond.selects RX5 yX5_wear yX5_wear, Cond.code yX5_wear cX5_wear 5 (some .int), Cond.methodLink RX5 127 yX5_travel, Cond.instanceMethod yX5_travel]
def wsX6_meltsIn_r6 : List Cond := [Cond.selects RX5 yX5_travel yX5_travel, Cond.code yX5_travel cX5_travel 2 none, Cond.methodLink RX5 131 Lib.Math.min.name]
def wsX6_meltsIn : List Cond := .code yX6_meltsIn cX6_meltsIn 4 (some .int) :: ((wsX6_meltsIn_r1 ++ (wsX6_meltsIn_r2 ++ (wsX6_meltsIn_r3 ++ (wsX6_meltsIn_r4 ++ (wsX6_meltsIn_r5 ++ wsX6_meltsIn_r6))))) ++ wsX60 ++ wsX50)
def wsX6_hasFigure : List Cond := .code yX6_hasFigure cX6_hasFigure 3 (some .boolean) :: ([.fieldLink RX6 10 "WaxrowModel" "house" "LWaxrowModel$House;", .fieldLink RX6 36 "WaxrowModel$House" "figureCount" "I", .fieldLink RX6 60 "WaxrowModel$House" "figures" "[[I"] ++ wsX60 ++ wsX50)
def wsX6_nextNow_r1 : List Cond := [Cond.fieldLink RX6 10 "WaxrowModel" "house" "LWaxrowModel$House;", Cond.fieldLink RX6 29 "WaxrowModel$House" "personCount" "I", Cond.fieldLink RX6 46 "WaxrowModel$House" "persons" "[[I", Cond.methodLink RX6 173 yX6_hasFigure, Cond.instanceMethod yX6_hasFigure, Cond.selects RX6 yX6_hasFigure yX6_hasFigure, Cond.initialized RX6, Cond.code yX6_hasFigure cX6_hasFigure 3 (some .boolean), Cond.fieldLink RX6 36 "WaxrowModel$House" "figureCount" "I", Cond.fieldLink RX6 60 "WaxrowModel$House" "figures" "[[I", Cond.methodLink RX6 159 yX6_fameNow, Cond.instanceMethod yX6_fameNow, Cond.selects RX6 yX6_fameNow yX6_fameNow, Cond.code yX6_fameNow cX6_fameNow 6 (some .int), Cond.arrayClass .int, Cond.methodLink RX6 76 arraycopyName, Cond.native arraycopyName, Cond.static arraycopyName, Cond.initialized "java/lang/System", Cond.methodLink RX6 155 yX5_month, Cond.static yX5_month, Cond.initialized RX5, Cond.code yX5_month cX5_month 2 none, Cond.static yX6_held]
def wsX6_nextNow_r2 : List Cond := [Cond.code yX6_held cX6_held 2 (some .int), Cond.methodLink RX6 20 Lib.Math.min.name, Cond.static Lib.Math.min.name, Cond.initialized "java/lang/Math", Cond.code Lib.Math.min.name Lib.Math.min.code 2 (some .int), Cond.methodLink RX6 26 Lib.Math.max.name, Cond.static Lib.Math.max.name, Cond.code Lib.Math.max.name Lib.Math.max.code 2 (some .int), Cond.methodLink RX5 102 yJ6_signum_0f7a4, Cond.static yJ6_signum_0f7a4, Cond.initialized RJ6, Cond.code yJ6_signum_0f7a4 cJ6_signum_0f7a4 1 (some .int), Cond.methodLink RX6 127 yX5_doubt, Cond.instanceMethod yX5_doubt, Cond.selects RX5 yX5_doubt yX5_doubt, Cond.code yX5_doubt cX5_doubt 4 (some .int), Cond.fieldLink RX5 19 "WaxrowModel$House" "high" "[[I", Cond.fieldLink RX5 16 "WaxrowModel$House" "low" "[[I"]
def wsX6_nextNow : List Cond := .code yX6_nextNow cX6_nextNow 4 (some .int) :: ((wsX6_nextNow_r1 ++ wsX6_nextNow_r2) ++ wsX60 ++ wsX50)
def wsX6_bestNext_r1 : List Cond := [Cond.fieldLink RX6 16 "WaxrowModel" "thrown" "I", Cond.methodLink RX6 176 yX6_nextNow, Cond.instanceMethod yX6_nextNow, Cond.selects RX6 yX6_nextNow yX6_nextNow, Cond.initialized RX6, Cond.code yX6_nextNow cX6_nextNow 4 (some .int), Cond.fieldLink RX6 10 "WaxrowModel" "house" "LWaxrowModel$House;", Cond.fieldLink RX6 29 "WaxrowModel$House" "personCount" "I", Cond.fieldLink RX6 46 "WaxrowModel$House" "persons" "[[I", Cond.methodLink RX6 173 yX6_hasFigure, Cond.instanceMethod yX6_hasFigure, Cond.selects RX6 yX6_hasFigure yX6_hasFigure, Cond.code yX6_hasFigure cX6_hasFigure 3 (some .boolean), Cond.fieldLink RX6 36 "WaxrowModel$House" "figureCount" "I", Cond.fieldLink RX6 60 "WaxrowModel$House" "figures" "[[I", Cond.methodLink RX6 159 yX6_fameNow, Cond.instanceMethod yX6_fameNow, Cond.selects RX6 yX6_fameNow yX6_fameNow, Cond.code yX6_fameNow cX6_fameNow 6 (some .int), Cond.arrayClass .int, Cond.methodLink RX6 76 arraycopyName, Cond.native arraycopyName, Cond.static arraycopyName, Cond.initialized "java/lang/System"]
def wsX6_bestNext_r2 : List Cond := [Cond.methodLink RX6 155 yX5_month, Cond.static yX5_month, Cond.initialized RX5, Cond.code yX5_month cX5_month 2 none, Cond.static yX6_held, Cond.code yX6_held cX6_held 2 (some .int), Cond.methodLink RX6 20 Lib.Math.min.name, Cond.static Lib.Math.min.name, Cond.initialized "java/lang/Math", Cond.code Lib.Math.min.name Lib.Math.min.code 2 (some .int), Cond.methodLink RX6 26 Lib.Math.max.name, Cond.static Lib.Math.max.name, Cond.code Lib.Math.max.name Lib.Math.max.code 2 (some .int), Cond.methodLink RX5 102 yJ6_signum_0f7a4, Cond.static yJ6_signum_0f7a4, Cond.initialized RJ6, Cond.code yJ6_signum_0f7a4 cJ6_signum_0f7a4 1 (some .int), Cond.methodLink RX6 127 yX5_doubt, Cond.instanceMethod yX5_doubt, Cond.selects RX5 yX5_doubt yX5_doubt, Cond.code yX5_doubt cX5_doubt 4 (some .int), Cond.fieldLink RX5 19 "WaxrowModel$House" "high" "[[I", Cond.fieldLink RX5 16 "WaxrowModel$House" "low" "[[I"]
def wsX6_bestNext : List Cond := .code yX6_bestNext cX6_bestNext 1 (some .int) :: ((wsX6_bestNext_r1 ++ wsX6_bestNext_r2) ++ wsX60 ++ wsX50)
def wsX6_digest_r1 : List Cond := [Cond.fieldLink RX6 16 "WaxrowModel" "thrown" "I", Cond.constantLong RX6 179 (58234), Cond.constantLong RX6 181 (31), Cond.fieldLink RX6 10 "WaxrowModel" "house" "LWaxrowModel$House;", Cond.fieldLink RX6 29 "WaxrowModel$House" "personCount" "I", Cond.fieldLink RX6 67 "WaxrowModel$House" "low" "[[I", Cond.fieldLink RX6 50 "WaxrowModel$House" "high" "[[I", Cond.fieldLink RX6 36 "WaxrowModel$House" "figureCount" "I", Cond.fieldLink RX6 60 "WaxrowModel$House" "figures" "[[I", Cond.fieldLink RX6 39 "WaxrowModel$House" "roomCount" "I", Cond.methodLink RX6 152 yX6_manyNow, Cond.instanceMethod yX6_manyNow, Cond.selects RX6 yX6_manyNow yX6_manyNow, Cond.initialized RX6, Cond.code yX6_manyNow cX6_manyNow 5 (some .int), Cond.fieldLink RX6 46 "WaxrowModel$House" "persons" "[[I", Cond.arrayClass .int, Cond.fieldLink RX6 143 "WaxrowModel$House" "day" "I", Cond.fieldLink RX6 70 "WaxrowModel$House" "money" "I", Cond.fieldLink RX6 99 "WaxrowModel$House" "wax" "I", Cond.fieldLink RX6 149 "WaxrowModel$House" "came" "I", Cond.fieldLink RX6 121 "WaxrowModel$House" "price" "I", Cond.methodLink RX6 89 yX5_isDone, Cond.instanceMethod yX5_isDone]
def wsX6_digest_r2 : List Cond := [Cond.selects RX5 yX5_isDone yX5_isDone, Cond.initialized RX5, Cond.code yX5_isDone cX5_isDone 2 (some .boolean), Cond.methodLink RX6 146 yX6_countAt, Cond.instanceMethod yX6_countAt, Cond.selects RX6 yX6_countAt yX6_countAt, Cond.code yX6_countAt cX6_countAt 5 (some .int), Cond.methodLink RX6 32 yX6_in, Cond.static yX6_in, Cond.code yX6_in cX6_in 3 (some .boolean), Cond.methodLink RX6 85 yX5_hands, Cond.instanceMethod yX5_hands, Cond.selects RX5 yX5_hands yX5_hands, Cond.code yX5_hands cX5_hands 3 (some .int), Cond.fieldLink RX5 56 "WaxrowModel$House" "figureCount" "I", Cond.fieldLink RX5 22 "WaxrowModel$House" "figures" "[[I", Cond.methodLink RX6 137 yX5_drawsIn, Cond.instanceMethod yX5_drawsIn, Cond.selects RX5 yX5_drawsIn yX5_drawsIn, Cond.code yX5_drawsIn cX5_drawsIn 5 (some .int), Cond.methodLink RX5 96 yX5_draw, Cond.instanceMethod yX5_draw, Cond.selects RX5 yX5_draw yX5_draw, Cond.code yX5_draw cX5_draw 2 (some .int)]
def wsX6_digest_r3 : List Cond := [Cond.fieldLink RX5 11 "WaxrowModel$House" "persons" "[[I", Cond.methodLink RX5 85 yX5_isShown, Cond.instanceMethod yX5_isShown, Cond.selects RX5 yX5_isShown yX5_isShown, Cond.code yX5_isShown cX5_isShown 2 (some .boolean), Cond.methodLink RX5 88 yX5_likeness, Cond.instanceMethod yX5_likeness, Cond.selects RX5 yX5_likeness yX5_likeness, Cond.code yX5_likeness cX5_likeness 3 (some .int), Cond.methodLink RX5 76 Lib.Math.abs.name, Cond.static Lib.Math.abs.name, Cond.initialized "java/lang/Math", Cond.code Lib.Math.abs.name Lib.Math.abs.code 1 (some .int), Cond.methodLink RX5 81 Lib.Math.max.name, Cond.static Lib.Math.max.name, Cond.code Lib.Math.max.name Lib.Math.max.code 2 (some .int), Cond.methodLink RX5 68 yX5_isDone, Cond.methodLink RX5 72 yX5_height, Cond.instanceMethod yX5_height, Cond.selects RX5 yX5_height yX5_height, Cond.code yX5_height cX5_height 2 (some .int), Cond.fieldLink RX5 16 "WaxrowModel$House" "low" "[[I", Cond.fieldLink RX5 19 "WaxrowModel$House" "high" "[[I", Cond.methodLink RX6 130 yX6_personNow]
def wsX6_digest_r4 : List Cond := [Cond.instanceMethod yX6_personNow, Cond.selects RX6 yX6_personNow yX6_personNow, Cond.code yX6_personNow cX6_personNow 4 (some .int), Cond.methodLink RX6 127 yX5_doubt, Cond.instanceMethod yX5_doubt, Cond.selects RX5 yX5_doubt yX5_doubt, Cond.code yX5_doubt cX5_doubt 4 (some .int), Cond.methodLink RX6 115 yX5_shownOf, Cond.instanceMethod yX5_shownOf, Cond.selects RX5 yX5_shownOf yX5_shownOf, Cond.code yX5_shownOf cX5_shownOf 3 (some .int), Cond.methodLink RX6 159 yX6_fameNow, Cond.instanceMethod yX6_fameNow, Cond.selects RX6 yX6_fameNow yX6_fameNow, Cond.code yX6_fameNow cX6_fameNow 6 (some .int), Cond.methodLink RX6 76 arraycopyName, Cond.native arraycopyName, Cond.static arraycopyName, Cond.initialized "java/lang/System", Cond.methodLink RX6 155 yX5_month, Cond.static yX5_month, Cond.code yX5_month cX5_month 2 none, Cond.static yX6_held, Cond.code yX6_held cX6_held 2 (some .int)]
def wsX6_digest_r5 : List Cond := [Cond.methodLink RX6 20 Lib.Math.min.name, Cond.static Lib.Math.min.name, Cond.code Lib.Math.min.name Lib.Math.min.code 2 (some .int), Cond.methodLink RX6 26 Lib.Math.max.name, Cond.methodLink RX5 102 yJ6_signum_0f7a4, Cond.static yJ6_signum_0f7a4, Cond.initialized RJ6, Cond.code yJ6_signum_0f7a4 cJ6_signum_0f7a4 1 (some .int), Cond.methodLink RX6 133 yX6_figureNow, Cond.instanceMethod yX6_figureNow, Cond.selects RX6 yX6_figureNow yX6_figureNow, Cond.code yX6_figureNow cX6_figureNow 4 (some .int), Cond.methodLink RX6 95 yX5_likeness, Cond.methodLink RX6 118 yX5_draw, Cond.methodLink RX6 163 yX6_readyNow, Cond.instanceMethod yX6_readyNow, Cond.selects RX6 yX6_readyNow yX6_readyNow, Cond.code yX6_readyNow cX6_readyNow 4 (some .int), Cond.methodLink RX6 73 yX6_needs, Cond.static yX6_needs, Cond.code yX6_needs cX6_needs 2 (some .int), Cond.methodLink RX6 170 yX6_meltsNow, Cond.instanceMethod yX6_meltsNow, Cond.selects RX6 yX6_meltsNow yX6_meltsNow]
def wsX6_digest_r6 : List Cond := [Cond.code yX6_meltsNow cX6_meltsNow 6 (some .int), Cond.methodLink RX6 166 yX5_copy, Cond.instanceMethod yX5_copy, Cond.selects RX5 yX5_copy yX5_copy, Cond.code yX5_copy cX5_copy 2 (some (.object "WaxrowModel$House")), Cond.classLink RX5 12 RX5, Cond.instantiable RX5 14, Cond.fieldLink RX5 25 "WaxrowModel$House" "lamps" "[I", Cond.methodLink RX5 47 arraycopyName, Cond.fieldLink RX5 29 "WaxrowModel$House" "spots" "[I", Cond.fieldLink RX5 53 "WaxrowModel$House" "personCount" "I", Cond.fieldLink RX5 59 "WaxrowModel$House" "roomCount" "I", Cond.fieldLink RX5 62 "WaxrowModel$House" "day" "I", Cond.fieldLink RX5 65 "WaxrowModel$House" "came" "I", Cond.fieldLink RX5 32 "WaxrowModel$House" "price" "I", Cond.fieldLink RX5 36 "WaxrowModel$House" "money" "I", Cond.fieldLink RX5 39 "WaxrowModel$House" "wax" "I", Cond.methodLink RX5 42 yX5_init, Cond.instanceMethod yX5_init, Cond.code yX5_init cX5_init 1 none, Cond.methodLink RX5 3 objectInit, Cond.instanceMethod objectInit, Cond.code objectInit ⟨#[0xb1]⟩ 1 none, Cond.classLink RX5 9 "[[I"]
def wsX6_digest_r7 : List Cond := [Cond.methodLink RX5 43 yX5_rows, Cond.static yX5_rows, Cond.code yX5_rows cX5_rows 3 none, Cond.methodLink RX6 124 yX5_go, Cond.instanceMethod yX5_go, Cond.selects RX5 yX5_go yX5_go, Cond.code yX5_go cX5_go 8 (some .int), Cond.methodLink RX5 113 yX5_month, Cond.methodLink RX5 117 yX5_work, Cond.instanceMethod yX5_work, Cond.selects RX5 yX5_work yX5_work, Cond.code yX5_work cX5_work 3 (some .int), Cond.methodLink RX5 110 yX5_doubt, Cond.methodLink RX5 120 yX5_drawsIn, Cond.methodLink RX5 123 yX5_wear, Cond.instanceMethod yX5_wear, Cond.selects RX5 yX5_wear yX5_wear, Cond.code yX5_wear cX5_wear 5 (some .int), Cond.methodLink RX5 127 yX5_travel, Cond.instanceMethod yX5_travel, Cond.selects RX5 yX5_travel yX5_travel, Cond.code yX5_travel cX5_travel 2 none, Cond.methodLink RX5 131 Lib.Math.min.name, Cond.methodLink RX6 140 yX6_roomNow]
def wsX6_digest_r8 : List Cond := [Cond.instanceMethod yX6_roomNow, Cond.selects RX6 yX6_roomNow yX6_roomNow, Cond.code yX6_roomNow cX6_roomNow 4 (some .int), Cond.fieldLink RX6 102 "WaxrowModel$House" "lamps" "[I", Cond.fieldLink RX6 106 "WaxrowModel$House" "spots" "[I", Cond.methodLink RX6 112 yX5_shownIn, Cond.instanceMethod yX5_shownIn, Cond.selects RX5 yX5_shownIn yX5_shownIn, Cond.code yX5_shownIn cX5_shownIn 4 (some .int), Cond.methodLink RX6 176 yX6_nextNow, Cond.instanceMethod yX6_nextNow, Cond.selects RX6 yX6_nextNow yX6_nextNow, Cond.code yX6_nextNow cX6_nextNow 4 (some .int), Cond.methodLink RX6 173 yX6_hasFigure, Cond.instanceMethod yX6_hasFigure, Cond.selects RX6 yX6_hasFigure yX6_hasFigure, Cond.code yX6_hasFigure cX6_hasFigure 3 (some .boolean)]
def wsX6_digest : List Cond := .code yX6_digest cX6_digest 5 (some .long) :: ((wsX6_digest_r1 ++ (wsX6_digest_r2 ++ (wsX6_digest_r3 ++ (wsX6_digest_r4 ++ (wsX6_digest_r5 ++ (wsX6_digest_r6 ++ (wsX6_digest_r7 ++ wsX6_digest_r8))))))) ++ wsX60 ++ wsX50)
def wsJ9_abs_0f7a4 : List Cond := .code yJ9_abs_0f7a4 cJ9_abs_0f7a4 1 (some .int) :: ([])
def wsJ9_max_7cf53 : List Cond := .code yJ9_max_7cf53 cJ9_max_7cf53 2 (some .int) :: ([])
def wsJ9_min_7cf53 : List Cond := .code yJ9_min_7cf53 cJ9_min_7cf53 2 (some .int) :: ([])
def wsL_person_r1 : List Cond := [Cond.classLink RL 13 "java/lang/IllegalArgumentException", Cond.classLink RL 15 "java/lang/IllegalStateException", Cond.methodLink RL 7 yX4_person, Cond.instanceMethod yX4_person, Cond.selects RX4 yX4_person yX4_person, Cond.initialized RX4, Cond.code yX4_person cX4_person 4 (some .int), Cond.fieldLink RX4 10 "Waxrow" "house" "LWaxrow$House;", Cond.fieldLink RX4 23 "Waxrow$House" "personCount" "I", Cond.methodLink RX4 19 yX4_checkArgument, Cond.static yX4_checkArgument, Cond.code yX4_checkArgument cX4_checkArgument 3 none, Cond.classLink RX4 113 "java/lang/IllegalArgumentException", Cond.initialized "java/lang/IllegalArgumentException", Cond.methodLink RX4 27 yX4_checkState, Cond.static yX4_checkState, Cond.code yX4_checkState cX4_checkState 1 none, Cond.classLink RX4 286 "java/lang/IllegalStateException", Cond.initialized "java/lang/IllegalStateException", Cond.methodLink RX4 31 yX1_addPerson, Cond.instanceMethod yX1_addPerson, Cond.selects RX1 yX1_addPerson yX1_addPerson, Cond.initialized RX1, Cond.code yX1_addPerson cX1_addPerson 6 (some .int)]
def wsL_person_r2 : List Cond := [Cond.fieldLink RX1 46 "Waxrow$House" "personCount" "I", Cond.fieldLink RX1 91 "Waxrow$Person" "fame" "[I", Cond.methodLink RX1 71 yX1_personAt, Cond.instanceMethod yX1_personAt, Cond.selects RX1 yX1_personAt yX1_personAt, Cond.code yX1_personAt cX1_personAt 2 (some (.object "Waxrow$Person")), Cond.fieldLink RX1 11 "Waxrow$House" "persons" "[LWaxrow$Person;", Cond.static yX4_checkIndex, Cond.code yX4_checkIndex cX4_checkIndex 2 none, Cond.classLink RX4 279 "java/lang/IndexOutOfBoundsException", Cond.initialized "java/lang/IndexOutOfBoundsException"]
def wsL_person : List Cond := .codeWith yL_person cL_person 6 (some .int) [(0, 12, 15, 13), (0, 12, 19, 15)] :: ((wsL_person_r1 ++ wsL_person_r2) ++ wsX40 ++ wsX10 ++ wsX20 ++ (vx_atS RX4 117 "java/lang/IllegalArgumentException" ["java/lang/RuntimeException", "java/lang/Exception"]).filter goodWord ++ (vx_atS RX4 290 "java/lang/IllegalStateException" ["java/lang/RuntimeException", "java/lang/Exception"]).filter goodWord ++ (vx_atS RX4 283 "java/lang/IndexOutOfBoundsException" ["java/lang/RuntimeException", "java/lang/Exception"]).filter goodWord)
def wsL_trend_r1 : List Cond := [Cond.classLink RL 20 "java/lang/IndexOutOfBoundsException", Cond.classLink RL 13 "java/lang/IllegalArgumentException", Cond.methodLink RL 17 yX4_trend, Cond.instanceMethod yX4_trend, Cond.selects RX4 yX4_trend yX4_trend, Cond.initialized RX4, Cond.code yX4_trend cX4_trend 6 (some .int), Cond.fieldLink RX4 10 "Waxrow" "house" "LWaxrow$House;", Cond.fieldLink RX4 43 "Waxrow$Person" "trend" "[I", Cond.methodLink RX4 35 yX1_personAt, Cond.instanceMethod yX1_personAt, Cond.selects RX1 yX1_personAt yX1_personAt, Cond.initialized RX1, Cond.code yX1_personAt cX1_personAt 2 (some (.object "Waxrow$Person")), Cond.fieldLink RX1 46 "Waxrow$House" "personCount" "I", Cond.fieldLink RX1 11 "Waxrow$House" "persons" "[LWaxrow$Person;", Cond.static yX4_checkIndex, Cond.code yX4_checkIndex cX4_checkIndex 2 none, Cond.classLink RX4 279 "java/lang/IndexOutOfBoundsException", Cond.initialized "java/lang/IndexOutOfBoundsException", Cond.methodLink RX4 39 yX4_checkIndex, Cond.methodLink RX4 19 yX4_checkArgument, Cond.static yX4_checkArgument, Cond.code yX4_checkArgument cX4_checkArgument 3 none]
def wsL_trend_r2 : List Cond := [Cond.classLink RX4 113 "java/lang/IllegalArgumentException", Cond.initialized "java/lang/IllegalArgumentException"]
def wsL_trend : List Cond := .codeWith yL_trend cL_trend 6 (some .int) [(0, 12, 15, 20), (0, 12, 19, 13)] :: ((wsL_trend_r1 ++ wsL_trend_r2) ++ wsX40 ++ wsX20 ++ wsX10 ++ (vx_atS RX4 283 "java/lang/IndexOutOfBoundsException" ["java/lang/RuntimeException", "java/lang/Exception"]).filter goodWord ++ (vx_atS RX4 117 "java/lang/IllegalArgumentException" ["java/lang/RuntimeException", "java/lang/Exception"]).filter goodWord)
def wsL_news_r1 : List Cond := [Cond.classLink RL 20 "java/lang/IndexOutOfBoundsException", Cond.classLink RL 13 "java/lang/IllegalArgumentException", Cond.methodLink RL 22 yX4_news, Cond.instanceMethod yX4_news, Cond.selects RX4 yX4_news yX4_news, Cond.initialized RX4, Cond.code yX4_news cX4_news 4 (some .int), Cond.fieldLink RX4 10 "Waxrow" "house" "LWaxrow$House;", Cond.fieldLink RX4 53 "Waxrow$Person" "fame" "[I", Cond.methodLink RX4 35 yX1_personAt, Cond.instanceMethod yX1_personAt, Cond.selects RX1 yX1_personAt yX1_personAt, Cond.initialized RX1, Cond.code yX1_personAt cX1_personAt 2 (some (.object "Waxrow$Person")), Cond.fieldLink RX1 46 "Waxrow$House" "personCount" "I", Cond.fieldLink RX1 11 "Waxrow$House" "persons" "[LWaxrow$Person;", Cond.static yX4_checkIndex, Cond.code yX4_checkIndex cX4_checkIndex 2 none, Cond.classLink RX4 279 "java/lang/IndexOutOfBoundsException", Cond.initialized "java/lang/IndexOutOfBoundsException", Cond.methodLink RX4 19 yX4_checkArgument, Cond.static yX4_checkArgument, Cond.code yX4_checkArgument cX4_checkArgument 3 none, Cond.classLink RX4 113 "java/lang/IllegalArgumentException"]
def wsL_news_r2 : List Cond := [Cond.initialized "java/lang/IllegalArgumentException", Cond.methodLink RX4 49 yX2_changeFame, Cond.instanceMethod yX2_changeFame, Cond.selects RX2 yX2_changeFame yX2_changeFame, Cond.initialized RX2, Cond.code yX2_changeFame cX2_changeFame 3 none, Cond.fieldLink RX2 15 "Waxrow$Person" "fame" "[I", Cond.methodLink RX2 38 yX2_heldFame, Cond.static yX2_heldFame, Cond.code yX2_heldFame cX2_heldFame 1 (some .int)]
def wsL_news : List Cond := .codeWith yL_news cL_news 5 (some .int) [(0, 10, 13, 20), (0, 10, 17, 13)] :: ((wsL_news_r1 ++ wsL_news_r2) ++ wsX40 ++ wsX20 ++ wsX10 ++ (vx_atS RX4 283 "java/lang/IndexOutOfBoundsException" ["java/lang/RuntimeException", "java/lang/Exception"]).filter goodWord ++ (vx_atS RX4 117 "java/lang/IllegalArgumentException" ["java/lang/RuntimeException", "java/lang/Exception"]).filter goodWord)
def wsL_consent_r1 : List Cond := [Cond.classLink RL 20 "java/lang/IndexOutOfBoundsException", Cond.methodLink RL 26 yX4_consent, Cond.instanceMethod yX4_consent, Cond.selects RX4 yX4_consent yX4_consent, Cond.initialized RX4, Cond.code yX4_consent cX4_consent 4 (some .int), Cond.fieldLink RX4 10 "Waxrow" "house" "LWaxrow$House;", Cond.fieldLink RX4 56 "Waxrow$Person" "consents" "Z", Cond.methodLink RX4 35 yX1_personAt, Cond.instanceMethod yX1_personAt, Cond.selects RX1 yX1_personAt yX1_personAt, Cond.initialized RX1, Cond.code yX1_personAt cX1_personAt 2 (some (.object "Waxrow$Person")), Cond.fieldLink RX1 46 "Waxrow$House" "personCount" "I", Cond.fieldLink RX1 11 "Waxrow$House" "persons" "[LWaxrow$Person;", Cond.static yX4_checkIndex, Cond.code yX4_checkIndex cX4_checkIndex 2 none, Cond.classLink RX4 279 "java/lang/IndexOutOfBoundsException", Cond.initialized "java/lang/IndexOutOfBoundsException", Cond.methodLink RX4 60 yX1_takeAllOf, Cond.instanceMethod yX1_takeAllOf, Cond.selects RX1 yX1_takeAllOf yX1_takeAllOf, Cond.code yX1_takeAllOf cX1_takeAllOf 5 (some .int), Cond.fieldLink RX1 49 "Waxrow$House" "figureCount" "I"]
def wsL_consent_r2 : List Cond := [Cond.fieldLink RX1 22 "Waxrow$House" "figures" "[LWaxrow$Figure;", Cond.fieldLink RX1 64 "Waxrow$Figure" "head" "LWaxrow$Person;", Cond.fieldLink RX1 107 "Waxrow$Figure" "place" "I", Cond.methodLink RX1 103 yX0_isShown, Cond.instanceMethod yX0_isShown, Cond.selects RX0 yX0_isShown yX0_isShown, Cond.initialized RX0, Cond.code yX0_isShown cX0_isShown 1 (some .boolean), Cond.fieldLink RX0 18 "Waxrow$Figure" "place" "I"]
def wsL_consent : List Cond := .codeWith yL_consent cL_consent 5 (some .int) [(0, 10, 13, 20)] :: ((wsL_consent_r1 ++ wsL_consent_r2) ++ wsX40 ++ wsX20 ++ wsX10 ++ wsX00 ++ (vx_atS RX4 283 "java/lang/IndexOutOfBoundsException" ["java/lang/RuntimeException", "java/lang/Exception"]).filter goodWord)
def wsL_measure_r1 : List Cond := [Cond.classLink RL 20 "java/lang/IndexOutOfBoundsException", Cond.classLink RL 13 "java/lang/IllegalArgumentException", Cond.methodLink RL 30 yX4_measure, Cond.instanceMethod yX4_measure, Cond.selects RX4 yX4_measure yX4_measure, Cond.initialized RX4, Cond.code yX4_measure cX4_measure 6 (some .int), Cond.fieldLink RX4 10 "Waxrow" "house" "LWaxrow$House;", Cond.methodLink RX4 64 Lib.Math.max.name, Cond.static Lib.Math.max.name, Cond.initialized "java/lang/Math", Cond.code Lib.Math.max.name Lib.Math.max.code 2 (some .int), Cond.methodLink RX4 70 Lib.Math.min.name, Cond.static Lib.Math.min.name, Cond.code Lib.Math.min.name Lib.Math.min.code 2 (some .int), Cond.fieldLink RX4 76 "Waxrow$Person" "high" "[I", Cond.fieldLink RX4 79 "Waxrow$Person" "low" "[I", Cond.methodLink RX4 35 yX1_personAt, Cond.instanceMethod yX1_personAt, Cond.selects RX1 yX1_personAt yX1_personAt, Cond.initialized RX1, Cond.code yX1_personAt cX1_personAt 2 (some (.object "Waxrow$Person")), Cond.fieldLink RX1 46 "Waxrow$House" "personCount" "I", Cond.fieldLink RX1 11 "Waxrow$House" "persons" "[LWaxrow$Person;"]
def wsL_measure_r2 : List Cond := [Cond.static yX4_checkIndex, Cond.code yX4_checkIndex cX4_checkIndex 2 none, Cond.classLink RX4 279 "java/lang/IndexOutOfBoundsException", Cond.initialized "java/lang/IndexOutOfBoundsException", Cond.methodLink RX4 39 yX4_checkIndex, Cond.methodLink RX4 19 yX4_checkArgument, Cond.static yX4_checkArgument, Cond.code yX4_checkArgument cX4_checkArgument 3 none, Cond.classLink RX4 113 "java/lang/IllegalArgumentException", Cond.initialized "java/lang/IllegalArgumentException", Cond.methodLink RX4 73 yX2_learn, Cond.instanceMethod yX2_learn, Cond.selects RX2 yX2_learn yX2_learn, Cond.initialized RX2, Cond.code yX2_learn cX2_learn 7 none, Cond.fieldLink RX2 22 "Waxrow$Person" "low" "[I", Cond.methodLink RX2 45 Lib.Math.max.name, Cond.fieldLink RX2 25 "Waxrow$Person" "high" "[I", Cond.methodLink RX2 51 Lib.Math.min.name, Cond.fieldLink RX2 35 "Waxrow$Person" "clashes" "I"]
def wsL_measure : List Cond := .codeWith yL_measure cL_measure 7 (some .int) [(0, 14, 17, 20), (0, 14, 21, 13)] :: ((wsL_measure_r1 ++ wsL_measure_r2) ++ wsX40 ++ wsX20 ++ wsX10 ++ (vx_atS RX4 283 "java/lang/IndexOutOfBoundsException" ["java/lang/RuntimeException", "java/lang/Exception"]).filter goodWord ++ (vx_atS RX4 117 "java/lang/IllegalArgumentException" ["java/lang/RuntimeException", "java/lang/Exception"]).filter goodWord)
def wsL_pay : List Cond := .codeWith yL_pay cL_pay 4 (some .int) [(0, 9, 12, 20)] :: ([.classLink RL 20 "java/lang/IndexOutOfBoundsException", .methodLink RL 34 yX4_pay, .instanceMethod yX4_pay, .selects RX4 yX4_pay yX4_pay, .initialized RX4, .code yX4_pay cX4_pay 4 (some .int), .fieldLink RX4 10 "Waxrow" "house" "LWaxrow$House;", .fieldLink RX4 82 "Waxrow$Person" "due" "I", .fieldLink RX4 85 "Waxrow$House" "money" "I", .methodLink RX4 35 yX1_personAt, .instanceMethod yX1_personAt, .selects RX1 yX1_personAt yX1_personAt, .initialized RX1, .code yX1_personAt cX1_personAt 2 (some (.object "Waxrow$Person")), .fieldLink RX1 46 "Waxrow$House" "personCount" "I", .fieldLink RX1 11 "Waxrow$House" "persons" "[LWaxrow$Person;", .static yX4_checkIndex, .code yX4_checkIndex cX4_checkIndex 2 none, .classLink RX4 279 "java/lang/IndexOutOfBoundsException", .initialized "java/lang/IndexOutOfBoundsException"] ++ wsX40 ++ wsX20 ++ wsX10 ++ (vx_atS RX4 283 "java/lang/IndexOutOfBoundsException" ["java/lang/RuntimeException", "java/lang/Exception"]).filter goodWord)
def wsL_figure_r1 : List Cond := [Cond.classLink RL 20 "java/lang/IndexOutOfBoundsException", Cond.classLink RL 15 "java/lang/IllegalStateException", Cond.methodLink RL 38 yX4_figure, Cond.instanceMethod yX4_figure, Cond.selects RX4 yX4_figure yX4_figure, Cond.initialized RX4, Cond.code yX4_figure cX4_figure 3 (some .int), Cond.fieldLink RX4 10 "Waxrow" "house" "LWaxrow$House;", Cond.fieldLink RX4 88 "Waxrow$House" "figureCount" "I", Cond.methodLink RX4 35 yX1_personAt, Cond.instanceMethod yX1_personAt, Cond.selects RX1 yX1_personAt yX1_personAt, Cond.initialized RX1, Cond.code yX1_personAt cX1_personAt 2 (some (.object "Waxrow$Person")), Cond.fieldLink RX1 46 "Waxrow$House" "personCount" "I", Cond.fieldLink RX1 11 "Waxrow$House" "persons" "[LWaxrow$Person;", Cond.static yX4_checkIndex, Cond.code yX4_checkIndex cX4_checkIndex 2 none, Cond.classLink RX4 279 "java/lang/IndexOutOfBoundsException", Cond.initialized "java/lang/IndexOutOfBoundsException", Cond.methodLink RX4 27 yX4_checkState, Cond.static yX4_checkState, Cond.code yX4_checkState cX4_checkState 1 none, Cond.classLink RX4 286 "java/lang/IllegalStateException"]
def wsL_figure_r2 : List Cond := [Cond.initialized "java/lang/IllegalStateException", Cond.methodLink RX4 91 yX1_addFigure, Cond.instanceMethod yX1_addFigure, Cond.selects RX1 yX1_addFigure yX1_addFigure, Cond.code yX1_addFigure cX1_addFigure 4 (some .int), Cond.fieldLink RX1 49 "Waxrow$House" "figureCount" "I", Cond.fieldLink RX1 64 "Waxrow$Figure" "head" "LWaxrow$Person;", Cond.fieldLink RX1 75 "Waxrow$Figure" "body" "LWaxrow$Person;", Cond.methodLink RX1 95 yX1_figureAt, Cond.instanceMethod yX1_figureAt, Cond.selects RX1 yX1_figureAt yX1_figureAt, Cond.code yX1_figureAt cX1_figureAt 2 (some (.object "Waxrow$Figure")), Cond.fieldLink RX1 22 "Waxrow$House" "figures" "[LWaxrow$Figure;"]
def wsL_figure : List Cond := .codeWith yL_figure cL_figure 4 (some .int) [(0, 9, 12, 20), (0, 9, 15, 15)] :: ((wsL_figure_r1 ++ wsL_figure_r2) ++ wsX40 ++ wsX10 ++ wsX00 ++ (vx_atS RX4 283 "java/lang/IndexOutOfBoundsException" ["java/lang/RuntimeException", "java/lang/Exception"]).filter goodWord ++ (vx_atS RX4 290 "java/lang/IllegalStateException" ["java/lang/RuntimeException", "java/lang/Exception"]).filter goodWord)
def wsL_work_r1 : List Cond := [Cond.classLink RL 20 "java/lang/IndexOutOfBoundsException", Cond.classLink RL 13 "java/lang/IllegalArgumentException", Cond.classLink RL 15 "java/lang/IllegalStateException", Cond.methodLink RL 41 yX4_work, Cond.instanceMethod yX4_work, Cond.selects RX4 yX4_work yX4_work, Cond.initialized RX4, Cond.code yX4_work cX4_work 5 (some .int), Cond.fieldLink RX4 10 "Waxrow" "house" "LWaxrow$House;", Cond.fieldLink RX4 102 "Waxrow$Figure" "hands" "I", Cond.fieldLink RX4 107 "Waxrow$Figure" "step" "I", Cond.fieldLink RX4 110 "Waxrow$Figure" "place" "I", Cond.methodLink RX4 94 yX1_figureAt, Cond.instanceMethod yX1_figureAt, Cond.selects RX1 yX1_figureAt yX1_figureAt, Cond.initialized RX1, Cond.code yX1_figureAt cX1_figureAt 2 (some (.object "Waxrow$Figure")), Cond.fieldLink RX1 49 "Waxrow$House" "figureCount" "I", Cond.fieldLink RX1 22 "Waxrow$House" "figures" "[LWaxrow$Figure;", Cond.static yX4_checkIndex, Cond.code yX4_checkIndex cX4_checkIndex 2 none, Cond.classLink RX4 279 "java/lang/IndexOutOfBoundsException", Cond.initialized "java/lang/IndexOutOfBoundsException", Cond.methodLink RX4 19 yX4_checkArgument]
def wsL_work_r2 : List Cond := [Cond.static yX4_checkArgument, Cond.code yX4_checkArgument cX4_checkArgument 3 none, Cond.classLink RX4 113 "java/lang/IllegalArgumentException", Cond.initialized "java/lang/IllegalArgumentException", Cond.methodLink RX4 98 yX1_allHands, Cond.instanceMethod yX1_allHands, Cond.selects RX1 yX1_allHands yX1_allHands, Cond.code yX1_allHands cX1_allHands 3 (some .int), Cond.fieldLink RX1 132 "Waxrow$Figure" "hands" "I", Cond.methodLink RX4 27 yX4_checkState, Cond.static yX4_checkState, Cond.code yX4_checkState cX4_checkState 1 none, Cond.classLink RX4 286 "java/lang/IllegalStateException", Cond.initialized "java/lang/IllegalStateException"]
def wsL_work : List Cond := .codeWith yL_work cL_work 5 (some .int) [(0, 10, 13, 20), (0, 10, 17, 13), (0, 10, 21, 15)] :: ((wsL_work_r1 ++ wsL_work_r2) ++ wsX40 ++ wsX00 ++ wsX10 ++ (vx_atS RX4 283 "java/lang/IndexOutOfBoundsException" ["java/lang/RuntimeException", "java/lang/Exception"]).filter goodWord ++ (vx_atS RX4 117 "java/lang/IllegalArgumentException" ["java/lang/RuntimeException", "java/lang/Exception"]).filter goodWord ++ (vx_atS RX4 290 "java/lang/IllegalStateException" ["java/lang/RuntimeException", "java/lang/Exception"]).filter goodWord)
def wsL_swap_r1 : List Cond := [Cond.classLink RL 20 "java/lang/IndexOutOfBoundsException", Cond.classLink RL 13 "java/lang/IllegalArgumentException", Cond.classLink RL 15 "java/lang/IllegalStateException", Cond.methodLink RL 44 yX4_swap, Cond.instanceMethod yX4_swap, Cond.selects RX4 yX4_swap yX4_swap, Cond.initialized RX4, Cond.code yX4_swap cX4_swap 5 (some .int), Cond.classLink RX4 113 "java/lang/IllegalArgumentException", Cond.initialized "java/lang/IllegalArgumentException", Cond.fieldLink RX4 10 "Waxrow" "house" "LWaxrow$House;", Cond.methodLink RX4 94 yX1_figureAt, Cond.instanceMethod yX1_figureAt, Cond.selects RX1 yX1_figureAt yX1_figureAt, Cond.initialized RX1, Cond.code yX1_figureAt cX1_figureAt 2 (some (.object "Waxrow$Figure")), Cond.fieldLink RX1 49 "Waxrow$House" "figureCount" "I", Cond.fieldLink RX1 22 "Waxrow$House" "figures" "[LWaxrow$Figure;", Cond.static yX4_checkIndex, Cond.code yX4_checkIndex cX4_checkIndex 2 none, Cond.classLink RX4 279 "java/lang/IndexOutOfBoundsException", Cond.initialized "java/lang/IndexOutOfBoundsException", Cond.methodLink RX4 120 yX0_isReadyInStore, Cond.instanceMethod yX0_isReadyInStore]
def wsL_swap_r2 : List Cond := [Cond.selects RX0 yX0_isReadyInStore yX0_isReadyInStore, Cond.initialized RX0, Cond.code yX0_isReadyInStore cX0_isReadyInStore 1 (some .boolean), Cond.fieldLink RX0 22 "Waxrow$Figure" "step" "I", Cond.fieldLink RX0 18 "Waxrow$Figure" "place" "I", Cond.methodLink RX4 27 yX4_checkState, Cond.static yX4_checkState, Cond.code yX4_checkState cX4_checkState 1 none, Cond.classLink RX4 286 "java/lang/IllegalStateException", Cond.initialized "java/lang/IllegalStateException", Cond.methodLink RX4 124 yX0_swapHeadWith, Cond.instanceMethod yX0_swapHeadWith, Cond.selects RX0 yX0_swapHeadWith yX0_swapHeadWith, Cond.code yX0_swapHeadWith cX0_swapHeadWith 4 none, Cond.fieldLink RX0 9 "Waxrow$Figure" "head" "LWaxrow$Person;", Cond.fieldLink RX0 31 "Waxrow$Figure" "flaw" "I", Cond.methodLink RX4 128 yX0_likeness, Cond.instanceMethod yX0_likeness, Cond.selects RX0 yX0_likeness yX0_likeness, Cond.code yX0_likeness cX0_likeness 3 (some .int), Cond.fieldLink RX0 34 "Waxrow$Figure" "wear" "I", Cond.fieldLink RX0 15 "Waxrow$Figure" "body" "LWaxrow$Person;", Cond.methodLink RX0 56 yX0_isDone, Cond.instanceMethod yX0_isDone]
def wsL_swap_r3 : List Cond := [Cond.selects RX0 yX0_isDone yX0_isDone, Cond.code yX0_isDone cX0_isDone 1 (some .boolean), Cond.methodLink RX0 60 yX2_doubleHeight, Cond.instanceMethod yX2_doubleHeight, Cond.selects RX2 yX2_doubleHeight yX2_doubleHeight, Cond.initialized RX2, Cond.code yX2_doubleHeight cX2_doubleHeight 1 (some .int), Cond.fieldLink RX2 22 "Waxrow$Person" "low" "[I", Cond.fieldLink RX2 25 "Waxrow$Person" "high" "[I"]
def wsL_swap : List Cond := .codeWith yL_swap cL_swap 5 (some .int) [(0, 10, 13, 20), (0, 10, 17, 13), (0, 10, 21, 15)] :: ((wsL_swap_r1 ++ (wsL_swap_r2 ++ wsL_swap_r3)) ++ wsX40 ++ wsX10 ++ wsX00 ++ wsX20 ++ (vx_atS RX4 117 "java/lang/IllegalArgumentException" ["java/lang/RuntimeException", "java/lang/Exception"]).filter goodWord ++ (vx_atS RX4 283 "java/lang/IndexOutOfBoundsException" ["java/lang/RuntimeException", "java/lang/Exception"]).filter goodWord ++ (vx_atS RX4 290 "java/lang/IllegalStateException" ["java/lang/RuntimeException", "java/lang/Exception"]).filter goodWord)
def wsL_mend_r1 : List Cond := [Cond.classLink RL 20 "java/lang/IndexOutOfBoundsException", Cond.classLink RL 15 "java/lang/IllegalStateException", Cond.methodLink RL 47 yX4_mend, Cond.instanceMethod yX4_mend, Cond.selects RX4 yX4_mend yX4_mend, Cond.initialized RX4, Cond.code yX4_mend cX4_mend 4 (some .int), Cond.fieldLink RX4 10 "Waxrow" "house" "LWaxrow$House;", Cond.fieldLink RX4 131 "Waxrow$Figure" "wear" "I", Cond.fieldLink RX4 134 "Waxrow$House" "wax" "I", Cond.methodLink RX4 70 Lib.Math.min.name, Cond.static Lib.Math.min.name, Cond.initialized "java/lang/Math", Cond.code Lib.Math.min.name Lib.Math.min.code 2 (some .int), Cond.methodLink RX4 94 yX1_figureAt, Cond.instanceMethod yX1_figureAt, Cond.selects RX1 yX1_figureAt yX1_figureAt, Cond.initialized RX1, Cond.code yX1_figureAt cX1_figureAt 2 (some (.object "Waxrow$Figure")), Cond.fieldLink RX1 49 "Waxrow$House" "figureCount" "I", Cond.fieldLink RX1 22 "Waxrow$House" "figures" "[LWaxrow$Figure;", Cond.static yX4_checkIndex, Cond.code yX4_checkIndex cX4_checkIndex 2 none, Cond.classLink RX4 279 "java/lang/IndexOutOfBoundsException"]
def wsL_mend_r2 : List Cond := [Cond.initialized "java/lang/IndexOutOfBoundsException", Cond.methodLink RX4 120 yX0_isReadyInStore, Cond.instanceMethod yX0_isReadyInStore, Cond.selects RX0 yX0_isReadyInStore yX0_isReadyInStore, Cond.initialized RX0, Cond.code yX0_isReadyInStore cX0_isReadyInStore 1 (some .boolean), Cond.fieldLink RX0 22 "Waxrow$Figure" "step" "I", Cond.fieldLink RX0 18 "Waxrow$Figure" "place" "I", Cond.methodLink RX4 27 yX4_checkState, Cond.static yX4_checkState, Cond.code yX4_checkState cX4_checkState 1 none, Cond.classLink RX4 286 "java/lang/IllegalStateException", Cond.initialized "java/lang/IllegalStateException"]
def wsL_mend : List Cond := .codeWith yL_mend cL_mend 4 (some .int) [(0, 9, 12, 20), (0, 9, 15, 15)] :: ((wsL_mend_r1 ++ wsL_mend_r2) ++ wsX40 ++ wsX00 ++ wsX10 ++ (vx_atS RX4 283 "java/lang/IndexOutOfBoundsException" ["java/lang/RuntimeException", "java/lang/Exception"]).filter goodWord ++ (vx_atS RX4 290 "java/lang/IllegalStateException" ["java/lang/RuntimeException", "java/lang/Exception"]).filter goodWord)
def wsL_melt_r1 : List Cond := [Cond.classLink RL 20 "java/lang/IndexOutOfBoundsException", Cond.classLink RL 15 "java/lang/IllegalStateException", Cond.methodLink RL 50 yX4_melt, Cond.instanceMethod yX4_melt, Cond.selects RX4 yX4_melt yX4_melt, Cond.initialized RX4, Cond.code yX4_melt cX4_melt 3 (some .int), Cond.fieldLink RX4 10 "Waxrow" "house" "LWaxrow$House;", Cond.fieldLink RX4 110 "Waxrow$Figure" "place" "I", Cond.fieldLink RX4 107 "Waxrow$Figure" "step" "I", Cond.fieldLink RX4 134 "Waxrow$House" "wax" "I", Cond.methodLink RX4 94 yX1_figureAt, Cond.instanceMethod yX1_figureAt, Cond.selects RX1 yX1_figureAt yX1_figureAt, Cond.initialized RX1, Cond.code yX1_figureAt cX1_figureAt 2 (some (.object "Waxrow$Figure")), Cond.fieldLink RX1 49 "Waxrow$House" "figureCount" "I", Cond.fieldLink RX1 22 "Waxrow$House" "figures" "[LWaxrow$Figure;", Cond.static yX4_checkIndex, Cond.code yX4_checkIndex cX4_checkIndex 2 none, Cond.classLink RX4 279 "java/lang/IndexOutOfBoundsException", Cond.initialized "java/lang/IndexOutOfBoundsException", Cond.methodLink RX4 27 yX4_checkState, Cond.static yX4_checkState]
def wsL_melt_r2 : List Cond := [Cond.code yX4_checkState cX4_checkState 1 none, Cond.classLink RX4 286 "java/lang/IllegalStateException", Cond.initialized "java/lang/IllegalStateException", Cond.methodLink RX4 137 yX0_becomeMelted, Cond.instanceMethod yX0_becomeMelted, Cond.selects RX0 yX0_becomeMelted yX0_becomeMelted, Cond.initialized RX0, Cond.code yX0_becomeMelted cX0_becomeMelted 1 none, Cond.fieldLink RX0 18 "Waxrow$Figure" "place" "I", Cond.fieldLink RX0 28 "Waxrow$Figure" "hands" "I"]
def wsL_melt : List Cond := .codeWith yL_melt cL_melt 4 (some .int) [(0, 9, 12, 20), (0, 9, 15, 15)] :: ((wsL_melt_r1 ++ wsL_melt_r2) ++ wsX40 ++ wsX00 ++ wsX10 ++ (vx_atS RX4 283 "java/lang/IndexOutOfBoundsException" ["java/lang/RuntimeException", "java/lang/Exception"]).filter goodWord ++ (vx_atS RX4 290 "java/lang/IllegalStateException" ["java/lang/RuntimeException", "java/lang/Exception"]).filter goodWord)
def wsL_tour_r1 : List Cond := [Cond.classLink RL 20 "java/lang/IndexOutOfBoundsException", Cond.classLink RL 13 "java/lang/IllegalArgumentException", Cond.classLink RL 15 "java/lang/IllegalStateException", Cond.methodLink RL 53 yX4_tour, Cond.instanceMethod yX4_tour, Cond.selects RX4 yX4_tour yX4_tour, Cond.initialized RX4, Cond.code yX4_tour cX4_tour 5 (some .int), Cond.fieldLink RX4 10 "Waxrow" "house" "LWaxrow$House;", Cond.fieldLink RX4 140 "Waxrow$Figure" "head" "LWaxrow$Person;", Cond.fieldLink RX4 56 "Waxrow$Person" "consents" "Z", Cond.fieldLink RX4 110 "Waxrow$Figure" "place" "I", Cond.fieldLink RX4 144 "Waxrow$Figure" "tourLand" "I", Cond.fieldLink RX4 147 "Waxrow$Figure" "tourDays" "I", Cond.methodLink RX4 94 yX1_figureAt, Cond.instanceMethod yX1_figureAt, Cond.selects RX1 yX1_figureAt yX1_figureAt, Cond.initialized RX1, Cond.code yX1_figureAt cX1_figureAt 2 (some (.object "Waxrow$Figure")), Cond.fieldLink RX1 49 "Waxrow$House" "figureCount" "I", Cond.fieldLink RX1 22 "Waxrow$House" "figures" "[LWaxrow$Figure;", Cond.static yX4_checkIndex, Cond.code yX4_checkIndex cX4_checkIndex 2 none, Cond.classLink RX4 279 "java/lang/IndexOutOfBoundsException"]
def wsL_tour_r2 : List Cond := [Cond.initialized "java/lang/IndexOutOfBoundsException", Cond.methodLink RX4 19 yX4_checkArgument, Cond.static yX4_checkArgument, Cond.code yX4_checkArgument cX4_checkArgument 3 none, Cond.classLink RX4 113 "java/lang/IllegalArgumentException", Cond.initialized "java/lang/IllegalArgumentException", Cond.methodLink RX4 120 yX0_isReadyInStore, Cond.instanceMethod yX0_isReadyInStore, Cond.selects RX0 yX0_isReadyInStore yX0_isReadyInStore, Cond.initialized RX0, Cond.code yX0_isReadyInStore cX0_isReadyInStore 1 (some .boolean), Cond.fieldLink RX0 22 "Waxrow$Figure" "step" "I", Cond.fieldLink RX0 18 "Waxrow$Figure" "place" "I", Cond.methodLink RX4 27 yX4_checkState, Cond.static yX4_checkState, Cond.code yX4_checkState cX4_checkState 1 none, Cond.classLink RX4 286 "java/lang/IllegalStateException", Cond.initialized "java/lang/IllegalStateException", Cond.methodLink RX4 128 yX0_likeness, Cond.instanceMethod yX0_likeness, Cond.selects RX0 yX0_likeness yX0_likeness, Cond.code yX0_likeness cX0_likeness 3 (some .int), Cond.fieldLink RX0 31 "Waxrow$Figure" "flaw" "I", Cond.fieldLink RX0 34 "Waxrow$Figure" "wear" "I"]
def wsL_tour_r3 : List Cond := [Cond.fieldLink RX0 9 "Waxrow$Figure" "head" "LWaxrow$Person;", Cond.fieldLink RX0 15 "Waxrow$Figure" "body" "LWaxrow$Person;", Cond.methodLink RX0 56 yX0_isDone, Cond.instanceMethod yX0_isDone, Cond.selects RX0 yX0_isDone yX0_isDone, Cond.code yX0_isDone cX0_isDone 1 (some .boolean), Cond.methodLink RX0 60 yX2_doubleHeight, Cond.instanceMethod yX2_doubleHeight, Cond.selects RX2 yX2_doubleHeight yX2_doubleHeight, Cond.initialized RX2, Cond.code yX2_doubleHeight cX2_doubleHeight 1 (some .int), Cond.fieldLink RX2 22 "Waxrow$Person" "low" "[I", Cond.fieldLink RX2 25 "Waxrow$Person" "high" "[I"]
def wsL_tour : List Cond := .codeWith yL_tour cL_tour 6 (some .int) [(0, 12, 15, 20), (0, 12, 19, 13), (0, 12, 23, 15)] :: ((wsL_tour_r1 ++ (wsL_tour_r2 ++ wsL_tour_r3)) ++ wsX40 ++ wsX00 ++ wsX20 ++ wsX10 ++ (vx_atS RX4 283 "java/lang/IndexOutOfBoundsException" ["java/lang/RuntimeException", "java/lang/Exception"]).filter goodWord ++ (vx_atS RX4 117 "java/lang/IllegalArgumentException" ["java/lang/RuntimeException", "java/lang/Exception"]).filter goodWord ++ (vx_atS RX4 290 "java/lang/IllegalStateException" ["java/lang/RuntimeException", "java/lang/Exception"]).filter goodWord)
def wsL_room_r1 : List Cond := [Cond.classLink RL 13 "java/lang/IllegalArgumentException", Cond.classLink RL 15 "java/lang/IllegalStateException", Cond.methodLink RL 56 yX4_room, Cond.instanceMethod yX4_room, Cond.selects RX4 yX4_room yX4_room, Cond.initialized RX4, Cond.code yX4_room cX4_room 3 (some .int), Cond.fieldLink RX4 10 "Waxrow" "house" "LWaxrow$House;", Cond.fieldLink RX4 150 "Waxrow$House" "roomCount" "I", Cond.methodLink RX4 19 yX4_checkArgument, Cond.static yX4_checkArgument, Cond.code yX4_checkArgument cX4_checkArgument 3 none, Cond.classLink RX4 113 "java/lang/IllegalArgumentException", Cond.initialized "java/lang/IllegalArgumentException", Cond.methodLink RX4 27 yX4_checkState, Cond.static yX4_checkState, Cond.code yX4_checkState cX4_checkState 1 none, Cond.classLink RX4 286 "java/lang/IllegalStateException", Cond.initialized "java/lang/IllegalStateException", Cond.methodLink RX4 153 yX1_addRoom, Cond.instanceMethod yX1_addRoom, Cond.selects RX1 yX1_addRoom yX1_addRoom, Cond.initialized RX1, Cond.code yX1_addRoom cX1_addRoom 5 (some .int)]
def wsL_room_r2 : List Cond := [Cond.fieldLink RX1 52 "Waxrow$House" "roomCount" "I", Cond.fieldLink RX1 81 "Waxrow$Room" "lamps" "I", Cond.fieldLink RX1 84 "Waxrow$Room" "spots" "I", Cond.methodLink RX1 99 yX1_roomAt, Cond.instanceMethod yX1_roomAt, Cond.selects RX1 yX1_roomAt yX1_roomAt, Cond.code yX1_roomAt cX1_roomAt 2 (some (.object "Waxrow$Room")), Cond.fieldLink RX1 31 "Waxrow$House" "rooms" "[LWaxrow$Room;", Cond.static yX4_checkIndex, Cond.code yX4_checkIndex cX4_checkIndex 2 none, Cond.classLink RX4 279 "java/lang/IndexOutOfBoundsException", Cond.initialized "java/lang/IndexOutOfBoundsException"]
def wsL_room : List Cond := .codeWith yL_room cL_room 5 (some .int) [(0, 10, 13, 13), (0, 10, 17, 15)] :: ((wsL_room_r1 ++ wsL_room_r2) ++ wsX40 ++ wsX10 ++ wsX30 ++ (vx_atS RX4 117 "java/lang/IllegalArgumentException" ["java/lang/RuntimeException", "java/lang/Exception"]).filter goodWord ++ (vx_atS RX4 290 "java/lang/IllegalStateException" ["java/lang/RuntimeException", "java/lang/Exception"]).filter goodWord ++ (vx_atS RX4 283 "java/lang/IndexOutOfBoundsException" ["java/lang/RuntimeException", "java/lang/Exception"]).filter goodWord)
def wsL_lamps_r1 : List Cond := [Cond.classLink RL 20 "java/lang/IndexOutOfBoundsException", Cond.classLink RL 13 "java/lang/IllegalArgumentException", Cond.methodLink RL 59 yX4_lamps, Cond.instanceMethod yX4_lamps, Cond.selects RX4 yX4_lamps yX4_lamps, Cond.initialized RX4, Cond.code yX4_lamps cX4_lamps 5 (some .int), Cond.fieldLink RX4 10 "Waxrow" "house" "LWaxrow$House;", Cond.fieldLink RX4 160 "Waxrow$Room" "lamps" "I", Cond.methodLink RX4 156 yX1_roomAt, Cond.instanceMethod yX1_roomAt, Cond.selects RX1 yX1_roomAt yX1_roomAt, Cond.initialized RX1, Cond.code yX1_roomAt cX1_roomAt 2 (some (.object "Waxrow$Room")), Cond.fieldLink RX1 52 "Waxrow$House" "roomCount" "I", Cond.fieldLink RX1 31 "Waxrow$House" "rooms" "[LWaxrow$Room;", Cond.static yX4_checkIndex, Cond.code yX4_checkIndex cX4_checkIndex 2 none, Cond.classLink RX4 279 "java/lang/IndexOutOfBoundsException", Cond.initialized "java/lang/IndexOutOfBoundsException", Cond.methodLink RX4 19 yX4_checkArgument, Cond.static yX4_checkArgument, Cond.code yX4_checkArgument cX4_checkArgument 3 none, Cond.classLink RX4 113 "java/lang/IllegalArgumentException"]
def wsL_lamps_r2 : List Cond := [Cond.initialized "java/lang/IllegalArgumentException"]
def wsL_lamps : List Cond := .codeWith yL_lamps cL_lamps 5 (some .int) [(0, 10, 13, 20), (0, 10, 17, 13)] :: ((wsL_lamps_r1 ++ wsL_lamps_r2) ++ wsX40 ++ wsX30 ++ wsX10 ++ (vx_atS RX4 283 "java/lang/IndexOutOfBoundsException" ["java/lang/RuntimeException", "java/lang/Exception"]).filter goodWord ++ (vx_atS RX4 117 "java/lang/IllegalArgumentException" ["java/lang/RuntimeException", "java/lang/Exception"]).filter goodWord)
def wsL_show_r1 : List Cond := [Cond.classLink RL 20 "java/lang/IndexOutOfBoundsException", Cond.classLink RL 15 "java/lang/IllegalStateException", Cond.methodLink RL 62 yX4_show, Cond.instanceMethod yX4_show, Cond.selects RX4 yX4_show yX4_show, Cond.initialized RX4, Cond.code yX4_show cX4_show 5 (some .int), Cond.fieldLink RX4 10 "Waxrow" "house" "LWaxrow$House;", Cond.fieldLink RX4 140 "Waxrow$Figure" "head" "LWaxrow$Person;", Cond.fieldLink RX4 56 "Waxrow$Person" "consents" "Z", Cond.fieldLink RX4 168 "Waxrow$Room" "spots" "I", Cond.fieldLink RX4 110 "Waxrow$Figure" "place" "I", Cond.methodLink RX4 94 yX1_figureAt, Cond.instanceMethod yX1_figureAt, Cond.selects RX1 yX1_figureAt yX1_figureAt, Cond.initialized RX1, Cond.code yX1_figureAt cX1_figureAt 2 (some (.object "Waxrow$Figure")), Cond.fieldLink RX1 49 "Waxrow$House" "figureCount" "I", Cond.fieldLink RX1 22 "Waxrow$House" "figures" "[LWaxrow$Figure;", Cond.static yX4_checkIndex, Cond.code yX4_checkIndex cX4_checkIndex 2 none, Cond.classLink RX4 279 "java/lang/IndexOutOfBoundsException", Cond.initialized "java/lang/IndexOutOfBoundsException", Cond.methodLink RX4 156 yX1_roomAt]
def wsL_show_r2 : List Cond := [Cond.instanceMethod yX1_roomAt, Cond.selects RX1 yX1_roomAt yX1_roomAt, Cond.code yX1_roomAt cX1_roomAt 2 (some (.object "Waxrow$Room")), Cond.fieldLink RX1 52 "Waxrow$House" "roomCount" "I", Cond.fieldLink RX1 31 "Waxrow$House" "rooms" "[LWaxrow$Room;", Cond.methodLink RX4 120 yX0_isReadyInStore, Cond.instanceMethod yX0_isReadyInStore, Cond.selects RX0 yX0_isReadyInStore yX0_isReadyInStore, Cond.initialized RX0, Cond.code yX0_isReadyInStore cX0_isReadyInStore 1 (some .boolean), Cond.fieldLink RX0 22 "Waxrow$Figure" "step" "I", Cond.fieldLink RX0 18 "Waxrow$Figure" "place" "I", Cond.methodLink RX4 27 yX4_checkState, Cond.static yX4_checkState, Cond.code yX4_checkState cX4_checkState 1 none, Cond.classLink RX4 286 "java/lang/IllegalStateException", Cond.initialized "java/lang/IllegalStateException", Cond.methodLink RX4 128 yX0_likeness, Cond.instanceMethod yX0_likeness, Cond.selects RX0 yX0_likeness yX0_likeness, Cond.code yX0_likeness cX0_likeness 3 (some .int), Cond.fieldLink RX0 31 "Waxrow$Figure" "flaw" "I", Cond.fieldLink RX0 34 "Waxrow$Figure" "wear" "I", Cond.fieldLink RX0 9 "Waxrow$Figure" "head" "LWaxrow$Person;"]
def wsL_show_r3 : List Cond := [Cond.fieldLink RX0 15 "Waxrow$Figure" "body" "LWaxrow$Person;", Cond.methodLink RX0 56 yX0_isDone, Cond.instanceMethod yX0_isDone, Cond.selects RX0 yX0_isDone yX0_isDone, Cond.code yX0_isDone cX0_isDone 1 (some .boolean), Cond.methodLink RX0 60 yX2_doubleHeight, Cond.instanceMethod yX2_doubleHeight, Cond.selects RX2 yX2_doubleHeight yX2_doubleHeight, Cond.initialized RX2, Cond.code yX2_doubleHeight cX2_doubleHeight 1 (some .int), Cond.fieldLink RX2 22 "Waxrow$Person" "low" "[I", Cond.fieldLink RX2 25 "Waxrow$Person" "high" "[I", Cond.methodLink RX4 165 yX1_figuresIn, Cond.instanceMethod yX1_figuresIn, Cond.selects RX1 yX1_figuresIn yX1_figuresIn, Cond.code yX1_figuresIn cX1_figuresIn 5 (some .int), Cond.fieldLink RX1 107 "Waxrow$Figure" "place" "I", Cond.methodLink RX4 171 yX1_shownOf, Cond.instanceMethod yX1_shownOf, Cond.selects RX1 yX1_shownOf yX1_shownOf, Cond.code yX1_shownOf cX1_shownOf 3 (some .int), Cond.fieldLink RX1 64 "Waxrow$Figure" "head" "LWaxrow$Person;", Cond.methodLink RX1 103 yX0_isShown, Cond.instanceMethod yX0_isShown]
def wsL_show_r4 : List Cond := [Cond.selects RX0 yX0_isShown yX0_isShown, Cond.code yX0_isShown cX0_isShown 1 (some .boolean), Cond.methodLink RX4 174 yX0_draw, Cond.instanceMethod yX0_draw, Cond.selects RX0 yX0_draw yX0_draw, Cond.code yX0_draw cX0_draw 1 (some .int), Cond.fieldLink RX0 66 "Waxrow$Person" "fame" "[I", Cond.methodLink RX0 63 yX0_isShown, Cond.methodLink RX0 69 yX0_likeness]
def wsL_show : List Cond := .codeWith yL_show cL_show 5 (some .int) [(0, 10, 13, 20), (0, 10, 17, 15)] :: ((wsL_show_r1 ++ (wsL_show_r2 ++ (wsL_show_r3 ++ wsL_show_r4))) ++ wsX40 ++ wsX00 ++ wsX20 ++ wsX30 ++ wsX10 ++ (vx_atS RX4 283 "java/lang/IndexOutOfBoundsException" ["java/lang/RuntimeException", "java/lang/Exception"]).filter goodWord ++ (vx_atS RX4 290 "java/lang/IllegalStateException" ["java/lang/RuntimeException", "java/lang/Exception"]).filter goodWord)
def wsL_take_r1 : List Cond := [Cond.classLink RL 20 "java/lang/IndexOutOfBoundsException", Cond.classLink RL 15 "java/lang/IllegalStateException", Cond.methodLink RL 65 yX4_take, Cond.instanceMethod yX4_take, Cond.selects RX4 yX4_take yX4_take, Cond.initialized RX4, Cond.code yX4_take cX4_take 4 (some .int), Cond.fieldLink RX4 10 "Waxrow" "house" "LWaxrow$House;", Cond.fieldLink RX4 110 "Waxrow$Figure" "place" "I", Cond.methodLink RX4 94 yX1_figureAt, Cond.instanceMethod yX1_figureAt, Cond.selects RX1 yX1_figureAt yX1_figureAt, Cond.initialized RX1, Cond.code yX1_figureAt cX1_figureAt 2 (some (.object "Waxrow$Figure")), Cond.fieldLink RX1 49 "Waxrow$House" "figureCount" "I", Cond.fieldLink RX1 22 "Waxrow$House" "figures" "[LWaxrow$Figure;", Cond.static yX4_checkIndex, Cond.code yX4_checkIndex cX4_checkIndex 2 none, Cond.classLink RX4 279 "java/lang/IndexOutOfBoundsException", Cond.initialized "java/lang/IndexOutOfBoundsException", Cond.methodLink RX4 177 yX0_isShown, Cond.instanceMethod yX0_isShown, Cond.selects RX0 yX0_isShown yX0_isShown, Cond.initialized RX0]
def wsL_take_r2 : List Cond := [Cond.code yX0_isShown cX0_isShown 1 (some .boolean), Cond.fieldLink RX0 18 "Waxrow$Figure" "place" "I", Cond.methodLink RX4 27 yX4_checkState, Cond.static yX4_checkState, Cond.code yX4_checkState cX4_checkState 1 none, Cond.classLink RX4 286 "java/lang/IllegalStateException", Cond.initialized "java/lang/IllegalStateException"]
def wsL_take : List Cond := .codeWith yL_take cL_take 4 (some .int) [(0, 9, 12, 20), (0, 9, 15, 15)] :: ((wsL_take_r1 ++ wsL_take_r2) ++ wsX40 ++ wsX00 ++ wsX10 ++ (vx_atS RX4 283 "java/lang/IndexOutOfBoundsException" ["java/lang/RuntimeException", "java/lang/Exception"]).filter goodWord ++ (vx_atS RX4 290 "java/lang/IllegalStateException" ["java/lang/RuntimeException", "java/lang/Exception"]).filter goodWord)
def wsL_clean_r1 : List Cond := [Cond.classLink RL 20 "java/lang/IndexOutOfBoundsException", Cond.methodLink RL 68 yX4_clean, Cond.instanceMethod yX4_clean, Cond.selects RX4 yX4_clean yX4_clean, Cond.initialized RX4, Cond.code yX4_clean cX4_clean 2 (some .int), Cond.fieldLink RX4 10 "Waxrow" "house" "LWaxrow$House;", Cond.fieldLink RX4 150 "Waxrow$House" "roomCount" "I", Cond.fieldLink RX4 85 "Waxrow$House" "money" "I", Cond.methodLink RX4 39 yX4_checkIndex, Cond.static yX4_checkIndex, Cond.code yX4_checkIndex cX4_checkIndex 2 none, Cond.classLink RX4 279 "java/lang/IndexOutOfBoundsException", Cond.initialized "java/lang/IndexOutOfBoundsException", Cond.methodLink RX4 180 yX1_cleanFiguresIn, Cond.instanceMethod yX1_cleanFiguresIn, Cond.selects RX1 yX1_cleanFiguresIn yX1_cleanFiguresIn, Cond.initialized RX1, Cond.code yX1_cleanFiguresIn cX1_cleanFiguresIn 4 none, Cond.fieldLink RX1 49 "Waxrow$House" "figureCount" "I", Cond.fieldLink RX1 22 "Waxrow$House" "figures" "[LWaxrow$Figure;", Cond.fieldLink RX1 107 "Waxrow$Figure" "place" "I", Cond.fieldLink RX1 110 "Waxrow$Figure" "wear" "I", Cond.methodLink RX1 113 Lib.Math.max.name]
def wsL_clean_r2 : List Cond := [Cond.static Lib.Math.max.name, Cond.initialized "java/lang/Math", Cond.code Lib.Math.max.name Lib.Math.max.code 2 (some .int)]
def wsL_clean : List Cond := .codeWith yL_clean cL_clean 4 (some .int) [(0, 9, 12, 20)] :: ((wsL_clean_r1 ++ wsL_clean_r2) ++ wsX40 ++ wsX10 ++ wsX00 ++ (vx_atS RX4 283 "java/lang/IndexOutOfBoundsException" ["java/lang/RuntimeException", "java/lang/Exception"]).filter goodWord)
def wsL_price : List Cond := .codeWith yL_price cL_price 4 (some .int) [(0, 9, 12, 13)] :: ([.classLink RL 13 "java/lang/IllegalArgumentException", .methodLink RL 71 yX4_price, .instanceMethod yX4_price, .selects RX4 yX4_price yX4_price, .initialized RX4, .code yX4_price cX4_price 3 (some .int), .fieldLink RX4 10 "Waxrow" "house" "LWaxrow$House;", .fieldLink RX4 183 "Waxrow$House" "price" "I", .methodLink RX4 19 yX4_checkArgument, .static yX4_checkArgument, .code yX4_checkArgument cX4_checkArgument 3 none, .classLink RX4 113 "java/lang/IllegalArgumentException", .initialized "java/lang/IllegalArgumentException"] ++ wsX40 ++ wsX10 ++ (vx_atS RX4 117 "java/lang/IllegalArgumentException" ["java/lang/RuntimeException", "java/lang/Exception"]).filter goodWord)
def wsL_pass_r1 : List Cond := [Cond.classLink RL 13 "java/lang/IllegalArgumentException", Cond.methodLink RL 74 yX4_pass, Cond.instanceMethod yX4_pass, Cond.selects RX4 yX4_pass yX4_pass, Cond.initialized RX4, Cond.code yX4_pass cX4_pass 6 (some .int), Cond.fieldLink RX4 10 "Waxrow" "house" "LWaxrow$House;", Cond.methodLink RX4 19 yX4_checkArgument, Cond.static yX4_checkArgument, Cond.code yX4_checkArgument cX4_checkArgument 3 none, Cond.classLink RX4 113 "java/lang/IllegalArgumentException", Cond.initialized "java/lang/IllegalArgumentException", Cond.methodLink RX4 186 yX1_passDay, Cond.instanceMethod yX1_passDay, Cond.selects RX1 yX1_passDay yX1_passDay, Cond.initialized RX1, Cond.code yX1_passDay cX1_passDay 7 (some .int), Cond.fieldLink RX1 55 "Waxrow$House" "day" "I", Cond.fieldLink RX1 43 "Waxrow$House" "price" "I", Cond.fieldLink RX1 58 "Waxrow$House" "came" "I", Cond.fieldLink RX1 36 "Waxrow$House" "money" "I", Cond.methodLink RX1 135 yX1_beginMonthOfAll, Cond.instanceMethod yX1_beginMonthOfAll, Cond.selects RX1 yX1_beginMonthOfAll yX1_beginMonthOfAll]
def wsL_pass_r2 : List Cond := [Cond.code yX1_beginMonthOfAll cX1_beginMonthOfAll 2 none, Cond.fieldLink RX1 46 "Waxrow$House" "personCount" "I", Cond.fieldLink RX1 11 "Waxrow$House" "persons" "[LWaxrow$Person;", Cond.methodLink RX1 151 yX2_beginMonth, Cond.instanceMethod yX2_beginMonth, Cond.selects RX2 yX2_beginMonth yX2_beginMonth, Cond.initialized RX2, Cond.code yX2_beginMonth cX2_beginMonth 2 none, Cond.fieldLink RX2 15 "Waxrow$Person" "fame" "[I", Cond.fieldLink RX2 19 "Waxrow$Person" "trend" "[I", Cond.methodLink RX2 38 yX2_heldFame, Cond.static yX2_heldFame, Cond.code yX2_heldFame cX2_heldFame 1 (some .int), Cond.methodLink RX2 42 yX2_nearerToZero, Cond.static yX2_nearerToZero, Cond.code yX2_nearerToZero cX2_nearerToZero 1 (some .int), Cond.methodLink RX1 138 yX1_workOnAll, Cond.instanceMethod yX1_workOnAll, Cond.selects RX1 yX1_workOnAll yX1_workOnAll, Cond.code yX1_workOnAll cX1_workOnAll 3 (some .int), Cond.fieldLink RX1 49 "Waxrow$House" "figureCount" "I", Cond.fieldLink RX1 22 "Waxrow$House" "figures" "[LWaxrow$Figure;", Cond.methodLink RX1 154 yX0_workDay, Cond.instanceMethod yX0_workDay]
def wsL_pass_r3 : List Cond := [Cond.selects RX0 yX0_workDay yX0_workDay, Cond.initialized RX0, Cond.code yX0_workDay cX0_workDay 1 (some .boolean), Cond.fieldLink RX0 22 "Waxrow$Figure" "step" "I", Cond.fieldLink RX0 18 "Waxrow$Figure" "place" "I", Cond.fieldLink RX0 25 "Waxrow$Figure" "workInStep" "I", Cond.fieldLink RX0 28 "Waxrow$Figure" "hands" "I", Cond.fieldLink RX0 9 "Waxrow$Figure" "head" "LWaxrow$Person;", Cond.fieldLink RX0 31 "Waxrow$Figure" "flaw" "I", Cond.methodLink RX0 50 yX2_doubt, Cond.instanceMethod yX2_doubt, Cond.selects RX2 yX2_doubt yX2_doubt, Cond.code yX2_doubt cX2_doubt 3 (some .int), Cond.fieldLink RX2 25 "Waxrow$Person" "high" "[I", Cond.fieldLink RX2 22 "Waxrow$Person" "low" "[I", Cond.methodLink RX1 141 yX1_drawsIn, Cond.instanceMethod yX1_drawsIn, Cond.selects RX1 yX1_drawsIn yX1_drawsIn, Cond.code yX1_drawsIn cX1_drawsIn 5 (some .int), Cond.fieldLink RX1 107 "Waxrow$Figure" "place" "I", Cond.methodLink RX1 122 yX0_draw, Cond.instanceMethod yX0_draw, Cond.selects RX0 yX0_draw yX0_draw, Cond.code yX0_draw cX0_draw 1 (some .int)]
def wsL_pass_r4 : List Cond := [Cond.fieldLink RX0 66 "Waxrow$Person" "fame" "[I", Cond.methodLink RX0 63 yX0_isShown, Cond.instanceMethod yX0_isShown, Cond.selects RX0 yX0_isShown yX0_isShown, Cond.code yX0_isShown cX0_isShown 1 (some .boolean), Cond.methodLink RX0 69 yX0_likeness, Cond.instanceMethod yX0_likeness, Cond.selects RX0 yX0_likeness yX0_likeness, Cond.code yX0_likeness cX0_likeness 3 (some .int), Cond.fieldLink RX0 34 "Waxrow$Figure" "wear" "I", Cond.fieldLink RX0 15 "Waxrow$Figure" "body" "LWaxrow$Person;", Cond.methodLink RX0 56 yX0_isDone, Cond.instanceMethod yX0_isDone, Cond.selects RX0 yX0_isDone yX0_isDone, Cond.code yX0_isDone cX0_isDone 1 (some .boolean), Cond.methodLink RX0 60 yX2_doubleHeight, Cond.instanceMethod yX2_doubleHeight, Cond.selects RX2 yX2_doubleHeight yX2_doubleHeight, Cond.code yX2_doubleHeight cX2_doubleHeight 1 (some .int), Cond.methodLink RX1 144 yX1_wearAllShown, Cond.instanceMethod yX1_wearAllShown, Cond.selects RX1 yX1_wearAllShown yX1_wearAllShown, Cond.code yX1_wearAllShown cX1_wearAllShown 8 (some .int), Cond.fieldLink RX1 81 "Waxrow$Room" "lamps" "I"]
def wsL_pass_r5 : List Cond := [Cond.methodLink RX1 103 yX0_isShown, Cond.methodLink RX1 99 yX1_roomAt, Cond.instanceMethod yX1_roomAt, Cond.selects RX1 yX1_roomAt yX1_roomAt, Cond.code yX1_roomAt cX1_roomAt 2 (some (.object "Waxrow$Room")), Cond.fieldLink RX1 52 "Waxrow$House" "roomCount" "I", Cond.fieldLink RX1 31 "Waxrow$House" "rooms" "[LWaxrow$Room;", Cond.static yX4_checkIndex, Cond.code yX4_checkIndex cX4_checkIndex 2 none, Cond.classLink RX4 279 "java/lang/IndexOutOfBoundsException", Cond.initialized "java/lang/IndexOutOfBoundsException", Cond.methodLink RX1 157 yX0_wearDay, Cond.instanceMethod yX0_wearDay, Cond.selects RX0 yX0_wearDay yX0_wearDay, Cond.code yX0_wearDay cX0_wearDay 5 (some .boolean), Cond.fieldLink RX0 43 "Waxrow$Figure" "touched" "I", Cond.fieldLink RX0 72 "Waxrow$Person" "due" "I", Cond.methodLink RX0 75 Lib.Math.min.name, Cond.static Lib.Math.min.name, Cond.initialized "java/lang/Math", Cond.code Lib.Math.min.name Lib.Math.min.code 2 (some .int), Cond.methodLink RX0 81 yX0_becomeMelted, Cond.instanceMethod yX0_becomeMelted, Cond.selects RX0 yX0_becomeMelted yX0_becomeMelted]
def wsL_pass_r6 : List Cond := [Cond.code yX0_becomeMelted cX0_becomeMelted 1 none, Cond.methodLink RX1 148 yX1_tourWithAll, Cond.instanceMethod yX1_tourWithAll, Cond.selects RX1 yX1_tourWithAll yX1_tourWithAll, Cond.code yX1_tourWithAll cX1_tourWithAll 2 none, Cond.methodLink RX1 161 yX0_tourDay, Cond.instanceMethod yX0_tourDay, Cond.selects RX0 yX0_tourDay yX0_tourDay, Cond.code yX0_tourDay cX0_tourDay 2 (some .int), Cond.fieldLink RX0 37 "Waxrow$Figure" "tourLand" "I", Cond.fieldLink RX0 40 "Waxrow$Figure" "tourDays" "I"]
def wsL_pass : List Cond := .codeWith yL_pass cL_pass 6 (some .int) [(0, 12, 15, 13)] :: ((wsL_pass_r1 ++ (wsL_pass_r2 ++ (wsL_pass_r3 ++ (wsL_pass_r4 ++ (wsL_pass_r5 ++ wsL_pass_r6))))) ++ wsX40 ++ wsX10 ++ wsX20 ++ wsX00 ++ wsX30 ++ (vx_atS RX4 117 "java/lang/IllegalArgumentException" ["java/lang/RuntimeException", "java/lang/Exception"]).filter goodWord ++ (vx_atS RX4 283 "java/lang/IndexOutOfBoundsException" ["java/lang/RuntimeException", "java/lang/Exception"]).filter goodWord)
def wsL_ofPerson_r1 : List Cond := [Cond.classLink RL 20 "java/lang/IndexOutOfBoundsException", Cond.classLink RL 13 "java/lang/IllegalArgumentException", Cond.methodLink RL 77 yX4_ofPerson, Cond.instanceMethod yX4_ofPerson, Cond.selects RX4 yX4_ofPerson yX4_ofPerson, Cond.initialized RX4, Cond.code yX4_ofPerson cX4_ofPerson 4 (some .int), Cond.fieldLink RX4 10 "Waxrow" "house" "LWaxrow$House;", Cond.fieldLink RX4 53 "Waxrow$Person" "fame" "[I", Cond.fieldLink RX4 43 "Waxrow$Person" "trend" "[I", Cond.fieldLink RX4 56 "Waxrow$Person" "consents" "Z", Cond.fieldLink RX4 82 "Waxrow$Person" "due" "I", Cond.fieldLink RX4 192 "Waxrow$Person" "clashes" "I", Cond.methodLink RX4 35 yX1_personAt, Cond.instanceMethod yX1_personAt, Cond.selects RX1 yX1_personAt yX1_personAt, Cond.initialized RX1, Cond.code yX1_personAt cX1_personAt 2 (some (.object "Waxrow$Person")), Cond.fieldLink RX1 46 "Waxrow$House" "personCount" "I", Cond.fieldLink RX1 11 "Waxrow$House" "persons" "[LWaxrow$Person;", Cond.static yX4_checkIndex, Cond.code yX4_checkIndex cX4_checkIndex 2 none, Cond.classLink RX4 279 "java/lang/IndexOutOfBoundsException", Cond.initialized "java/lang/IndexOutOfBoundsException"]
def wsL_ofPerson_r2 : List Cond := [Cond.methodLink RX4 19 yX4_checkArgument, Cond.static yX4_checkArgument, Cond.code yX4_checkArgument cX4_checkArgument 3 none, Cond.classLink RX4 113 "java/lang/IllegalArgumentException", Cond.initialized "java/lang/IllegalArgumentException", Cond.methodLink RX4 189 yX2_doubt, Cond.instanceMethod yX2_doubt, Cond.selects RX2 yX2_doubt yX2_doubt, Cond.initialized RX2, Cond.code yX2_doubt cX2_doubt 3 (some .int), Cond.fieldLink RX2 25 "Waxrow$Person" "high" "[I", Cond.fieldLink RX2 22 "Waxrow$Person" "low" "[I", Cond.methodLink RX4 171 yX1_shownOf, Cond.instanceMethod yX1_shownOf, Cond.selects RX1 yX1_shownOf yX1_shownOf, Cond.code yX1_shownOf cX1_shownOf 3 (some .int), Cond.fieldLink RX1 49 "Waxrow$House" "figureCount" "I", Cond.fieldLink RX1 22 "Waxrow$House" "figures" "[LWaxrow$Figure;", Cond.fieldLink RX1 64 "Waxrow$Figure" "head" "LWaxrow$Person;", Cond.methodLink RX1 103 yX0_isShown, Cond.instanceMethod yX0_isShown, Cond.selects RX0 yX0_isShown yX0_isShown, Cond.initialized RX0, Cond.code yX0_isShown cX0_isShown 1 (some .boolean)]
def wsL_ofPerson_r3 : List Cond := [Cond.fieldLink RX0 18 "Waxrow$Figure" "place" "I"]
def wsL_ofPerson : List Cond := .codeWith yL_ofPerson cL_ofPerson 5 (some .int) [(0, 10, 13, 20), (0, 10, 17, 13)] :: ((wsL_ofPerson_r1 ++ (wsL_ofPerson_r2 ++ wsL_ofPerson_r3)) ++ wsX40 ++ wsX20 ++ wsX10 ++ wsX00 ++ (vx_atS RX4 283 "java/lang/IndexOutOfBoundsException" ["java/lang/RuntimeException", "java/lang/Exception"]).filter goodWord ++ (vx_atS RX4 117 "java/lang/IllegalArgumentException" ["java/lang/RuntimeException", "java/lang/Exception"]).filter goodWord)
def wsL_known : List Cond := .codeWith yL_known cL_known 6 (some .int) [(0, 12, 15, 20)] :: ([.classLink RL 20 "java/lang/IndexOutOfBoundsException", .methodLink RL 80 yX4_known, .instanceMethod yX4_known, .selects RX4 yX4_known yX4_known, .initialized RX4, .code yX4_known cX4_known 5 (some .int), .fieldLink RX4 10 "Waxrow" "house" "LWaxrow$House;", .fieldLink RX4 76 "Waxrow$Person" "high" "[I", .fieldLink RX4 79 "Waxrow$Person" "low" "[I", .methodLink RX4 35 yX1_personAt, .instanceMethod yX1_personAt, .selects RX1 yX1_personAt yX1_personAt, .initialized RX1, .code yX1_personAt cX1_personAt 2 (some (.object "Waxrow$Person")), .fieldLink RX1 46 "Waxrow$House" "personCount" "I", .fieldLink RX1 11 "Waxrow$House" "persons" "[LWaxrow$Person;", .static yX4_checkIndex, .code yX4_checkIndex cX4_checkIndex 2 none, .classLink RX4 279 "java/lang/IndexOutOfBoundsException", .initialized "java/lang/IndexOutOfBoundsException", .methodLink RX4 39 yX4_checkIndex] ++ wsX40 ++ wsX20 ++ wsX10 ++ (vx_atS RX4 283 "java/lang/IndexOutOfBoundsException" ["java/lang/RuntimeException", "java/lang/Exception"]).filter goodWord)
def wsL_ofFigure_r1 : List Cond := [Cond.classLink RL 20 "java/lang/IndexOutOfBoundsException", Cond.classLink RL 13 "java/lang/IllegalArgumentException", Cond.methodLink RL 84 yX4_ofFigure, Cond.instanceMethod yX4_ofFigure, Cond.selects RX4 yX4_ofFigure yX4_ofFigure, Cond.initialized RX4, Cond.code yX4_ofFigure cX4_ofFigure 4 (some .int), Cond.fieldLink RX4 10 "Waxrow" "house" "LWaxrow$House;", Cond.fieldLink RX4 140 "Waxrow$Figure" "head" "LWaxrow$Person;", Cond.fieldLink RX4 195 "Waxrow$Person" "number" "I", Cond.fieldLink RX4 198 "Waxrow$Figure" "body" "LWaxrow$Person;", Cond.fieldLink RX4 107 "Waxrow$Figure" "step" "I", Cond.fieldLink RX4 102 "Waxrow$Figure" "hands" "I", Cond.fieldLink RX4 204 "Waxrow$Figure" "flaw" "I", Cond.fieldLink RX4 131 "Waxrow$Figure" "wear" "I", Cond.fieldLink RX4 110 "Waxrow$Figure" "place" "I", Cond.fieldLink RX4 147 "Waxrow$Figure" "tourDays" "I", Cond.fieldLink RX4 207 "Waxrow$Figure" "touched" "I", Cond.methodLink RX4 94 yX1_figureAt, Cond.instanceMethod yX1_figureAt, Cond.selects RX1 yX1_figureAt yX1_figureAt, Cond.initialized RX1, Cond.code yX1_figureAt cX1_figureAt 2 (some (.object "Waxrow$Figure")), Cond.fieldLink RX1 49 "Waxrow$House" "figureCount" "I"]
def wsL_ofFigure_r2 : List Cond := [Cond.fieldLink RX1 22 "Waxrow$House" "figures" "[LWaxrow$Figure;", Cond.static yX4_checkIndex, Cond.code yX4_checkIndex cX4_checkIndex 2 none, Cond.classLink RX4 279 "java/lang/IndexOutOfBoundsException", Cond.initialized "java/lang/IndexOutOfBoundsException", Cond.methodLink RX4 19 yX4_checkArgument, Cond.static yX4_checkArgument, Cond.code yX4_checkArgument cX4_checkArgument 3 none, Cond.classLink RX4 113 "java/lang/IllegalArgumentException", Cond.initialized "java/lang/IllegalArgumentException", Cond.methodLink RX4 201 yX0_workLeftInStep, Cond.instanceMethod yX0_workLeftInStep, Cond.selects RX0 yX0_workLeftInStep yX0_workLeftInStep, Cond.initialized RX0, Cond.code yX0_workLeftInStep cX0_workLeftInStep 1 (some .int), Cond.fieldLink RX0 22 "Waxrow$Figure" "step" "I", Cond.fieldLink RX0 25 "Waxrow$Figure" "workInStep" "I", Cond.methodLink RX4 128 yX0_likeness, Cond.instanceMethod yX0_likeness, Cond.selects RX0 yX0_likeness yX0_likeness, Cond.code yX0_likeness cX0_likeness 3 (some .int), Cond.fieldLink RX0 31 "Waxrow$Figure" "flaw" "I", Cond.fieldLink RX0 34 "Waxrow$Figure" "wear" "I", Cond.fieldLink RX0 9 "Waxrow$Figure" "head" "LWaxrow$Person;"]
def wsL_ofFigure_r3 : List Cond := [Cond.fieldLink RX0 15 "Waxrow$Figure" "body" "LWaxrow$Person;", Cond.methodLink RX0 56 yX0_isDone, Cond.instanceMethod yX0_isDone, Cond.selects RX0 yX0_isDone yX0_isDone, Cond.code yX0_isDone cX0_isDone 1 (some .boolean), Cond.fieldLink RX0 18 "Waxrow$Figure" "place" "I", Cond.methodLink RX0 60 yX2_doubleHeight, Cond.instanceMethod yX2_doubleHeight, Cond.selects RX2 yX2_doubleHeight yX2_doubleHeight, Cond.initialized RX2, Cond.code yX2_doubleHeight cX2_doubleHeight 1 (some .int), Cond.fieldLink RX2 22 "Waxrow$Person" "low" "[I", Cond.fieldLink RX2 25 "Waxrow$Person" "high" "[I", Cond.methodLink RX4 174 yX0_draw, Cond.instanceMethod yX0_draw, Cond.selects RX0 yX0_draw yX0_draw, Cond.code yX0_draw cX0_draw 1 (some .int), Cond.fieldLink RX0 66 "Waxrow$Person" "fame" "[I", Cond.methodLink RX0 63 yX0_isShown, Cond.instanceMethod yX0_isShown, Cond.selects RX0 yX0_isShown yX0_isShown, Cond.code yX0_isShown cX0_isShown 1 (some .boolean), Cond.methodLink RX0 69 yX0_likeness]
def wsL_ofFigure : List Cond := .codeWith yL_ofFigure cL_ofFigure 5 (some .int) [(0, 10, 13, 20), (0, 10, 17, 13)] :: ((wsL_ofFigure_r1 ++ (wsL_ofFigure_r2 ++ wsL_ofFigure_r3)) ++ wsX40 ++ wsX00 ++ wsX20 ++ wsX10 ++ (vx_atS RX4 283 "java/lang/IndexOutOfBoundsException" ["java/lang/RuntimeException", "java/lang/Exception"]).filter goodWord ++ (vx_atS RX4 117 "java/lang/IllegalArgumentException" ["java/lang/RuntimeException", "java/lang/Exception"]).filter goodWord)
def wsL_ofRoom_r1 : List Cond := [Cond.classLink RL 20 "java/lang/IndexOutOfBoundsException", Cond.classLink RL 13 "java/lang/IllegalArgumentException", Cond.methodLink RL 87 yX4_ofRoom, Cond.instanceMethod yX4_ofRoom, Cond.selects RX4 yX4_ofRoom yX4_ofRoom, Cond.initialized RX4, Cond.code yX4_ofRoom cX4_ofRoom 4 (some .int), Cond.fieldLink RX4 10 "Waxrow" "house" "LWaxrow$House;", Cond.fieldLink RX4 160 "Waxrow$Room" "lamps" "I", Cond.fieldLink RX4 168 "Waxrow$Room" "spots" "I", Cond.methodLink RX4 156 yX1_roomAt, Cond.instanceMethod yX1_roomAt, Cond.selects RX1 yX1_roomAt yX1_roomAt, Cond.initialized RX1, Cond.code yX1_roomAt cX1_roomAt 2 (some (.object "Waxrow$Room")), Cond.fieldLink RX1 52 "Waxrow$House" "roomCount" "I", Cond.fieldLink RX1 31 "Waxrow$House" "rooms" "[LWaxrow$Room;", Cond.static yX4_checkIndex, Cond.code yX4_checkIndex cX4_checkIndex 2 none, Cond.classLink RX4 279 "java/lang/IndexOutOfBoundsException", Cond.initialized "java/lang/IndexOutOfBoundsException", Cond.methodLink RX4 19 yX4_checkArgument, Cond.static yX4_checkArgument, Cond.code yX4_checkArgument cX4_checkArgument 3 none]
def wsL_ofRoom_r2 : List Cond := [Cond.classLink RX4 113 "java/lang/IllegalArgumentException", Cond.initialized "java/lang/IllegalArgumentException", Cond.methodLink RX4 165 yX1_figuresIn, Cond.instanceMethod yX1_figuresIn, Cond.selects RX1 yX1_figuresIn yX1_figuresIn, Cond.code yX1_figuresIn cX1_figuresIn 5 (some .int), Cond.fieldLink RX1 49 "Waxrow$House" "figureCount" "I", Cond.fieldLink RX1 22 "Waxrow$House" "figures" "[LWaxrow$Figure;", Cond.fieldLink RX1 107 "Waxrow$Figure" "place" "I", Cond.methodLink RX4 210 yX1_drawsIn, Cond.instanceMethod yX1_drawsIn, Cond.selects RX1 yX1_drawsIn yX1_drawsIn, Cond.code yX1_drawsIn cX1_drawsIn 5 (some .int), Cond.methodLink RX1 122 yX0_draw, Cond.instanceMethod yX0_draw, Cond.selects RX0 yX0_draw yX0_draw, Cond.initialized RX0, Cond.code yX0_draw cX0_draw 1 (some .int), Cond.fieldLink RX0 9 "Waxrow$Figure" "head" "LWaxrow$Person;", Cond.fieldLink RX0 66 "Waxrow$Person" "fame" "[I", Cond.methodLink RX0 63 yX0_isShown, Cond.instanceMethod yX0_isShown, Cond.selects RX0 yX0_isShown yX0_isShown, Cond.code yX0_isShown cX0_isShown 1 (some .boolean)]
def wsL_ofRoom_r3 : List Cond := [Cond.fieldLink RX0 18 "Waxrow$Figure" "place" "I", Cond.methodLink RX0 69 yX0_likeness, Cond.instanceMethod yX0_likeness, Cond.selects RX0 yX0_likeness yX0_likeness, Cond.code yX0_likeness cX0_likeness 3 (some .int), Cond.fieldLink RX0 31 "Waxrow$Figure" "flaw" "I", Cond.fieldLink RX0 34 "Waxrow$Figure" "wear" "I", Cond.fieldLink RX0 15 "Waxrow$Figure" "body" "LWaxrow$Person;", Cond.methodLink RX0 56 yX0_isDone, Cond.instanceMethod yX0_isDone, Cond.selects RX0 yX0_isDone yX0_isDone, Cond.code yX0_isDone cX0_isDone 1 (some .boolean), Cond.fieldLink RX0 22 "Waxrow$Figure" "step" "I", Cond.methodLink RX0 60 yX2_doubleHeight, Cond.instanceMethod yX2_doubleHeight, Cond.selects RX2 yX2_doubleHeight yX2_doubleHeight, Cond.initialized RX2, Cond.code yX2_doubleHeight cX2_doubleHeight 1 (some .int), Cond.fieldLink RX2 22 "Waxrow$Person" "low" "[I", Cond.fieldLink RX2 25 "Waxrow$Person" "high" "[I"]
def wsL_ofRoom : List Cond := .codeWith yL_ofRoom cL_ofRoom 5 (some .int) [(0, 10, 13, 20), (0, 10, 17, 13)] :: ((wsL_ofRoom_r1 ++ (wsL_ofRoom_r2 ++ wsL_ofRoom_r3)) ++ wsX40 ++ wsX30 ++ wsX10 ++ wsX00 ++ wsX20 ++ (vx_atS RX4 283 "java/lang/IndexOutOfBoundsException" ["java/lang/RuntimeException", "java/lang/Exception"]).filter goodWord ++ (vx_atS RX4 117 "java/lang/IllegalArgumentException" ["java/lang/RuntimeException", "java/lang/Exception"]).filter goodWord)
def wsL_many_r1 : List Cond := [Cond.classLink RL 13 "java/lang/IllegalArgumentException", Cond.methodLink RL 90 yX4_many, Cond.instanceMethod yX4_many, Cond.selects RX4 yX4_many yX4_many, Cond.initialized RX4, Cond.code yX4_many cX4_many 2 (some .int), Cond.fieldLink RX4 10 "Waxrow" "house" "LWaxrow$House;", Cond.fieldLink RX4 213 "Waxrow$House" "day" "I", Cond.fieldLink RX4 23 "Waxrow$House" "personCount" "I", Cond.fieldLink RX4 88 "Waxrow$House" "figureCount" "I", Cond.fieldLink RX4 150 "Waxrow$House" "roomCount" "I", Cond.fieldLink RX4 85 "Waxrow$House" "money" "I", Cond.fieldLink RX4 134 "Waxrow$House" "wax" "I", Cond.fieldLink RX4 222 "Waxrow$House" "came" "I", Cond.fieldLink RX4 183 "Waxrow$House" "price" "I", Cond.methodLink RX4 19 yX4_checkArgument, Cond.static yX4_checkArgument, Cond.code yX4_checkArgument cX4_checkArgument 3 none, Cond.classLink RX4 113 "java/lang/IllegalArgumentException", Cond.initialized "java/lang/IllegalArgumentException", Cond.methodLink RX4 216 yX1_figuresDone, Cond.instanceMethod yX1_figuresDone, Cond.selects RX1 yX1_figuresDone yX1_figuresDone, Cond.initialized RX1]
def wsL_many_r2 : List Cond := [Cond.code yX1_figuresDone cX1_figuresDone 3 (some .int), Cond.fieldLink RX1 49 "Waxrow$House" "figureCount" "I", Cond.fieldLink RX1 22 "Waxrow$House" "figures" "[LWaxrow$Figure;", Cond.methodLink RX1 119 yX0_isDone, Cond.instanceMethod yX0_isDone, Cond.selects RX0 yX0_isDone yX0_isDone, Cond.initialized RX0, Cond.code yX0_isDone cX0_isDone 1 (some .boolean), Cond.fieldLink RX0 22 "Waxrow$Figure" "step" "I", Cond.fieldLink RX0 18 "Waxrow$Figure" "place" "I", Cond.methodLink RX4 165 yX1_figuresIn, Cond.instanceMethod yX1_figuresIn, Cond.selects RX1 yX1_figuresIn yX1_figuresIn, Cond.code yX1_figuresIn cX1_figuresIn 5 (some .int), Cond.fieldLink RX1 107 "Waxrow$Figure" "place" "I", Cond.methodLink RX4 219 yX1_allDue, Cond.instanceMethod yX1_allDue, Cond.selects RX1 yX1_allDue yX1_allDue, Cond.code yX1_allDue cX1_allDue 3 (some .int), Cond.fieldLink RX1 46 "Waxrow$House" "personCount" "I", Cond.fieldLink RX1 11 "Waxrow$House" "persons" "[LWaxrow$Person;", Cond.fieldLink RX1 129 "Waxrow$Person" "due" "I", Cond.methodLink RX4 98 yX1_allHands, Cond.instanceMethod yX1_allHands]
def wsL_many_r3 : List Cond := [Cond.selects RX1 yX1_allHands yX1_allHands, Cond.code yX1_allHands cX1_allHands 3 (some .int), Cond.fieldLink RX1 132 "Waxrow$Figure" "hands" "I", Cond.methodLink RX4 210 yX1_drawsIn, Cond.instanceMethod yX1_drawsIn, Cond.selects RX1 yX1_drawsIn yX1_drawsIn, Cond.code yX1_drawsIn cX1_drawsIn 5 (some .int), Cond.methodLink RX1 122 yX0_draw, Cond.instanceMethod yX0_draw, Cond.selects RX0 yX0_draw yX0_draw, Cond.code yX0_draw cX0_draw 1 (some .int), Cond.fieldLink RX0 9 "Waxrow$Figure" "head" "LWaxrow$Person;", Cond.fieldLink RX0 66 "Waxrow$Person" "fame" "[I", Cond.methodLink RX0 63 yX0_isShown, Cond.instanceMethod yX0_isShown, Cond.selects RX0 yX0_isShown yX0_isShown, Cond.code yX0_isShown cX0_isShown 1 (some .boolean), Cond.methodLink RX0 69 yX0_likeness, Cond.instanceMethod yX0_likeness, Cond.selects RX0 yX0_likeness yX0_likeness, Cond.code yX0_likeness cX0_likeness 3 (some .int), Cond.fieldLink RX0 31 "Waxrow$Figure" "flaw" "I", Cond.fieldLink RX0 34 "Waxrow$Figure" "wear" "I", Cond.fieldLink RX0 15 "Waxrow$Figure" "body" "LWaxrow$Person;"]
def wsL_many_r4 : List Cond := [Cond.methodLink RX0 56 yX0_isDone, Cond.methodLink RX0 60 yX2_doubleHeight, Cond.instanceMethod yX2_doubleHeight, Cond.selects RX2 yX2_doubleHeight yX2_doubleHeight, Cond.initialized RX2, Cond.code yX2_doubleHeight cX2_doubleHeight 1 (some .int), Cond.fieldLink RX2 22 "Waxrow$Person" "low" "[I", Cond.fieldLink RX2 25 "Waxrow$Person" "high" "[I"]
def wsL_many : List Cond := .codeWith yL_many cL_many 4 (some .int) [(0, 9, 12, 13)] :: ((wsL_many_r1 ++ (wsL_many_r2 ++ (wsL_many_r3 ++ wsL_many_r4))) ++ wsX40 ++ wsX10 ++ wsX00 ++ wsX20 ++ (vx_atS RX4 117 "java/lang/IllegalArgumentException" ["java/lang/RuntimeException", "java/lang/Exception"]).filter goodWord)
def wsL_wouldFame_r1 : List Cond := [Cond.classLink RL 20 "java/lang/IndexOutOfBoundsException", Cond.classLink RL 13 "java/lang/IllegalArgumentException", Cond.methodLink RL 93 yX4_wouldFame, Cond.instanceMethod yX4_wouldFame, Cond.selects RX4 yX4_wouldFame yX4_wouldFame, Cond.initialized RX4, Cond.code yX4_wouldFame cX4_wouldFame 5 (some .int), Cond.fieldLink RX4 10 "Waxrow" "house" "LWaxrow$House;", Cond.methodLink RX4 35 yX1_personAt, Cond.instanceMethod yX1_personAt, Cond.selects RX1 yX1_personAt yX1_personAt, Cond.initialized RX1, Cond.code yX1_personAt cX1_personAt 2 (some (.object "Waxrow$Person")), Cond.fieldLink RX1 46 "Waxrow$House" "personCount" "I", Cond.fieldLink RX1 11 "Waxrow$House" "persons" "[LWaxrow$Person;", Cond.static yX4_checkIndex, Cond.code yX4_checkIndex cX4_checkIndex 2 none, Cond.classLink RX4 279 "java/lang/IndexOutOfBoundsException", Cond.initialized "java/lang/IndexOutOfBoundsException", Cond.methodLink RX4 39 yX4_checkIndex, Cond.methodLink RX4 19 yX4_checkArgument, Cond.static yX4_checkArgument, Cond.code yX4_checkArgument cX4_checkArgument 3 none, Cond.classLink RX4 113 "java/lang/IllegalArgumentException"]
def wsL_wouldFame_r2 : List Cond := [Cond.initialized "java/lang/IllegalArgumentException", Cond.methodLink RX4 228 yX2_fameBehind, Cond.instanceMethod yX2_fameBehind, Cond.selects RX2 yX2_fameBehind yX2_fameBehind, Cond.initialized RX2, Cond.code yX2_fameBehind cX2_fameBehind 6 (some .int), Cond.fieldLink RX2 15 "Waxrow$Person" "fame" "[I", Cond.fieldLink RX2 19 "Waxrow$Person" "trend" "[I", Cond.methodLink RX2 38 yX2_heldFame, Cond.static yX2_heldFame, Cond.code yX2_heldFame cX2_heldFame 1 (some .int), Cond.methodLink RX2 42 yX2_nearerToZero, Cond.static yX2_nearerToZero, Cond.code yX2_nearerToZero cX2_nearerToZero 1 (some .int)]
def wsL_wouldFame : List Cond := .codeWith yL_wouldFame cL_wouldFame 6 (some .int) [(0, 12, 15, 20), (0, 12, 19, 13)] :: ((wsL_wouldFame_r1 ++ wsL_wouldFame_r2) ++ wsX40 ++ wsX10 ++ wsX20 ++ (vx_atS RX4 283 "java/lang/IndexOutOfBoundsException" ["java/lang/RuntimeException", "java/lang/Exception"]).filter goodWord ++ (vx_atS RX4 117 "java/lang/IllegalArgumentException" ["java/lang/RuntimeException", "java/lang/Exception"]).filter goodWord)
def wsL_readyIn_r1 : List Cond := [Cond.classLink RL 20 "java/lang/IndexOutOfBoundsException", Cond.methodLink RL 96 yX4_readyIn, Cond.instanceMethod yX4_readyIn, Cond.selects RX4 yX4_readyIn yX4_readyIn, Cond.initialized RX4, Cond.code yX4_readyIn cX4_readyIn 2 (some .int), Cond.fieldLink RX4 10 "Waxrow" "house" "LWaxrow$House;", Cond.methodLink RX4 94 yX1_figureAt, Cond.instanceMethod yX1_figureAt, Cond.selects RX1 yX1_figureAt yX1_figureAt, Cond.initialized RX1, Cond.code yX1_figureAt cX1_figureAt 2 (some (.object "Waxrow$Figure")), Cond.fieldLink RX1 49 "Waxrow$House" "figureCount" "I", Cond.fieldLink RX1 22 "Waxrow$House" "figures" "[LWaxrow$Figure;", Cond.static yX4_checkIndex, Cond.code yX4_checkIndex cX4_checkIndex 2 none, Cond.classLink RX4 279 "java/lang/IndexOutOfBoundsException", Cond.initialized "java/lang/IndexOutOfBoundsException", Cond.methodLink RX4 231 yX0_daysTillDone, Cond.instanceMethod yX0_daysTillDone, Cond.selects RX0 yX0_daysTillDone yX0_daysTillDone, Cond.initialized RX0, Cond.code yX0_daysTillDone cX0_daysTillDone 3 (some .int), Cond.fieldLink RX0 18 "Waxrow$Figure" "place" "I"]
def wsL_readyIn_r2 : List Cond := [Cond.fieldLink RX0 28 "Waxrow$Figure" "hands" "I", Cond.fieldLink RX0 25 "Waxrow$Figure" "workInStep" "I", Cond.fieldLink RX0 22 "Waxrow$Figure" "step" "I", Cond.methodLink RX0 56 yX0_isDone, Cond.instanceMethod yX0_isDone, Cond.selects RX0 yX0_isDone yX0_isDone, Cond.code yX0_isDone cX0_isDone 1 (some .boolean)]
def wsL_readyIn : List Cond := .codeWith yL_readyIn cL_readyIn 4 (some .int) [(0, 9, 12, 20)] :: ((wsL_readyIn_r1 ++ wsL_readyIn_r2) ++ wsX40 ++ wsX10 ++ wsX00 ++ (vx_atS RX4 283 "java/lang/IndexOutOfBoundsException" ["java/lang/RuntimeException", "java/lang/Exception"]).filter goodWord)
def wsL_meltsIn_r1 : List Cond := [Cond.classLink RL 20 "java/lang/IndexOutOfBoundsException", Cond.classLink RL 13 "java/lang/IllegalArgumentException", Cond.methodLink RL 99 yX4_meltsIn, Cond.instanceMethod yX4_meltsIn, Cond.selects RX4 yX4_meltsIn yX4_meltsIn, Cond.initialized RX4, Cond.code yX4_meltsIn cX4_meltsIn 7 (some .int), Cond.fieldLink RX4 10 "Waxrow" "house" "LWaxrow$House;", Cond.fieldLink RX4 16 "Waxrow" "trial" "LWaxrow$House;", Cond.fieldLink RX4 110 "Waxrow$Figure" "place" "I", Cond.methodLink RX4 94 yX1_figureAt, Cond.instanceMethod yX1_figureAt, Cond.selects RX1 yX1_figureAt yX1_figureAt, Cond.initialized RX1, Cond.code yX1_figureAt cX1_figureAt 2 (some (.object "Waxrow$Figure")), Cond.fieldLink RX1 49 "Waxrow$House" "figureCount" "I", Cond.fieldLink RX1 22 "Waxrow$House" "figures" "[LWaxrow$Figure;", Cond.static yX4_checkIndex, Cond.code yX4_checkIndex cX4_checkIndex 2 none, Cond.classLink RX4 279 "java/lang/IndexOutOfBoundsException", Cond.initialized "java/lang/IndexOutOfBoundsException", Cond.methodLink RX4 19 yX4_checkArgument, Cond.static yX4_checkArgument, Cond.code yX4_checkArgument cX4_checkArgument 3 none]
def wsL_meltsIn_r2 : List Cond := [Cond.classLink RX4 113 "java/lang/IllegalArgumentException", Cond.initialized "java/lang/IllegalArgumentException", Cond.methodLink RX4 177 yX0_isShown, Cond.instanceMethod yX0_isShown, Cond.selects RX0 yX0_isShown yX0_isShown, Cond.initialized RX0, Cond.code yX0_isShown cX0_isShown 1 (some .boolean), Cond.fieldLink RX0 18 "Waxrow$Figure" "place" "I", Cond.methodLink RX4 234 yX1_copyFrom, Cond.instanceMethod yX1_copyFrom, Cond.selects RX1 yX1_copyFrom yX1_copyFrom, Cond.code yX1_copyFrom cX1_copyFrom 4 none, Cond.fieldLink RX1 46 "Waxrow$House" "personCount" "I", Cond.fieldLink RX1 52 "Waxrow$House" "roomCount" "I", Cond.fieldLink RX1 55 "Waxrow$House" "day" "I", Cond.fieldLink RX1 36 "Waxrow$House" "money" "I", Cond.fieldLink RX1 40 "Waxrow$House" "wax" "I", Cond.fieldLink RX1 43 "Waxrow$House" "price" "I", Cond.fieldLink RX1 58 "Waxrow$House" "came" "I", Cond.fieldLink RX1 11 "Waxrow$House" "persons" "[LWaxrow$Person;", Cond.fieldLink RX1 64 "Waxrow$Figure" "head" "LWaxrow$Person;", Cond.fieldLink RX1 68 "Waxrow$Person" "number" "I", Cond.fieldLink RX1 75 "Waxrow$Figure" "body" "LWaxrow$Person;", Cond.fieldLink RX1 31 "Waxrow$House" "rooms" "[LWaxrow$Room;"]
def wsL_meltsIn_r3 : List Cond := [Cond.fieldLink RX1 81 "Waxrow$Room" "lamps" "I", Cond.fieldLink RX1 84 "Waxrow$Room" "spots" "I", Cond.methodLink RX1 61 yX2_copyFrom, Cond.instanceMethod yX2_copyFrom, Cond.selects RX2 yX2_copyFrom yX2_copyFrom, Cond.initialized RX2, Cond.code yX2_copyFrom cX2_copyFrom 3 none, Cond.fieldLink RX2 15 "Waxrow$Person" "fame" "[I", Cond.fieldLink RX2 19 "Waxrow$Person" "trend" "[I", Cond.fieldLink RX2 22 "Waxrow$Person" "low" "[I", Cond.fieldLink RX2 25 "Waxrow$Person" "high" "[I", Cond.fieldLink RX2 28 "Waxrow$Person" "consents" "Z", Cond.fieldLink RX2 32 "Waxrow$Person" "due" "I", Cond.fieldLink RX2 35 "Waxrow$Person" "clashes" "I", Cond.methodLink RX1 71 yX1_personAt, Cond.instanceMethod yX1_personAt, Cond.selects RX1 yX1_personAt yX1_personAt, Cond.code yX1_personAt cX1_personAt 2 (some (.object "Waxrow$Person")), Cond.methodLink RX1 78 yX0_copyFrom, Cond.instanceMethod yX0_copyFrom, Cond.selects RX0 yX0_copyFrom yX0_copyFrom, Cond.code yX0_copyFrom cX0_copyFrom 4 none, Cond.fieldLink RX0 9 "Waxrow$Figure" "head" "LWaxrow$Person;", Cond.fieldLink RX0 15 "Waxrow$Figure" "body" "LWaxrow$Person;"]
def wsL_meltsIn_r4 : List Cond := [Cond.fieldLink RX0 22 "Waxrow$Figure" "step" "I", Cond.fieldLink RX0 25 "Waxrow$Figure" "workInStep" "I", Cond.fieldLink RX0 28 "Waxrow$Figure" "hands" "I", Cond.fieldLink RX0 31 "Waxrow$Figure" "flaw" "I", Cond.fieldLink RX0 34 "Waxrow$Figure" "wear" "I", Cond.fieldLink RX0 37 "Waxrow$Figure" "tourLand" "I", Cond.fieldLink RX0 40 "Waxrow$Figure" "tourDays" "I", Cond.fieldLink RX0 43 "Waxrow$Figure" "touched" "I", Cond.methodLink RX4 186 yX1_passDay, Cond.instanceMethod yX1_passDay, Cond.selects RX1 yX1_passDay yX1_passDay, Cond.code yX1_passDay cX1_passDay 7 (some .int), Cond.methodLink RX1 135 yX1_beginMonthOfAll, Cond.instanceMethod yX1_beginMonthOfAll, Cond.selects RX1 yX1_beginMonthOfAll yX1_beginMonthOfAll, Cond.code yX1_beginMonthOfAll cX1_beginMonthOfAll 2 none, Cond.methodLink RX1 151 yX2_beginMonth, Cond.instanceMethod yX2_beginMonth, Cond.selects RX2 yX2_beginMonth yX2_beginMonth, Cond.code yX2_beginMonth cX2_beginMonth 2 none, Cond.methodLink RX2 38 yX2_heldFame, Cond.static yX2_heldFame, Cond.code yX2_heldFame cX2_heldFame 1 (some .int), Cond.methodLink RX2 42 yX2_nearerToZero]
def wsL_meltsIn_r5 : List Cond := [Cond.static yX2_nearerToZero, Cond.code yX2_nearerToZero cX2_nearerToZero 1 (some .int), Cond.methodLink RX1 138 yX1_workOnAll, Cond.instanceMethod yX1_workOnAll, Cond.selects RX1 yX1_workOnAll yX1_workOnAll, Cond.code yX1_workOnAll cX1_workOnAll 3 (some .int), Cond.methodLink RX1 154 yX0_workDay, Cond.instanceMethod yX0_workDay, Cond.selects RX0 yX0_workDay yX0_workDay, Cond.code yX0_workDay cX0_workDay 1 (some .boolean), Cond.methodLink RX0 50 yX2_doubt, Cond.instanceMethod yX2_doubt, Cond.selects RX2 yX2_doubt yX2_doubt, Cond.code yX2_doubt cX2_doubt 3 (some .int), Cond.methodLink RX1 141 yX1_drawsIn, Cond.instanceMethod yX1_drawsIn, Cond.selects RX1 yX1_drawsIn yX1_drawsIn, Cond.code yX1_drawsIn cX1_drawsIn 5 (some .int), Cond.fieldLink RX1 107 "Waxrow$Figure" "place" "I", Cond.methodLink RX1 122 yX0_draw, Cond.instanceMethod yX0_draw, Cond.selects RX0 yX0_draw yX0_draw, Cond.code yX0_draw cX0_draw 1 (some .int), Cond.fieldLink RX0 66 "Waxrow$Person" "fame" "[I"]
def wsL_meltsIn_r6 : List Cond := [Cond.methodLink RX0 63 yX0_isShown, Cond.methodLink RX0 69 yX0_likeness, Cond.instanceMethod yX0_likeness, Cond.selects RX0 yX0_likeness yX0_likeness, Cond.code yX0_likeness cX0_likeness 3 (some .int), Cond.methodLink RX0 56 yX0_isDone, Cond.instanceMethod yX0_isDone, Cond.selects RX0 yX0_isDone yX0_isDone, Cond.code yX0_isDone cX0_isDone 1 (some .boolean), Cond.methodLink RX0 60 yX2_doubleHeight, Cond.instanceMethod yX2_doubleHeight, Cond.selects RX2 yX2_doubleHeight yX2_doubleHeight, Cond.code yX2_doubleHeight cX2_doubleHeight 1 (some .int), Cond.methodLink RX1 144 yX1_wearAllShown, Cond.instanceMethod yX1_wearAllShown, Cond.selects RX1 yX1_wearAllShown yX1_wearAllShown, Cond.code yX1_wearAllShown cX1_wearAllShown 8 (some .int), Cond.methodLink RX1 103 yX0_isShown, Cond.methodLink RX1 99 yX1_roomAt, Cond.instanceMethod yX1_roomAt, Cond.selects RX1 yX1_roomAt yX1_roomAt, Cond.code yX1_roomAt cX1_roomAt 2 (some (.object "Waxrow$Room")), Cond.methodLink RX1 157 yX0_wearDay, Cond.instanceMethod yX0_wearDay]
def wsL_meltsIn_r7 : List Cond := [Cond.selects RX0 yX0_wearDay yX0_wearDay, Cond.code yX0_wearDay cX0_wearDay 5 (some .boolean), Cond.fieldLink RX0 72 "Waxrow$Person" "due" "I", Cond.methodLink RX0 75 Lib.Math.min.name, Cond.static Lib.Math.min.name, Cond.initialized "java/lang/Math", Cond.code Lib.Math.min.name Lib.Math.min.code 2 (some .int), Cond.methodLink RX0 81 yX0_becomeMelted, Cond.instanceMethod yX0_becomeMelted, Cond.selects RX0 yX0_becomeMelted yX0_becomeMelted, Cond.code yX0_becomeMelted cX0_becomeMelted 1 none, Cond.methodLink RX1 148 yX1_tourWithAll, Cond.instanceMethod yX1_tourWithAll, Cond.selects RX1 yX1_tourWithAll yX1_tourWithAll, Cond.code yX1_tourWithAll cX1_tourWithAll 2 none, Cond.methodLink RX1 161 yX0_tourDay, Cond.instanceMethod yX0_tourDay, Cond.selects RX0 yX0_tourDay yX0_tourDay, Cond.code yX0_tourDay cX0_tourDay 2 (some .int)]
def wsL_meltsIn : List Cond := .codeWith yL_meltsIn cL_meltsIn 6 (some .int) [(0, 12, 15, 20), (0, 12, 19, 13)] :: ((wsL_meltsIn_r1 ++ (wsL_meltsIn_r2 ++ (wsL_meltsIn_r3 ++ (wsL_meltsIn_r4 ++ (wsL_meltsIn_r5 ++ (wsL_meltsIn_r6 ++ wsL_meltsIn_r7)))))) ++ wsX40 ++ wsX00 ++ wsX10 ++ wsX20 ++ wsX30 ++ (vx_atS RX4 283 "java/lang/IndexOutOfBoundsException" ["java/lang/RuntimeException", "java/lang/Exception"]).filter goodWord ++ (vx_atS RX4 117 "java/lang/IllegalArgumentException" ["java/lang/RuntimeException", "java/lang/Exception"]).filter goodWord)
def wsL_law0_r1 : List Cond := [Cond.classLink RL 8 RX4, Cond.instantiable RX4 2, Cond.initialized RX4, Cond.classLink RL 103 RX6, Cond.instantiable RX6 2, Cond.initialized RX6, Cond.arrayClass .long, Cond.methodLink RL 102 yX4_init, Cond.instanceMethod yX4_init, Cond.code yX4_init cX4_init 1 none, Cond.methodLink RX4 1 objectInit, Cond.instanceMethod objectInit, Cond.code objectInit ⟨#[0xb1]⟩ 1 none, Cond.classLink RX4 7 RX1, Cond.instantiable RX1 11, Cond.initialized RX1, Cond.fieldLink RX4 10 "Waxrow" "house" "LWaxrow$House;", Cond.fieldLink RX4 16 "Waxrow" "trial" "LWaxrow$House;", Cond.methodLink RX4 9 yX1_init, Cond.instanceMethod yX1_init, Cond.code yX1_init cX1_init 2 none, Cond.methodLink RX1 3 objectInit, Cond.classLink RX1 9 RX2, Cond.fieldLink RX1 11 "Waxrow$House" "persons" "[LWaxrow$Person;"]
def wsL_law0_r2 : List Cond := [Cond.instantiable RX2 8, Cond.initialized RX2, Cond.classLink RX1 20 RX0, Cond.fieldLink RX1 22 "Waxrow$House" "figures" "[LWaxrow$Figure;", Cond.instantiable RX0 11, Cond.initialized RX0, Cond.classLink RX1 29 RX3, Cond.fieldLink RX1 31 "Waxrow$House" "rooms" "[LWaxrow$Room;", Cond.instantiable RX3 2, Cond.initialized RX3, Cond.fieldLink RX1 36 "Waxrow$House" "money" "I", Cond.fieldLink RX1 40 "Waxrow$House" "wax" "I", Cond.fieldLink RX1 43 "Waxrow$House" "price" "I", Cond.methodLink RX1 17 yX2_init, Cond.instanceMethod yX2_init, Cond.code yX2_init cX2_init 3 none, Cond.methodLink RX2 3 objectInit, Cond.fieldLink RX2 9 "Waxrow$Person" "number" "I", Cond.arrayClass .int, Cond.fieldLink RX2 15 "Waxrow$Person" "fame" "[I", Cond.fieldLink RX2 19 "Waxrow$Person" "trend" "[I", Cond.fieldLink RX2 22 "Waxrow$Person" "low" "[I", Cond.fieldLink RX2 25 "Waxrow$Person" "high" "[I", Cond.methodLink RX1 26 yX0_init]
def wsL_law0_r3 : List Cond := [Cond.instanceMethod yX0_init, Cond.code yX0_init cX0_init 2 none, Cond.methodLink RX0 3 objectInit, Cond.fieldLink RX0 9 "Waxrow$Figure" "head" "LWaxrow$Person;", Cond.fieldLink RX0 15 "Waxrow$Figure" "body" "LWaxrow$Person;", Cond.fieldLink RX0 18 "Waxrow$Figure" "place" "I", Cond.instanceMethod yX3_init, Cond.code yX3_init cX3_init 1 none, Cond.methodLink RX3 1 objectInit, Cond.methodLink RL 105 yX6_init, Cond.instanceMethod yX6_init, Cond.code yX6_init cX6_init 1 none, Cond.methodLink RX6 1 objectInit, Cond.classLink RX6 7 RX5, Cond.instantiable RX5 14, Cond.initialized RX5, Cond.fieldLink RX6 10 "WaxrowModel" "house" "LWaxrowModel$House;", Cond.instanceMethod yX5_init, Cond.code yX5_init cX5_init 1 none, Cond.methodLink RX5 3 objectInit, Cond.classLink RX5 9 "[[I", Cond.fieldLink RX5 11 "WaxrowModel$House" "persons" "[[I", Cond.fieldLink RX5 16 "WaxrowModel$House" "low" "[[I", Cond.fieldLink RX5 19 "WaxrowModel$House" "high" "[[I"]
def wsL_law0_r4 : List Cond := [Cond.fieldLink RX5 22 "WaxrowModel$House" "figures" "[[I", Cond.fieldLink RX5 25 "WaxrowModel$House" "lamps" "[I", Cond.fieldLink RX5 29 "WaxrowModel$House" "spots" "[I", Cond.fieldLink RX5 32 "WaxrowModel$House" "price" "I", Cond.fieldLink RX5 36 "WaxrowModel$House" "money" "I", Cond.fieldLink RX5 39 "WaxrowModel$House" "wax" "I", Cond.methodLink RL 106 yL_person, Cond.static yL_person, Cond.initialized RL, Cond.codeWith yL_person cL_person 6 (some .int) [(0, 12, 15, 13), (0, 12, 19, 15)], Cond.classLink RL 13 "java/lang/IllegalArgumentException", Cond.classLink RL 15 "java/lang/IllegalStateException", Cond.methodLink RL 7 yX4_person, Cond.instanceMethod yX4_person, Cond.selects RX4 yX4_person yX4_person, Cond.code yX4_person cX4_person 4 (some .int), Cond.fieldLink RX4 23 "Waxrow$House" "personCount" "I", Cond.methodLink RX4 19 yX4_checkArgument, Cond.static yX4_checkArgument, Cond.code yX4_checkArgument cX4_checkArgument 3 none, Cond.classLink RX4 113 "java/lang/IllegalArgumentException", Cond.initialized "java/lang/IllegalArgumentException", Cond.methodLink RX4 27 yX4_checkState, Cond.static yX4_checkState]
def wsL_law0_r5 : List Cond := [Cond.code yX4_checkState cX4_checkState 1 none, Cond.classLink RX4 286 "java/lang/IllegalStateException", Cond.initialized "java/lang/IllegalStateException", Cond.methodLink RX4 31 yX1_addPerson, Cond.instanceMethod yX1_addPerson, Cond.selects RX1 yX1_addPerson yX1_addPerson, Cond.code yX1_addPerson cX1_addPerson 6 (some .int), Cond.fieldLink RX1 46 "Waxrow$House" "personCount" "I", Cond.fieldLink RX1 91 "Waxrow$Person" "fame" "[I", Cond.methodLink RX1 71 yX1_personAt, Cond.instanceMethod yX1_personAt, Cond.selects RX1 yX1_personAt yX1_personAt, Cond.code yX1_personAt cX1_personAt 2 (some (.object "Waxrow$Person")), Cond.static yX4_checkIndex, Cond.code yX4_checkIndex cX4_checkIndex 2 none, Cond.classLink RX4 279 "java/lang/IndexOutOfBoundsException", Cond.initialized "java/lang/IndexOutOfBoundsException", Cond.methodLink RL 111 yX6_person, Cond.instanceMethod yX6_person, Cond.selects RX6 yX6_person yX6_person, Cond.code yX6_person cX6_person 6 (some .int), Cond.fieldLink RX6 16 "WaxrowModel" "thrown" "I", Cond.fieldLink RX6 29 "WaxrowModel$House" "personCount" "I", Cond.fieldLink RX6 46 "WaxrowModel$House" "persons" "[[I"]
def wsL_law0_r6 : List Cond := [Cond.fieldLink RX6 50 "WaxrowModel$House" "high" "[[I", Cond.methodLink RX6 32 yX6_in, Cond.static yX6_in, Cond.code yX6_in cX6_in 3 (some .boolean), Cond.methodLink RX6 42 yX6_no, Cond.instanceMethod yX6_no, Cond.selects RX6 yX6_no yX6_no, Cond.code yX6_no cX6_no 2 (some .int), Cond.methodLink RL 112 yX6_thrown, Cond.instanceMethod yX6_thrown, Cond.selects RX6 yX6_thrown yX6_thrown, Cond.code yX6_thrown cX6_thrown 1 (some .int), Cond.methodLink RL 116 yL_trend, Cond.static yL_trend, Cond.codeWith yL_trend cL_trend 6 (some .int) [(0, 12, 15, 20), (0, 12, 19, 13)], Cond.classLink RL 20 "java/lang/IndexOutOfBoundsException", Cond.methodLink RL 17 yX4_trend, Cond.instanceMethod yX4_trend, Cond.selects RX4 yX4_trend yX4_trend, Cond.code yX4_trend cX4_trend 6 (some .int), Cond.fieldLink RX4 43 "Waxrow$Person" "trend" "[I", Cond.methodLink RX4 35 yX1_personAt, Cond.methodLink RX4 39 yX4_checkIndex, Cond.methodLink RL 118 yX6_trend]
def wsL_law0_r7 : List Cond := [Cond.instanceMethod yX6_trend, Cond.selects RX6 yX6_trend yX6_trend, Cond.code yX6_trend cX6_trend 5 (some .int), Cond.methodLink RX6 53 yX6_isPerson, Cond.instanceMethod yX6_isPerson, Cond.selects RX6 yX6_isPerson yX6_isPerson, Cond.code yX6_isPerson cX6_isPerson 2 (some .boolean), Cond.methodLink RL 119 yL_news, Cond.static yL_news, Cond.codeWith yL_news cL_news 5 (some .int) [(0, 10, 13, 20), (0, 10, 17, 13)], Cond.methodLink RL 22 yX4_news, Cond.instanceMethod yX4_news, Cond.selects RX4 yX4_news yX4_news, Cond.code yX4_news cX4_news 4 (some .int), Cond.fieldLink RX4 53 "Waxrow$Person" "fame" "[I", Cond.methodLink RX4 49 yX2_changeFame, Cond.instanceMethod yX2_changeFame, Cond.selects RX2 yX2_changeFame yX2_changeFame, Cond.code yX2_changeFame cX2_changeFame 3 none, Cond.methodLink RX2 38 yX2_heldFame, Cond.static yX2_heldFame, Cond.code yX2_heldFame cX2_heldFame 1 (some .int), Cond.methodLink RL 122 yX6_news, Cond.instanceMethod yX6_news]
def wsL_law0_r8 : List Cond := [Cond.selects RX6 yX6_news yX6_news, Cond.code yX6_news cX6_news 4 (some .int), Cond.methodLink RX6 57 yX6_held, Cond.static yX6_held, Cond.code yX6_held cX6_held 2 (some .int), Cond.methodLink RX6 20 Lib.Math.min.name, Cond.static Lib.Math.min.name, Cond.initialized "java/lang/Math", Cond.code Lib.Math.min.name Lib.Math.min.code 2 (some .int), Cond.methodLink RX6 26 Lib.Math.max.name, Cond.static Lib.Math.max.name, Cond.code Lib.Math.max.name Lib.Math.max.code 2 (some .int), Cond.methodLink RL 123 yL_consent, Cond.static yL_consent, Cond.codeWith yL_consent cL_consent 5 (some .int) [(0, 10, 13, 20)], Cond.methodLink RL 26 yX4_consent, Cond.instanceMethod yX4_consent, Cond.selects RX4 yX4_consent yX4_consent, Cond.code yX4_consent cX4_consent 4 (some .int), Cond.fieldLink RX4 56 "Waxrow$Person" "consents" "Z", Cond.methodLink RX4 60 yX1_takeAllOf, Cond.instanceMethod yX1_takeAllOf, Cond.selects RX1 yX1_takeAllOf yX1_takeAllOf, Cond.code yX1_takeAllOf cX1_takeAllOf 5 (some .int)]
def wsL_law0_r9 : List Cond := [Cond.fieldLink RX1 49 "Waxrow$House" "figureCount" "I", Cond.fieldLink RX1 64 "Waxrow$Figure" "head" "LWaxrow$Person;", Cond.fieldLink RX1 107 "Waxrow$Figure" "place" "I", Cond.methodLink RX1 103 yX0_isShown, Cond.instanceMethod yX0_isShown, Cond.selects RX0 yX0_isShown yX0_isShown, Cond.code yX0_isShown cX0_isShown 1 (some .boolean), Cond.methodLink RL 126 yX6_consent, Cond.instanceMethod yX6_consent, Cond.selects RX6 yX6_consent yX6_consent, Cond.code yX6_consent cX6_consent 6 (some .int), Cond.fieldLink RX6 36 "WaxrowModel$House" "figureCount" "I", Cond.fieldLink RX6 60 "WaxrowModel$House" "figures" "[[I", Cond.methodLink RX6 63 yX5_isShown, Cond.instanceMethod yX5_isShown, Cond.selects RX5 yX5_isShown yX5_isShown, Cond.code yX5_isShown cX5_isShown 2 (some .boolean), Cond.methodLink RL 127 yL_measure, Cond.static yL_measure, Cond.codeWith yL_measure cL_measure 7 (some .int) [(0, 14, 17, 20), (0, 14, 21, 13)], Cond.methodLink RL 30 yX4_measure, Cond.instanceMethod yX4_measure, Cond.selects RX4 yX4_measure yX4_measure, Cond.code yX4_measure cX4_measure 6 (some .int)]
def wsL_law0_r10 : List Cond := [Cond.methodLink RX4 64 Lib.Math.max.name, Cond.methodLink RX4 70 Lib.Math.min.name, Cond.fieldLink RX4 76 "Waxrow$Person" "high" "[I", Cond.fieldLink RX4 79 "Waxrow$Person" "low" "[I", Cond.methodLink RX4 73 yX2_learn, Cond.instanceMethod yX2_learn, Cond.selects RX2 yX2_learn yX2_learn, Cond.code yX2_learn cX2_learn 7 none, Cond.methodLink RX2 45 Lib.Math.max.name, Cond.methodLink RX2 51 Lib.Math.min.name, Cond.fieldLink RX2 35 "Waxrow$Person" "clashes" "I", Cond.methodLink RL 130 yX6_measure, Cond.instanceMethod yX6_measure, Cond.selects RX6 yX6_measure yX6_measure, Cond.code yX6_measure cX6_measure 8 (some .int), Cond.fieldLink RX6 67 "WaxrowModel$House" "low" "[[I", Cond.methodLink RL 131 yL_pay, Cond.static yL_pay, Cond.codeWith yL_pay cL_pay 4 (some .int) [(0, 9, 12, 20)], Cond.methodLink RL 34 yX4_pay, Cond.instanceMethod yX4_pay, Cond.selects RX4 yX4_pay yX4_pay, Cond.code yX4_pay cX4_pay 4 (some .int), Cond.fieldLink RX4 82 "Waxrow$Person" "due" "I"]
def wsL_law0_r11 : List Cond := [Cond.fieldLink RX4 85 "Waxrow$House" "money" "I", Cond.methodLink RL 134 yX6_pay, Cond.instanceMethod yX6_pay, Cond.selects RX6 yX6_pay yX6_pay, Cond.code yX6_pay cX6_pay 3 (some .int), Cond.fieldLink RX6 70 "WaxrowModel$House" "money" "I", Cond.methodLink RL 135 yL_figure, Cond.static yL_figure, Cond.codeWith yL_figure cL_figure 4 (some .int) [(0, 9, 12, 20), (0, 9, 15, 15)], Cond.methodLink RL 38 yX4_figure, Cond.instanceMethod yX4_figure, Cond.selects RX4 yX4_figure yX4_figure, Cond.code yX4_figure cX4_figure 3 (some .int), Cond.fieldLink RX4 88 "Waxrow$House" "figureCount" "I", Cond.methodLink RX4 91 yX1_addFigure, Cond.instanceMethod yX1_addFigure, Cond.selects RX1 yX1_addFigure yX1_addFigure, Cond.code yX1_addFigure cX1_addFigure 4 (some .int), Cond.fieldLink RX1 75 "Waxrow$Figure" "body" "LWaxrow$Person;", Cond.methodLink RX1 95 yX1_figureAt, Cond.instanceMethod yX1_figureAt, Cond.selects RX1 yX1_figureAt yX1_figureAt, Cond.code yX1_figureAt cX1_figureAt 2 (some (.object "Waxrow$Figure")), Cond.methodLink RL 137 yX6_figure]
def wsL_law0_r12 : List Cond := [Cond.instanceMethod yX6_figure, Cond.selects RX6 yX6_figure yX6_figure, Cond.code yX6_figure cX6_figure 3 (some .int), Cond.methodLink RX6 76 arraycopyName, Cond.native arraycopyName, Cond.static arraycopyName, Cond.initialized "java/lang/System", Cond.methodLink RX6 73 yX6_needs, Cond.static yX6_needs, Cond.code yX6_needs cX6_needs 2 (some .int), Cond.methodLink RL 138 yL_work, Cond.static yL_work, Cond.codeWith yL_work cL_work 5 (some .int) [(0, 10, 13, 20), (0, 10, 17, 13), (0, 10, 21, 15)], Cond.methodLink RL 41 yX4_work, Cond.instanceMethod yX4_work, Cond.selects RX4 yX4_work yX4_work, Cond.code yX4_work cX4_work 5 (some .int), Cond.fieldLink RX4 102 "Waxrow$Figure" "hands" "I", Cond.fieldLink RX4 107 "Waxrow$Figure" "step" "I", Cond.fieldLink RX4 110 "Waxrow$Figure" "place" "I", Cond.methodLink RX4 94 yX1_figureAt, Cond.methodLink RX4 98 yX1_allHands, Cond.instanceMethod yX1_allHands, Cond.selects RX1 yX1_allHands yX1_allHands]
def wsL_law0_r13 : List Cond := [Cond.code yX1_allHands cX1_allHands 3 (some .int), Cond.fieldLink RX1 132 "Waxrow$Figure" "hands" "I", Cond.methodLink RL 140 yX6_work, Cond.instanceMethod yX6_work, Cond.selects RX6 yX6_work yX6_work, Cond.code yX6_work cX6_work 5 (some .int), Cond.methodLink RX6 82 yX6_isFigure, Cond.instanceMethod yX6_isFigure, Cond.selects RX6 yX6_isFigure yX6_isFigure, Cond.code yX6_isFigure cX6_isFigure 2 (some .boolean), Cond.methodLink RX6 85 yX5_hands, Cond.instanceMethod yX5_hands, Cond.selects RX5 yX5_hands yX5_hands, Cond.code yX5_hands cX5_hands 3 (some .int), Cond.fieldLink RX5 56 "WaxrowModel$House" "figureCount" "I", Cond.methodLink RL 141 yL_swap, Cond.static yL_swap, Cond.codeWith yL_swap cL_swap 5 (some .int) [(0, 10, 13, 20), (0, 10, 17, 13), (0, 10, 21, 15)], Cond.methodLink RL 44 yX4_swap, Cond.instanceMethod yX4_swap, Cond.selects RX4 yX4_swap yX4_swap, Cond.code yX4_swap cX4_swap 5 (some .int), Cond.methodLink RX4 120 yX0_isReadyInStore, Cond.instanceMethod yX0_isReadyInStore]
def wsL_law0_r14 : List Cond := [Cond.selects RX0 yX0_isReadyInStore yX0_isReadyInStore, Cond.code yX0_isReadyInStore cX0_isReadyInStore 1 (some .boolean), Cond.fieldLink RX0 22 "Waxrow$Figure" "step" "I", Cond.methodLink RX4 124 yX0_swapHeadWith, Cond.instanceMethod yX0_swapHeadWith, Cond.selects RX0 yX0_swapHeadWith yX0_swapHeadWith, Cond.code yX0_swapHeadWith cX0_swapHeadWith 4 none, Cond.fieldLink RX0 31 "Waxrow$Figure" "flaw" "I", Cond.methodLink RX4 128 yX0_likeness, Cond.instanceMethod yX0_likeness, Cond.selects RX0 yX0_likeness yX0_likeness, Cond.code yX0_likeness cX0_likeness 3 (some .int), Cond.fieldLink RX0 34 "Waxrow$Figure" "wear" "I", Cond.methodLink RX0 56 yX0_isDone, Cond.instanceMethod yX0_isDone, Cond.selects RX0 yX0_isDone yX0_isDone, Cond.code yX0_isDone cX0_isDone 1 (some .boolean), Cond.methodLink RX0 60 yX2_doubleHeight, Cond.instanceMethod yX2_doubleHeight, Cond.selects RX2 yX2_doubleHeight yX2_doubleHeight, Cond.code yX2_doubleHeight cX2_doubleHeight 1 (some .int), Cond.methodLink RL 143 yX6_swap, Cond.instanceMethod yX6_swap, Cond.selects RX6 yX6_swap yX6_swap]
def wsL_law0_r15 : List Cond := [Cond.code yX6_swap cX6_swap 7 (some .int), Cond.methodLink RX6 92 yX6_isAtHand, Cond.instanceMethod yX6_isAtHand, Cond.selects RX6 yX6_isAtHand yX6_isAtHand, Cond.code yX6_isAtHand cX6_isAtHand 2 (some .boolean), Cond.methodLink RX6 89 yX5_isDone, Cond.instanceMethod yX5_isDone, Cond.selects RX5 yX5_isDone yX5_isDone, Cond.code yX5_isDone cX5_isDone 2 (some .boolean), Cond.methodLink RX6 95 yX5_likeness, Cond.instanceMethod yX5_likeness, Cond.selects RX5 yX5_likeness yX5_likeness, Cond.code yX5_likeness cX5_likeness 3 (some .int), Cond.methodLink RX5 76 Lib.Math.abs.name, Cond.static Lib.Math.abs.name, Cond.code Lib.Math.abs.name Lib.Math.abs.code 1 (some .int), Cond.methodLink RX5 81 Lib.Math.max.name, Cond.methodLink RX5 68 yX5_isDone, Cond.methodLink RX5 72 yX5_height, Cond.instanceMethod yX5_height, Cond.selects RX5 yX5_height yX5_height, Cond.code yX5_height cX5_height 2 (some .int), Cond.methodLink RL 144 yL_mend, Cond.static yL_mend]
def wsL_law0_r16 : List Cond := [Cond.codeWith yL_mend cL_mend 4 (some .int) [(0, 9, 12, 20), (0, 9, 15, 15)], Cond.methodLink RL 47 yX4_mend, Cond.instanceMethod yX4_mend, Cond.selects RX4 yX4_mend yX4_mend, Cond.code yX4_mend cX4_mend 4 (some .int), Cond.fieldLink RX4 131 "Waxrow$Figure" "wear" "I", Cond.fieldLink RX4 134 "Waxrow$House" "wax" "I", Cond.methodLink RL 146 yX6_mend, Cond.instanceMethod yX6_mend, Cond.selects RX6 yX6_mend yX6_mend, Cond.code yX6_mend cX6_mend 4 (some .int), Cond.fieldLink RX6 99 "WaxrowModel$House" "wax" "I", Cond.methodLink RL 147 yL_melt, Cond.static yL_melt, Cond.codeWith yL_melt cL_melt 4 (some .int) [(0, 9, 12, 20), (0, 9, 15, 15)], Cond.methodLink RL 50 yX4_melt, Cond.instanceMethod yX4_melt, Cond.selects RX4 yX4_melt yX4_melt, Cond.code yX4_melt cX4_melt 3 (some .int), Cond.methodLink RX4 137 yX0_becomeMelted, Cond.instanceMethod yX0_becomeMelted, Cond.selects RX0 yX0_becomeMelted yX0_becomeMelted, Cond.code yX0_becomeMelted cX0_becomeMelted 1 none, Cond.fieldLink RX0 28 "Waxrow$Figure" "hands" "I"]
def wsL_law0_r17 : List Cond := [Cond.methodLink RL 149 yX6_melt, Cond.instanceMethod yX6_melt, Cond.selects RX6 yX6_melt yX6_melt, Cond.code yX6_melt cX6_melt 3 (some .int), Cond.methodLink RL 150 yL_tour, Cond.static yL_tour, Cond.codeWith yL_tour cL_tour 6 (some .int) [(0, 12, 15, 20), (0, 12, 19, 13), (0, 12, 23, 15)], Cond.methodLink RL 53 yX4_tour, Cond.instanceMethod yX4_tour, Cond.selects RX4 yX4_tour yX4_tour, Cond.code yX4_tour cX4_tour 5 (some .int), Cond.fieldLink RX4 140 "Waxrow$Figure" "head" "LWaxrow$Person;", Cond.fieldLink RX4 144 "Waxrow$Figure" "tourLand" "I", Cond.fieldLink RX4 147 "Waxrow$Figure" "tourDays" "I", Cond.methodLink RL 152 yX6_tour, Cond.instanceMethod yX6_tour, Cond.selects RX6 yX6_tour yX6_tour, Cond.code yX6_tour cX6_tour 5 (some .int), Cond.methodLink RL 153 yL_room, Cond.static yL_room, Cond.codeWith yL_room cL_room 5 (some .int) [(0, 10, 13, 13), (0, 10, 17, 15)], Cond.methodLink RL 56 yX4_room, Cond.instanceMethod yX4_room, Cond.selects RX4 yX4_room yX4_room]
def wsL_law0_r18 : List Cond := [Cond.code yX4_room cX4_room 3 (some .int), Cond.fieldLink RX4 150 "Waxrow$House" "roomCount" "I", Cond.methodLink RX4 153 yX1_addRoom, Cond.instanceMethod yX1_addRoom, Cond.selects RX1 yX1_addRoom yX1_addRoom, Cond.code yX1_addRoom cX1_addRoom 5 (some .int), Cond.fieldLink RX1 52 "Waxrow$House" "roomCount" "I", Cond.fieldLink RX1 81 "Waxrow$Room" "lamps" "I", Cond.fieldLink RX1 84 "Waxrow$Room" "spots" "I", Cond.methodLink RX1 99 yX1_roomAt, Cond.instanceMethod yX1_roomAt, Cond.selects RX1 yX1_roomAt yX1_roomAt, Cond.code yX1_roomAt cX1_roomAt 2 (some (.object "Waxrow$Room")), Cond.methodLink RL 155 yX6_room, Cond.instanceMethod yX6_room, Cond.selects RX6 yX6_room yX6_room, Cond.code yX6_room cX6_room 3 (some .int), Cond.fieldLink RX6 39 "WaxrowModel$House" "roomCount" "I", Cond.fieldLink RX6 102 "WaxrowModel$House" "lamps" "[I", Cond.fieldLink RX6 106 "WaxrowModel$House" "spots" "[I", Cond.methodLink RL 156 yL_lamps, Cond.static yL_lamps, Cond.codeWith yL_lamps cL_lamps 5 (some .int) [(0, 10, 13, 20), (0, 10, 17, 13)], Cond.methodLink RL 59 yX4_lamps]
def wsL_law0_r19 : List Cond := [Cond.instanceMethod yX4_lamps, Cond.selects RX4 yX4_lamps yX4_lamps, Cond.code yX4_lamps cX4_lamps 5 (some .int), Cond.fieldLink RX4 160 "Waxrow$Room" "lamps" "I", Cond.methodLink RX4 156 yX1_roomAt, Cond.methodLink RL 158 yX6_lamps, Cond.instanceMethod yX6_lamps, Cond.selects RX6 yX6_lamps yX6_lamps, Cond.code yX6_lamps cX6_lamps 4 (some .int), Cond.methodLink RX6 109 yX6_isRoom, Cond.instanceMethod yX6_isRoom, Cond.selects RX6 yX6_isRoom yX6_isRoom, Cond.code yX6_isRoom cX6_isRoom 2 (some .boolean), Cond.methodLink RL 159 yL_show, Cond.static yL_show, Cond.codeWith yL_show cL_show 5 (some .int) [(0, 10, 13, 20), (0, 10, 17, 15)], Cond.methodLink RL 62 yX4_show, Cond.instanceMethod yX4_show, Cond.selects RX4 yX4_show yX4_show, Cond.code yX4_show cX4_show 5 (some .int), Cond.fieldLink RX4 168 "Waxrow$Room" "spots" "I", Cond.methodLink RX4 165 yX1_figuresIn, Cond.instanceMethod yX1_figuresIn, Cond.selects RX1 yX1_figuresIn yX1_figuresIn]
def wsL_law0_r20 : List Cond := [Cond.code yX1_figuresIn cX1_figuresIn 5 (some .int), Cond.methodLink RX4 171 yX1_shownOf, Cond.instanceMethod yX1_shownOf, Cond.selects RX1 yX1_shownOf yX1_shownOf, Cond.code yX1_shownOf cX1_shownOf 3 (some .int), Cond.methodLink RX4 174 yX0_draw, Cond.instanceMethod yX0_draw, Cond.selects RX0 yX0_draw yX0_draw, Cond.code yX0_draw cX0_draw 1 (some .int), Cond.fieldLink RX0 66 "Waxrow$Person" "fame" "[I", Cond.methodLink RX0 63 yX0_isShown, Cond.methodLink RX0 69 yX0_likeness, Cond.methodLink RL 161 yX6_show, Cond.instanceMethod yX6_show, Cond.selects RX6 yX6_show yX6_show, Cond.code yX6_show cX6_show 5 (some .int), Cond.methodLink RX6 112 yX5_shownIn, Cond.instanceMethod yX5_shownIn, Cond.selects RX5 yX5_shownIn yX5_shownIn, Cond.code yX5_shownIn cX5_shownIn 4 (some .int), Cond.methodLink RX6 115 yX5_shownOf, Cond.instanceMethod yX5_shownOf, Cond.selects RX5 yX5_shownOf yX5_shownOf, Cond.code yX5_shownOf cX5_shownOf 3 (some .int)]
def wsL_law0_r21 : List Cond := [Cond.methodLink RX5 85 yX5_isShown, Cond.methodLink RX6 118 yX5_draw, Cond.instanceMethod yX5_draw, Cond.selects RX5 yX5_draw yX5_draw, Cond.code yX5_draw cX5_draw 2 (some .int), Cond.methodLink RX5 88 yX5_likeness, Cond.methodLink RL 162 yL_take, Cond.static yL_take, Cond.codeWith yL_take cL_take 4 (some .int) [(0, 9, 12, 20), (0, 9, 15, 15)], Cond.methodLink RL 65 yX4_take, Cond.instanceMethod yX4_take, Cond.selects RX4 yX4_take yX4_take, Cond.code yX4_take cX4_take 4 (some .int), Cond.methodLink RX4 177 yX0_isShown, Cond.methodLink RL 164 yX6_take, Cond.instanceMethod yX6_take, Cond.selects RX6 yX6_take yX6_take, Cond.code yX6_take cX6_take 3 (some .int), Cond.methodLink RL 165 yL_clean, Cond.static yL_clean, Cond.codeWith yL_clean cL_clean 4 (some .int) [(0, 9, 12, 20)], Cond.methodLink RL 68 yX4_clean, Cond.instanceMethod yX4_clean, Cond.selects RX4 yX4_clean yX4_clean]
def wsL_law0_r22 : List Cond := [Cond.code yX4_clean cX4_clean 2 (some .int), Cond.methodLink RX4 180 yX1_cleanFiguresIn, Cond.instanceMethod yX1_cleanFiguresIn, Cond.selects RX1 yX1_cleanFiguresIn yX1_cleanFiguresIn, Cond.code yX1_cleanFiguresIn cX1_cleanFiguresIn 4 none, Cond.fieldLink RX1 110 "Waxrow$Figure" "wear" "I", Cond.methodLink RX1 113 Lib.Math.max.name, Cond.methodLink RL 167 yX6_clean, Cond.instanceMethod yX6_clean, Cond.selects RX6 yX6_clean yX6_clean, Cond.code yX6_clean cX6_clean 3 (some .int), Cond.methodLink RL 168 yL_price, Cond.static yL_price, Cond.codeWith yL_price cL_price 4 (some .int) [(0, 9, 12, 13)], Cond.methodLink RL 71 yX4_price, Cond.instanceMethod yX4_price, Cond.selects RX4 yX4_price yX4_price, Cond.code yX4_price cX4_price 3 (some .int), Cond.fieldLink RX4 183 "Waxrow$House" "price" "I", Cond.methodLink RL 170 yX6_price, Cond.instanceMethod yX6_price, Cond.selects RX6 yX6_price yX6_price, Cond.code yX6_price cX6_price 3 (some .int), Cond.fieldLink RX6 121 "WaxrowModel$House" "price" "I"]
def wsL_law0_r23 : List Cond := [Cond.methodLink RL 171 yL_pass, Cond.static yL_pass, Cond.codeWith yL_pass cL_pass 6 (some .int) [(0, 12, 15, 13)], Cond.methodLink RL 74 yX4_pass, Cond.instanceMethod yX4_pass, Cond.selects RX4 yX4_pass yX4_pass, Cond.code yX4_pass cX4_pass 6 (some .int), Cond.methodLink RX4 186 yX1_passDay, Cond.instanceMethod yX1_passDay, Cond.selects RX1 yX1_passDay yX1_passDay, Cond.code yX1_passDay cX1_passDay 7 (some .int), Cond.fieldLink RX1 55 "Waxrow$House" "day" "I", Cond.fieldLink RX1 58 "Waxrow$House" "came" "I", Cond.methodLink RX1 135 yX1_beginMonthOfAll, Cond.instanceMethod yX1_beginMonthOfAll, Cond.selects RX1 yX1_beginMonthOfAll yX1_beginMonthOfAll, Cond.code yX1_beginMonthOfAll cX1_beginMonthOfAll 2 none, Cond.methodLink RX1 151 yX2_beginMonth, Cond.instanceMethod yX2_beginMonth, Cond.selects RX2 yX2_beginMonth yX2_beginMonth, Cond.code yX2_beginMonth cX2_beginMonth 2 none, Cond.methodLink RX2 42 yX2_nearerToZero, Cond.static yX2_nearerToZero, Cond.code yX2_nearerToZero cX2_nearerToZero 1 (some .int)]
def wsL_law0_r24 : List Cond := [Cond.methodLink RX1 138 yX1_workOnAll, Cond.instanceMethod yX1_workOnAll, Cond.selects RX1 yX1_workOnAll yX1_workOnAll, Cond.code yX1_workOnAll cX1_workOnAll 3 (some .int), Cond.methodLink RX1 154 yX0_workDay, Cond.instanceMethod yX0_workDay, Cond.selects RX0 yX0_workDay yX0_workDay, Cond.code yX0_workDay cX0_workDay 1 (some .boolean), Cond.fieldLink RX0 25 "Waxrow$Figure" "workInStep" "I", Cond.methodLink RX0 50 yX2_doubt, Cond.instanceMethod yX2_doubt, Cond.selects RX2 yX2_doubt yX2_doubt, Cond.code yX2_doubt cX2_doubt 3 (some .int), Cond.methodLink RX1 141 yX1_drawsIn, Cond.instanceMethod yX1_drawsIn, Cond.selects RX1 yX1_drawsIn yX1_drawsIn, Cond.code yX1_drawsIn cX1_drawsIn 5 (some .int), Cond.methodLink RX1 122 yX0_draw, Cond.methodLink RX1 144 yX1_wearAllShown, Cond.instanceMethod yX1_wearAllShown, Cond.selects RX1 yX1_wearAllShown yX1_wearAllShown, Cond.code yX1_wearAllShown cX1_wearAllShown 8 (some .int), Cond.methodLink RX1 157 yX0_wearDay, Cond.instanceMethod yX0_wearDay]
def wsL_law0_r25 : List Cond := [Cond.selects RX0 yX0_wearDay yX0_wearDay, Cond.code yX0_wearDay cX0_wearDay 5 (some .boolean), Cond.fieldLink RX0 43 "Waxrow$Figure" "touched" "I", Cond.fieldLink RX0 72 "Waxrow$Person" "due" "I", Cond.methodLink RX0 75 Lib.Math.min.name, Cond.methodLink RX0 81 yX0_becomeMelted, Cond.methodLink RX1 148 yX1_tourWithAll, Cond.instanceMethod yX1_tourWithAll, Cond.selects RX1 yX1_tourWithAll yX1_tourWithAll, Cond.code yX1_tourWithAll cX1_tourWithAll 2 none, Cond.methodLink RX1 161 yX0_tourDay, Cond.instanceMethod yX0_tourDay, Cond.selects RX0 yX0_tourDay yX0_tourDay, Cond.code yX0_tourDay cX0_tourDay 2 (some .int), Cond.fieldLink RX0 37 "Waxrow$Figure" "tourLand" "I", Cond.fieldLink RX0 40 "Waxrow$Figure" "tourDays" "I", Cond.methodLink RL 173 yX6_pass, Cond.instanceMethod yX6_pass, Cond.selects RX6 yX6_pass yX6_pass, Cond.code yX6_pass cX6_pass 6 (some .int), Cond.methodLink RX6 124 yX5_go, Cond.instanceMethod yX5_go, Cond.selects RX5 yX5_go yX5_go, Cond.code yX5_go cX5_go 8 (some .int)]
def wsL_law0_r26 : List Cond := [Cond.fieldLink RX5 62 "WaxrowModel$House" "day" "I", Cond.fieldLink RX5 53 "WaxrowModel$House" "personCount" "I", Cond.fieldLink RX5 65 "WaxrowModel$House" "came" "I", Cond.methodLink RX5 113 yX5_month, Cond.static yX5_month, Cond.code yX5_month cX5_month 2 none, Cond.methodLink RX5 102 yJ6_signum_0f7a4, Cond.static yJ6_signum_0f7a4, Cond.initialized RJ6, Cond.code yJ6_signum_0f7a4 cJ6_signum_0f7a4 1 (some .int), Cond.methodLink RX5 117 yX5_work, Cond.instanceMethod yX5_work, Cond.selects RX5 yX5_work yX5_work, Cond.code yX5_work cX5_work 3 (some .int), Cond.methodLink RX5 110 yX5_doubt, Cond.instanceMethod yX5_doubt, Cond.selects RX5 yX5_doubt yX5_doubt, Cond.code yX5_doubt cX5_doubt 4 (some .int), Cond.methodLink RX5 120 yX5_drawsIn, Cond.instanceMethod yX5_drawsIn, Cond.selects RX5 yX5_drawsIn yX5_drawsIn, Cond.code yX5_drawsIn cX5_drawsIn 5 (some .int), Cond.methodLink RX5 96 yX5_draw, Cond.methodLink RX5 123 yX5_wear]
def wsL_law0_r27 : List Cond := [Cond.instanceMethod yX5_wear, Cond.selects RX5 yX5_wear yX5_wear, Cond.code yX5_wear cX5_wear 5 (some .int), Cond.methodLink RX5 127 yX5_travel, Cond.instanceMethod yX5_travel, Cond.selects RX5 yX5_travel yX5_travel, Cond.code yX5_travel cX5_travel 2 none, Cond.methodLink RX5 131 Lib.Math.min.name, Cond.methodLink RL 174 yL_ofPerson, Cond.static yL_ofPerson, Cond.codeWith yL_ofPerson cL_ofPerson 5 (some .int) [(0, 10, 13, 20), (0, 10, 17, 13)], Cond.methodLink RL 77 yX4_ofPerson, Cond.instanceMethod yX4_ofPerson, Cond.selects RX4 yX4_ofPerson yX4_ofPerson, Cond.code yX4_ofPerson cX4_ofPerson 4 (some .int), Cond.fieldLink RX4 192 "Waxrow$Person" "clashes" "I", Cond.methodLink RX4 189 yX2_doubt, Cond.methodLink RL 176 yX6_ofPerson, Cond.instanceMethod yX6_ofPerson, Cond.selects RX6 yX6_ofPerson yX6_ofPerson, Cond.code yX6_ofPerson cX6_ofPerson 3 (some .int), Cond.methodLink RX6 130 yX6_personNow, Cond.instanceMethod yX6_personNow, Cond.selects RX6 yX6_personNow yX6_personNow]
def wsL_law0_r28 : List Cond := [Cond.code yX6_personNow cX6_personNow 4 (some .int), Cond.methodLink RX6 127 yX5_doubt, Cond.methodLink RL 177 yL_known, Cond.static yL_known, Cond.codeWith yL_known cL_known 6 (some .int) [(0, 12, 15, 20)], Cond.methodLink RL 80 yX4_known, Cond.instanceMethod yX4_known, Cond.selects RX4 yX4_known yX4_known, Cond.code yX4_known cX4_known 5 (some .int), Cond.methodLink RL 180 yX6_known, Cond.instanceMethod yX6_known, Cond.selects RX6 yX6_known yX6_known, Cond.code yX6_known cX6_known 4 (some .int), Cond.methodLink RL 181 yL_ofFigure, Cond.static yL_ofFigure, Cond.codeWith yL_ofFigure cL_ofFigure 5 (some .int) [(0, 10, 13, 20), (0, 10, 17, 13)], Cond.methodLink RL 84 yX4_ofFigure, Cond.instanceMethod yX4_ofFigure, Cond.selects RX4 yX4_ofFigure yX4_ofFigure, Cond.code yX4_ofFigure cX4_ofFigure 4 (some .int), Cond.fieldLink RX4 195 "Waxrow$Person" "number" "I", Cond.fieldLink RX4 198 "Waxrow$Figure" "body" "LWaxrow$Person;", Cond.fieldLink RX4 204 "Waxrow$Figure" "flaw" "I", Cond.fieldLink RX4 207 "Waxrow$Figure" "touched" "I"]
def wsL_law0_r29 : List Cond := [Cond.methodLink RX4 201 yX0_workLeftInStep, Cond.instanceMethod yX0_workLeftInStep, Cond.selects RX0 yX0_workLeftInStep yX0_workLeftInStep, Cond.code yX0_workLeftInStep cX0_workLeftInStep 1 (some .int), Cond.methodLink RL 183 yX6_ofFigure, Cond.instanceMethod yX6_ofFigure, Cond.selects RX6 yX6_ofFigure yX6_ofFigure, Cond.code yX6_ofFigure cX6_ofFigure 3 (some .int), Cond.methodLink RX6 133 yX6_figureNow, Cond.instanceMethod yX6_figureNow, Cond.selects RX6 yX6_figureNow yX6_figureNow, Cond.code yX6_figureNow cX6_figureNow 4 (some .int), Cond.methodLink RL 184 yL_ofRoom, Cond.static yL_ofRoom, Cond.codeWith yL_ofRoom cL_ofRoom 5 (some .int) [(0, 10, 13, 20), (0, 10, 17, 13)], Cond.methodLink RL 87 yX4_ofRoom, Cond.instanceMethod yX4_ofRoom, Cond.selects RX4 yX4_ofRoom yX4_ofRoom, Cond.code yX4_ofRoom cX4_ofRoom 4 (some .int), Cond.methodLink RX4 210 yX1_drawsIn, Cond.methodLink RL 186 yX6_ofRoom, Cond.instanceMethod yX6_ofRoom, Cond.selects RX6 yX6_ofRoom yX6_ofRoom, Cond.code yX6_ofRoom cX6_ofRoom 3 (some .int)]
def wsL_law0_r30 : List Cond := [Cond.methodLink RX6 140 yX6_roomNow, Cond.instanceMethod yX6_roomNow, Cond.selects RX6 yX6_roomNow yX6_roomNow, Cond.code yX6_roomNow cX6_roomNow 4 (some .int), Cond.methodLink RX6 137 yX5_drawsIn, Cond.methodLink RL 187 yL_many, Cond.static yL_many, Cond.codeWith yL_many cL_many 4 (some .int) [(0, 9, 12, 13)], Cond.methodLink RL 90 yX4_many, Cond.instanceMethod yX4_many, Cond.selects RX4 yX4_many yX4_many, Cond.code yX4_many cX4_many 2 (some .int), Cond.fieldLink RX4 213 "Waxrow$House" "day" "I", Cond.fieldLink RX4 222 "Waxrow$House" "came" "I", Cond.methodLink RX4 216 yX1_figuresDone, Cond.instanceMethod yX1_figuresDone, Cond.selects RX1 yX1_figuresDone yX1_figuresDone, Cond.code yX1_figuresDone cX1_figuresDone 3 (some .int), Cond.methodLink RX1 119 yX0_isDone, Cond.methodLink RX4 219 yX1_allDue, Cond.instanceMethod yX1_allDue, Cond.selects RX1 yX1_allDue yX1_allDue, Cond.code yX1_allDue cX1_allDue 3 (some .int), Cond.fieldLink RX1 129 "Waxrow$Person" "due" "I"]
def wsL_law0_r31 : List Cond := [Cond.methodLink RL 189 yX6_many, Cond.instanceMethod yX6_many, Cond.selects RX6 yX6_many yX6_many, Cond.code yX6_many cX6_many 2 (some .int), Cond.methodLink RX6 152 yX6_manyNow, Cond.instanceMethod yX6_manyNow, Cond.selects RX6 yX6_manyNow yX6_manyNow, Cond.code yX6_manyNow cX6_manyNow 5 (some .int), Cond.fieldLink RX6 143 "WaxrowModel$House" "day" "I", Cond.fieldLink RX6 149 "WaxrowModel$House" "came" "I", Cond.methodLink RX6 146 yX6_countAt, Cond.instanceMethod yX6_countAt, Cond.selects RX6 yX6_countAt yX6_countAt, Cond.code yX6_countAt cX6_countAt 5 (some .int), Cond.methodLink RL 190 yX4_meanLikeness, Cond.instanceMethod yX4_meanLikeness, Cond.selects RX4 yX4_meanLikeness yX4_meanLikeness, Cond.code yX4_meanLikeness cX4_meanLikeness 2 (some .double), Cond.methodLink RX4 225 yX1_likenessShown, Cond.instanceMethod yX1_likenessShown, Cond.selects RX1 yX1_likenessShown yX1_likenessShown, Cond.code yX1_likenessShown cX1_likenessShown 3 (some .int), Cond.methodLink RX1 126 yX0_likeness, Cond.methodLink RL 194 yX6_meanLikeness]
def wsL_law0_r32 : List Cond := [Cond.instanceMethod yX6_meanLikeness, Cond.selects RX6 yX6_meanLikeness yX6_meanLikeness, Cond.code yX6_meanLikeness cX6_meanLikeness 3 (some .double), Cond.methodLink RL 195 yL_wouldFame, Cond.static yL_wouldFame, Cond.codeWith yL_wouldFame cL_wouldFame 6 (some .int) [(0, 12, 15, 20), (0, 12, 19, 13)], Cond.methodLink RL 93 yX4_wouldFame, Cond.instanceMethod yX4_wouldFame, Cond.selects RX4 yX4_wouldFame yX4_wouldFame, Cond.code yX4_wouldFame cX4_wouldFame 5 (some .int), Cond.methodLink RX4 228 yX2_fameBehind, Cond.instanceMethod yX2_fameBehind, Cond.selects RX2 yX2_fameBehind yX2_fameBehind, Cond.code yX2_fameBehind cX2_fameBehind 6 (some .int), Cond.methodLink RL 197 yX6_wouldFame, Cond.instanceMethod yX6_wouldFame, Cond.selects RX6 yX6_wouldFame yX6_wouldFame, Cond.code yX6_wouldFame cX6_wouldFame 4 (some .int), Cond.methodLink RX6 159 yX6_fameNow, Cond.instanceMethod yX6_fameNow, Cond.selects RX6 yX6_fameNow yX6_fameNow, Cond.code yX6_fameNow cX6_fameNow 6 (some .int), Cond.methodLink RX6 155 yX5_month, Cond.methodLink RL 198 yL_readyIn]
def wsL_law0_r33 : List Cond := [Cond.static yL_readyIn, Cond.codeWith yL_readyIn cL_readyIn 4 (some .int) [(0, 9, 12, 20)], Cond.methodLink RL 96 yX4_readyIn, Cond.instanceMethod yX4_readyIn, Cond.selects RX4 yX4_readyIn yX4_readyIn, Cond.code yX4_readyIn cX4_readyIn 2 (some .int), Cond.methodLink RX4 231 yX0_daysTillDone, Cond.instanceMethod yX0_daysTillDone, Cond.selects RX0 yX0_daysTillDone yX0_daysTillDone, Cond.code yX0_daysTillDone cX0_daysTillDone 3 (some .int), Cond.methodLink RL 200 yX6_readyIn, Cond.instanceMethod yX6_readyIn, Cond.selects RX6 yX6_readyIn yX6_readyIn, Cond.code yX6_readyIn cX6_readyIn 2 (some .int), Cond.methodLink RX6 163 yX6_readyNow, Cond.instanceMethod yX6_readyNow, Cond.selects RX6 yX6_readyNow yX6_readyNow, Cond.code yX6_readyNow cX6_readyNow 4 (some .int), Cond.methodLink RL 201 yL_meltsIn, Cond.static yL_meltsIn, Cond.codeWith yL_meltsIn cL_meltsIn 6 (some .int) [(0, 12, 15, 20), (0, 12, 19, 13)], Cond.methodLink RL 99 yX4_meltsIn, Cond.instanceMethod yX4_meltsIn, Cond.selects RX4 yX4_meltsIn yX4_meltsIn]
def wsL_law0_r34 : List Cond := [Cond.code yX4_meltsIn cX4_meltsIn 7 (some .int), Cond.methodLink RX4 234 yX1_copyFrom, Cond.instanceMethod yX1_copyFrom, Cond.selects RX1 yX1_copyFrom yX1_copyFrom, Cond.code yX1_copyFrom cX1_copyFrom 4 none, Cond.fieldLink RX1 68 "Waxrow$Person" "number" "I", Cond.methodLink RX1 61 yX2_copyFrom, Cond.instanceMethod yX2_copyFrom, Cond.selects RX2 yX2_copyFrom yX2_copyFrom, Cond.code yX2_copyFrom cX2_copyFrom 3 none, Cond.fieldLink RX2 28 "Waxrow$Person" "consents" "Z", Cond.fieldLink RX2 32 "Waxrow$Person" "due" "I", Cond.methodLink RX1 78 yX0_copyFrom, Cond.instanceMethod yX0_copyFrom, Cond.selects RX0 yX0_copyFrom yX0_copyFrom, Cond.code yX0_copyFrom cX0_copyFrom 4 none, Cond.methodLink RL 203 yX6_meltsIn, Cond.instanceMethod yX6_meltsIn, Cond.selects RX6 yX6_meltsIn yX6_meltsIn, Cond.code yX6_meltsIn cX6_meltsIn 4 (some .int), Cond.methodLink RX6 170 yX6_meltsNow, Cond.instanceMethod yX6_meltsNow, Cond.selects RX6 yX6_meltsNow yX6_meltsNow, Cond.code yX6_meltsNow cX6_meltsNow 6 (some .int)]
def wsL_law0_r35 : List Cond := [Cond.methodLink RX6 166 yX5_copy, Cond.instanceMethod yX5_copy, Cond.selects RX5 yX5_copy yX5_copy, Cond.code yX5_copy cX5_copy 2 (some (.object "WaxrowModel$House")), Cond.classLink RX5 12 RX5, Cond.methodLink RX5 47 arraycopyName, Cond.fieldLink RX5 59 "WaxrowModel$House" "roomCount" "I", Cond.methodLink RX5 42 yX5_init, Cond.methodLink RX5 43 yX5_rows, Cond.static yX5_rows, Cond.code yX5_rows cX5_rows 3 none, Cond.methodLink RL 204 yX4_bestNext, Cond.instanceMethod yX4_bestNext, Cond.selects RX4 yX4_bestNext yX4_bestNext, Cond.code yX4_bestNext cX4_bestNext 8 (some .int), Cond.methodLink RX4 238 yX1_hasFigureOf, Cond.instanceMethod yX1_hasFigureOf, Cond.selects RX1 yX1_hasFigureOf yX1_hasFigureOf, Cond.code yX1_hasFigureOf cX1_hasFigureOf 3 (some .boolean), Cond.methodLink RL 207 yX6_bestNext, Cond.instanceMethod yX6_bestNext, Cond.selects RX6 yX6_bestNext yX6_bestNext, Cond.code yX6_bestNext cX6_bestNext 1 (some .int), Cond.methodLink RX6 176 yX6_nextNow]
def wsL_law0_r36 : List Cond := [Cond.instanceMethod yX6_nextNow, Cond.selects RX6 yX6_nextNow yX6_nextNow, Cond.code yX6_nextNow cX6_nextNow 4 (some .int), Cond.methodLink RX6 173 yX6_hasFigure, Cond.instanceMethod yX6_hasFigure, Cond.selects RX6 yX6_hasFigure yX6_hasFigure, Cond.code yX6_hasFigure cX6_hasFigure 3 (some .boolean), Cond.methodLink RL 208 yX4_digest, Cond.instanceMethod yX4_digest, Cond.selects RX4 yX4_digest yX4_digest, Cond.code yX4_digest cX4_digest 5 (some .long), Cond.constantLong RX4 242 (58234), Cond.constantLong RX4 244 (31), Cond.methodLink RX4 246 yX4_many, Cond.methodLink RX4 250 yX4_digestWithPerson, Cond.instanceMethod yX4_digestWithPerson, Cond.selects RX4 yX4_digestWithPerson yX4_digestWithPerson, Cond.code yX4_digestWithPerson cX4_digestWithPerson 7 (some .long), Cond.methodLink RX4 269 yX4_ofPerson, Cond.methodLink RX4 272 yX4_known, Cond.methodLink RX4 276 yX4_wouldFame, Cond.methodLink RX4 254 yX4_ofFigure, Cond.methodLink RX4 257 yX4_readyIn, Cond.methodLink RX4 260 yX4_meltsIn]
def wsL_law0_r37 : List Cond := [Cond.methodLink RX4 263 yX4_ofRoom, Cond.methodLink RX4 266 yX4_bestNext, Cond.methodLink RL 212 yX6_digest, Cond.instanceMethod yX6_digest, Cond.selects RX6 yX6_digest yX6_digest, Cond.code yX6_digest cX6_digest 5 (some .long), Cond.constantLong RX6 179 (58234), Cond.constantLong RX6 181 (31)]
def wsL_law0 : List Cond := (wsL_law0_r1 ++ (wsL_law0_r2 ++ (wsL_law0_r3 ++ (wsL_law0_r4 ++ (wsL_law0_r5 ++ (wsL_law0_r6 ++ (wsL_law0_r7 ++ (wsL_law0_r8 ++ (wsL_law0_r9 ++ (wsL_law0_r10 ++ (wsL_law0_r11 ++ (wsL_law0_r12 ++ (wsL_law0_r13 ++ (wsL_law0_r14 ++ (wsL_law0_r15 ++ (wsL_law0_r16 ++ (wsL_law0_r17 ++ (wsL_law0_r18 ++ (wsL_law0_r19 ++ (wsL_law0_r20 ++ (wsL_law0_r21 ++ (wsL_law0_r22 ++ (wsL_law0_r23 ++ (wsL_law0_r24 ++ (wsL_law0_r25 ++ (wsL_law0_r26 ++ (wsL_law0_r27 ++ (wsL_law0_r28 ++ (wsL_law0_r29 ++ (wsL_law0_r30 ++ (wsL_law0_r31 ++ (wsL_law0_r32 ++ (wsL_law0_r33 ++ (wsL_law0_r34 ++ (wsL_law0_r35 ++ (wsL_law0_r36 ++ wsL_law0_r37)))))))))))))))))))))))))))))))))))) ++ wsX40 ++ wsX60 ++ wsX10 ++ wsX20 ++ wsX00 ++ wsX30 ++ wsX50 ++ ([] : List Cond)
def wsL_law : List Cond := wsL_law0 ++ (vx_atS RX4 117 "java/lang/IllegalArgumentException" ["java/lang/RuntimeException", "java/lang/Exception"]).filter goodWord ++ (vx_atS RX4 290 "java/lang/IllegalStateException" ["java/lang/RuntimeException", "java/lang/Exception"]).filter goodWord ++ (vx_atS RX4 283 "java/lang/IndexOutOfBoundsException" ["java/lang/RuntimeException", "java/lang/Exception"]).filter goodWord
abbrev vwCl : List vw_C := [(RX0, TX0, 11), (RX1, TX1, 11), (RX2, TX2, 8), (RX3, TX3, 2), (RX4, TX4, 2), (RX5, TX5, 14), (RX6, TX6, 2)]
end
section
theorem dX0_init_0 : decode cX0_init 0 = .ok (.aload_n 0, 1) := by decide +kernel
theorem dX0_init_1 : decode cX0_init 1 = .ok (.invokespecial 3, 3) := by decide +kernel
theorem dX0_init_4 : decode cX0_init 4 = .ok (.aload_n 0, 1) := by decide +kernel
theorem dX0_init_5 : decode cX0_init 5 = .ok (.aload_n 1, 1) := by decide +kernel
theorem dX0_init_6 : decode cX0_init 6 = .ok (.putfield 9, 3) := by decide +kernel
theorem dX0_init_9 : decode cX0_init 9 = .ok (.aload_n 0, 1) := by decide +kernel
theorem dX0_init_10 : decode cX0_init 10 = .ok (.aload_n 1, 1) := by decide +kernel
theorem dX0_init_11 : decode cX0_init 11 = .ok (.putfield 15, 3) := by decide +kernel
theorem dX0_init_14 : decode cX0_init 14 = .ok (.aload_n 0, 1) := by decide +kernel
theorem dX0_init_15 : decode cX0_init 15 = .ok (.iconst 5, 1) := by decide +kernel
theorem dX0_init_16 : decode cX0_init 16 = .ok (.putfield 18, 3) := by decide +kernel
theorem dX0_init_19 : decode cX0_init 19 = .ok (.return_, 1) := by decide +kernel
theorem dX0_copyFrom_0 : decode cX0_copyFrom 0 = .ok (.aload_n 0, 1) := by decide +kernel
theorem dX0_copyFrom_1 : decode cX0_copyFrom 1 = .ok (.aload_n 2, 1) := by decide +kernel
theorem dX0_copyFrom_2 : decode cX0_copyFrom 2 = .ok (.putfield 9, 3) := by decide +kernel
theorem dX0_copyFrom_5 : decode cX0_copyFrom 5 = .ok (.aload_n 0, 1) := by decide +kernel
theorem dX0_copyFrom_6 : decode cX0_copyFrom 6 = .ok (.aload_n 3, 1) := by decide +kernel
theorem dX0_copyFrom_7 : decode cX0_copyFrom 7 = .ok (.putfield 15, 3) := by decide +kernel
theorem dX0_copyFrom_10 : decode cX0_copyFrom 10 = .ok (.aload_n 0, 1) := by decide +kernel
theorem dX0_copyFrom_11 : decode cX0_copyFrom 11 = .ok (.aload_n 1, 1) := by decide +kernel
theorem dX0_copyFrom_12 : decode cX0_copyFrom 12 = .ok (.getfield 22, 3) := by decide +kernel
theorem dX0_copyFrom_15 : decode cX0_copyFrom 15 = .ok (.putfield 22, 3) := by decide +kernel
theorem dX0_copyFrom_18 : decode cX0_copyFrom 18 = .ok (.aload_n 0, 1) := by decide +kernel
theorem dX0_copyFrom_19 : decode cX0_copyFrom 19 = .ok (.aload_n 1, 1) := by decide +kernel
theorem dX0_copyFrom_20 : decode cX0_copyFrom 20 = .ok (.getfield 25, 3) := by decide +kernel
theorem dX0_copyFrom_23 : decode cX0_copyFrom 23 = .ok (.putfield 25, 3) := by decide +kernel
theorem dX0_copyFrom_26 : decode cX0_copyFrom 26 = .ok (.aload_n 0, 1) := by decide +kernel
theorem dX0_copyFrom_27 : decode cX0_copyFrom 27 = .ok (.aload_n 1, 1) := by decide +kernel
theorem dX0_copyFrom_28 : decode cX0_copyFrom 28 = .ok (.getfield 28, 3) := by decide +kernel
theorem dX0_copyFrom_31 : decode cX0_copyFrom 31 = .ok (.putfield 28, 3) := by decide +kernel
theorem dX0_copyFrom_34 : decode cX0_copyFrom 34 = .ok (.aload_n 0, 1) := by decide +kernel
theorem dX0_copyFrom_35 : decode cX0_copyFrom 35 = .ok (.aload_n 1, 1) := by decide +kernel
theorem dX0_copyFrom_36 : decode cX0_copyFrom 36 = .ok (.getfield 31, 3) := by decide +kernel
theorem dX0_copyFrom_39 : decode cX0_copyFrom 39 = .ok (.putfield 31, 3) := by decide +kernel
theorem dX0_copyFrom_42 : decode cX0_copyFrom 42 = .ok (.aload_n 0, 1) := by decide +kernel
theorem dX0_copyFrom_43 : decode cX0_copyFrom 43 = .ok (.aload_n 1, 1) := by decide +kernel
theorem dX0_copyFrom_44 : decode cX0_copyFrom 44 = .ok (.getfield 34, 3) := by decide +kernel
theorem dX0_copyFrom_47 : decode cX0_copyFrom 47 = .ok (.putfield 34, 3) := by decide +kernel
theorem dX0_copyFrom_50 : decode cX0_copyFrom 50 = .ok (.aload_n 0, 1) := by decide +kernel
theorem dX0_copyFrom_51 : decode cX0_copyFrom 51 = .ok (.aload_n 1, 1) := by decide +kernel
theorem dX0_copyFrom_52 : decode cX0_copyFrom 52 = .ok (.getfield 18, 3) := by decide +kernel
theorem dX0_copyFrom_55 : decode cX0_copyFrom 55 = .ok (.putfield 18, 3) := by decide +kernel
theorem dX0_copyFrom_58 : decode cX0_copyFrom 58 = .ok (.aload_n 0, 1) := by decide +kernel
theorem dX0_copyFrom_59 : decode cX0_copyFrom 59 = .ok (.aload_n 1, 1) := by decide +kernel
theorem dX0_copyFrom_60 : decode cX0_copyFrom 60 = .ok (.getfield 37, 3) := by decide +kernel
theorem dX0_copyFrom_63 : decode cX0_copyFrom 63 = .ok (.putfield 37, 3) := by decide +kernel
theorem dX0_copyFrom_66 : decode cX0_copyFrom 66 = .ok (.aload_n 0, 1) := by decide +kernel
theorem dX0_copyFrom_67 : decode cX0_copyFrom 67 = .ok (.aload_n 1, 1) := by decide +kernel
theorem dX0_copyFrom_68 : decode cX0_copyFrom 68 = .ok (.getfield 40, 3) := by decide +kernel
theorem dX0_copyFrom_71 : decode cX0_copyFrom 71 = .ok (.putfield 40, 3) := by decide +kernel
theorem dX0_copyFrom_74 : decode cX0_copyFrom 74 = .ok (.aload_n 0, 1) := by decide +kernel
theorem dX0_copyFrom_75 : decode cX0_copyFrom 75 = .ok (.aload_n 1, 1) := by decide +kernel
theorem dX0_copyFrom_76 : decode cX0_copyFrom 76 = .ok (.getfield 43, 3) := by decide +kernel
theorem dX0_copyFrom_79 : decode cX0_copyFrom 79 = .ok (.putfield 43, 3) := by decide +kernel
theorem dX0_copyFrom_82 : decode cX0_copyFrom 82 = .ok (.return_, 1) := by decide +kernel
theorem dX0_isDone_0 : decode cX0_isDone 0 = .ok (.aload_n 0, 1) := by decide +kernel
theorem dX0_isDone_1 : decode cX0_isDone 1 = .ok (.getfield 22, 3) := by decide +kernel
theorem dX0_isDone_4 : decode cX0_isDone 4 = .ok (.bipush 6, 2) := by decide +kernel
theorem dX0_isDone_6 : decode cX0_isDone 6 = .ok (.if_icmp .ne 16, 3) := by decide +kernel
theorem dX0_isDone_9 : decode cX0_isDone 9 = .ok (.aload_n 0, 1) := by decide +kernel
theorem dX0_isDone_10 : decode cX0_isDone 10 = .ok (.getfield 18, 3) := by decide +kernel
theorem dX0_isDone_13 : decode cX0_isDone 13 = .ok (.bipush 7, 2) := by decide +kernel
theorem dX0_isDone_15 : decode cX0_isDone 15 = .ok (.if_icmp .eq 7, 3) := by decide +kernel
theorem dX0_isDone_18 : decode cX0_isDone 18 = .ok (.iconst 1, 1) := by decide +kernel
theorem dX0_isDone_19 : decode cX0_isDone 19 = .ok (.goto 4, 3) := by decide +kernel
theorem dX0_isDone_22 : decode cX0_isDone 22 = .ok (.iconst 0, 1) := by decide +kernel
theorem dX0_isDone_23 : decode cX0_isDone 23 = .ok (.ireturn, 1) := by decide +kernel
theorem dX0_isReadyInStore_0 : decode cX0_isReadyInStore 0 = .ok (.aload_n 0, 1) := by decide +kernel
theorem dX0_isReadyInStore_1 : decode cX0_isReadyInStore 1 = .ok (.getfield 22, 3) := by decide +kernel
theorem dX0_isReadyInStore_4 : decode cX0_isReadyInStore 4 = .ok (.bipush 6, 2) := by decide +kernel
theorem dX0_isReadyInStore_6 : decode cX0_isReadyInStore 6 = .ok (.if_icmp .ne 15, 3) := by decide +kernel
theorem dX0_isReadyInStore_9 : decode cX0_isReadyInStore 9 = .ok (.aload_n 0, 1) := by decide +kernel
theorem dX0_isReadyInStore_10 : decode cX0_isReadyInStore 10 = .ok (.getfield 18, 3) := by decide +kernel
theorem dX0_isReadyInStore_13 : decode cX0_isReadyInStore 13 = .ok (.iconst 5, 1) := by decide +kernel
theorem dX0_isReadyInStore_14 : decode cX0_isReadyInStore 14 = .ok (.if_icmp .ne 7, 3) := by decide +kernel
theorem dX0_isReadyInStore_17 : decode cX0_isReadyInStore 17 = .ok (.iconst 1, 1) := by decide +kernel
theorem dX0_isReadyInStore_18 : decode cX0_isReadyInStore 18 = .ok (.goto 4, 3) := by decide +kernel
theorem dX0_isReadyInStore_21 : decode cX0_isReadyInStore 21 = .ok (.iconst 0, 1) := by decide +kernel
theorem dX0_isReadyInStore_22 : decode cX0_isReadyInStore 22 = .ok (.ireturn, 1) := by decide +kernel
theorem dX0_isShown_0 : decode cX0_isShown 0 = .ok (.aload_n 0, 1) := by decide +kernel
theorem dX0_isShown_1 : decode cX0_isShown 1 = .ok (.getfield 18, 3) := by decide +kernel
theorem dX0_isShown_4 : decode cX0_isShown 4 = .ok (.ifCond .lt 15, 3) := by decide +kernel
theorem dX0_isShown_7 : decode cX0_isShown 7 = .ok (.aload_n 0, 1) := by decide +kernel
theorem dX0_isShown_8 : decode cX0_isShown 8 = .ok (.getfield 18, 3) := by decide +kernel
theorem dX0_isShown_11 : decode cX0_isShown 11 = .ok (.iconst 5, 1) := by decide +kernel
theorem dX0_isShown_12 : decode cX0_isShown 12 = .ok (.if_icmp .ge 7, 3) := by decide +kernel
theorem dX0_isShown_15 : decode cX0_isShown 15 = .ok (.iconst 1, 1) := by decide +kernel
theorem dX0_isShown_16 : decode cX0_isShown 16 = .ok (.goto 4, 3) := by decide +kernel
theorem dX0_isShown_19 : decode cX0_isShown 19 = .ok (.iconst 0, 1) := by decide +kernel
theorem dX0_isShown_20 : decode cX0_isShown 20 = .ok (.ireturn, 1) := by decide +kernel
theorem dX0_becomeMelted_0 : decode cX0_becomeMelted 0 = .ok (.aload_n 0, 1) := by decide +kernel
theorem dX0_becomeMelted_1 : decode cX0_becomeMelted 1 = .ok (.bipush 7, 2) := by decide +kernel
theorem dX0_becomeMelted_3 : decode cX0_becomeMelted 3 = .ok (.putfield 18, 3) := by decide +kernel
theorem dX0_becomeMelted_6 : decode cX0_becomeMelted 6 = .ok (.aload_n 0, 1) := by decide +kernel
theorem dX0_becomeMelted_7 : decode cX0_becomeMelted 7 = .ok (.iconst 0, 1) := by decide +kernel
theorem dX0_becomeMelted_8 : decode cX0_becomeMelted 8 = .ok (.putfield 28, 3) := by decide +kernel
theorem dX0_becomeMelted_11 : decode cX0_becomeMelted 11 = .ok (.return_, 1) := by decide +kernel
set_option maxRecDepth 20000 in
theorem ggX0_workDay_X2_doubt : GoodIn wsX0_workDay wsX2_doubt := goodIn_r _ [11, 12, 13, 25, 26, 27, 28, 29, 30, 31, 32] (by decide +kernel) (by decide +kernel)
set_option maxRecDepth 20000 in
theorem gX0_workDay_X2_doubt : GoodIn wsX0_workDay (wsV RX0 50 RX2 yX2_doubt wsX2_doubt) := goodIn_app (goodIn_of _ (by decide +kernel)) ggX0_workDay_X2_doubt
theorem dX0_workDay_0 : decode cX0_workDay 0 = .ok (.aload_n 0, 1) := by decide +kernel
theorem dX0_workDay_1 : decode cX0_workDay 1 = .ok (.getfield 22, 3) := by decide +kernel
theorem dX0_workDay_4 : decode cX0_workDay 4 = .ok (.bipush 6, 2) := by decide +kernel
theorem dX0_workDay_6 : decode cX0_workDay 6 = .ok (.if_icmp .ge 12, 3) := by decide +kernel
theorem dX0_workDay_9 : decode cX0_workDay 9 = .ok (.aload_n 0, 1) := by decide +kernel
theorem dX0_workDay_10 : decode cX0_workDay 10 = .ok (.getfield 18, 3) := by decide +kernel
theorem dX0_workDay_13 : decode cX0_workDay 13 = .ok (.bipush 7, 2) := by decide +kernel
theorem dX0_workDay_15 : decode cX0_workDay 15 = .ok (.if_icmp .ne 5, 3) := by decide +kernel
theorem dX0_workDay_18 : decode cX0_workDay 18 = .ok (.iconst 0, 1) := by decide +kernel
theorem dX0_workDay_19 : decode cX0_workDay 19 = .ok (.ireturn, 1) := by decide +kernel
theorem dX0_workDay_20 : decode cX0_workDay 20 = .ok (.aload_n 0, 1) := by decide +kernel
theorem dX0_workDay_21 : decode cX0_workDay 21 = .ok (.dup, 1) := by decide +kernel
theorem dX0_workDay_22 : decode cX0_workDay 22 = .ok (.getfield 25, 3) := by decide +kernel
theorem dX0_workDay_25 : decode cX0_workDay 25 = .ok (.aload_n 0, 1) := by decide +kernel
theorem dX0_workDay_26 : decode cX0_workDay 26 = .ok (.getfield 28, 3) := by decide +kernel
theorem dX0_workDay_29 : decode cX0_workDay 29 = .ok (.iadd, 1) := by decide +kernel
theorem dX0_workDay_30 : decode cX0_workDay 30 = .ok (.putfield 25, 3) := by decide +kernel
theorem dX0_workDay_33 : decode cX0_workDay 33 = .ok (.aload_n 0, 1) := by decide +kernel
theorem dX0_workDay_34 : decode cX0_workDay 34 = .ok (.getfield 22, 3) := by decide +kernel
theorem dX0_workDay_37 : decode cX0_workDay 37 = .ok (.getstatic 46, 3) := by decide +kernel
theorem dX0_workDay_40 : decode cX0_workDay 40 = .ok (.arraylength, 1) := by decide +kernel
theorem dX0_workDay_41 : decode cX0_workDay 41 = .ok (.if_icmp .ge 67, 3) := by decide +kernel
theorem dX0_workDay_44 : decode cX0_workDay 44 = .ok (.aload_n 0, 1) := by decide +kernel
theorem dX0_workDay_45 : decode cX0_workDay 45 = .ok (.getfield 25, 3) := by decide +kernel
theorem dX0_workDay_48 : decode cX0_workDay 48 = .ok (.getstatic 46, 3) := by decide +kernel
theorem dX0_workDay_51 : decode cX0_workDay 51 = .ok (.aload_n 0, 1) := by decide +kernel
theorem dX0_workDay_52 : decode cX0_workDay 52 = .ok (.getfield 22, 3) := by decide +kernel
theorem dX0_workDay_55 : decode cX0_workDay 55 = .ok (.iaload, 1) := by decide +kernel
theorem dX0_workDay_56 : decode cX0_workDay 56 = .ok (.if_icmp .lt 52, 3) := by decide +kernel
theorem dX0_workDay_59 : decode cX0_workDay 59 = .ok (.aload_n 0, 1) := by decide +kernel
theorem dX0_workDay_60 : decode cX0_workDay 60 = .ok (.dup, 1) := by decide +kernel
theorem dX0_workDay_61 : decode cX0_workDay 61 = .ok (.getfield 25, 3) := by decide +kernel
theorem dX0_workDay_64 : decode cX0_workDay 64 = .ok (.getstatic 46, 3) := by decide +kernel
theorem dX0_workDay_67 : decode cX0_workDay 67 = .ok (.aload_n 0, 1) := by decide +kernel
theorem dX0_workDay_68 : decode cX0_workDay 68 = .ok (.getfield 22, 3) := by decide +kernel
theorem dX0_workDay_71 : decode cX0_workDay 71 = .ok (.iaload, 1) := by decide +kernel
theorem dX0_workDay_72 : decode cX0_workDay 72 = .ok (.isub, 1) := by decide +kernel
theorem dX0_workDay_73 : decode cX0_workDay 73 = .ok (.putfield 25, 3) := by decide +kernel
theorem dX0_workDay_76 : decode cX0_workDay 76 = .ok (.aload_n 0, 1) := by decide +kernel
theorem dX0_workDay_77 : decode cX0_workDay 77 = .ok (.dup, 1) := by decide +kernel
theorem dX0_workDay_78 : decode cX0_workDay 78 = .ok (.getfield 22, 3) := by decide +kernel
theorem dX0_workDay_81 : decode cX0_workDay 81 = .ok (.iconst 1, 1) := by decide +kernel
theorem dX0_workDay_82 : decode cX0_workDay 82 = .ok (.iadd, 1) := by decide +kernel
theorem dX0_workDay_83 : decode cX0_workDay 83 = .ok (.putfield 22, 3) := by decide +kernel
theorem dX0_workDay_86 : decode cX0_workDay 86 = .ok (.aload_n 0, 1) := by decide +kernel
theorem dX0_workDay_87 : decode cX0_workDay 87 = .ok (.getfield 22, 3) := by decide +kernel
theorem dX0_workDay_90 : decode cX0_workDay 90 = .ok (.iconst 1, 1) := by decide +kernel
theorem dX0_workDay_91 : decode cX0_workDay 91 = .ok (.if_icmp .ne (-58), 3) := by decide +kernel
theorem dX0_workDay_94 : decode cX0_workDay 94 = .ok (.aload_n 0, 1) := by decide +kernel
theorem dX0_workDay_95 : decode cX0_workDay 95 = .ok (.aload_n 0, 1) := by decide +kernel
theorem dX0_workDay_96 : decode cX0_workDay 96 = .ok (.getfield 9, 3) := by decide +kernel
theorem dX0_workDay_99 : decode cX0_workDay 99 = .ok (.invokevirtual 50, 3) := by decide +kernel
theorem dX0_workDay_102 : decode cX0_workDay 102 = .ok (.putfield 31, 3) := by decide +kernel
theorem dX0_workDay_105 : decode cX0_workDay 105 = .ok (.goto (-72), 3) := by decide +kernel
theorem dX0_workDay_108 : decode cX0_workDay 108 = .ok (.aload_n 0, 1) := by decide +kernel
theorem dX0_workDay_109 : decode cX0_workDay 109 = .ok (.getfield 22, 3) := by decide +kernel
theorem dX0_workDay_112 : decode cX0_workDay 112 = .ok (.bipush 6, 2) := by decide +kernel
theorem dX0_workDay_114 : decode cX0_workDay 114 = .ok (.if_icmp .ge 5, 3) := by decide +kernel
theorem dX0_workDay_117 : decode cX0_workDay 117 = .ok (.iconst 0, 1) := by decide +kernel
theorem dX0_workDay_118 : decode cX0_workDay 118 = .ok (.ireturn, 1) := by decide +kernel
theorem dX0_workDay_119 : decode cX0_workDay 119 = .ok (.aload_n 0, 1) := by decide +kernel
theorem dX0_workDay_120 : decode cX0_workDay 120 = .ok (.iconst 0, 1) := by decide +kernel
theorem dX0_workDay_121 : decode cX0_workDay 121 = .ok (.putfield 25, 3) := by decide +kernel
theorem dX0_workDay_124 : decode cX0_workDay 124 = .ok (.aload_n 0, 1) := by decide +kernel
theorem dX0_workDay_125 : decode cX0_workDay 125 = .ok (.iconst 0, 1) := by decide +kernel
theorem dX0_workDay_126 : decode cX0_workDay 126 = .ok (.putfield 28, 3) := by decide +kernel
theorem dX0_workDay_129 : decode cX0_workDay 129 = .ok (.iconst 1, 1) := by decide +kernel
theorem dX0_workDay_130 : decode cX0_workDay 130 = .ok (.ireturn, 1) := by decide +kernel
theorem dX0_workLeftInStep_0 : decode cX0_workLeftInStep 0 = .ok (.aload_n 0, 1) := by decide +kernel
theorem dX0_workLeftInStep_1 : decode cX0_workLeftInStep 1 = .ok (.getfield 22, 3) := by decide +kernel
theorem dX0_workLeftInStep_4 : decode cX0_workLeftInStep 4 = .ok (.getstatic 46, 3) := by decide +kernel
theorem dX0_workLeftInStep_7 : decode cX0_workLeftInStep 7 = .ok (.arraylength, 1) := by decide +kernel
theorem dX0_workLeftInStep_8 : decode cX0_workLeftInStep 8 = .ok (.if_icmp .ge 19, 3) := by decide +kernel
theorem dX0_workLeftInStep_11 : decode cX0_workLeftInStep 11 = .ok (.getstatic 46, 3) := by decide +kernel
theorem dX0_workLeftInStep_14 : decode cX0_workLeftInStep 14 = .ok (.aload_n 0, 1) := by decide +kernel
theorem dX0_workLeftInStep_15 : decode cX0_workLeftInStep 15 = .ok (.getfield 22, 3) := by decide +kernel
theorem dX0_workLeftInStep_18 : decode cX0_workLeftInStep 18 = .ok (.iaload, 1) := by decide +kernel
theorem dX0_workLeftInStep_19 : decode cX0_workLeftInStep 19 = .ok (.aload_n 0, 1) := by decide +kernel
theorem dX0_workLeftInStep_20 : decode cX0_workLeftInStep 20 = .ok (.getfield 25, 3) := by decide +kernel
theorem dX0_workLeftInStep_23 : decode cX0_workLeftInStep 23 = .ok (.isub, 1) := by decide +kernel
theorem dX0_workLeftInStep_24 : decode cX0_workLeftInStep 24 = .ok (.goto 4, 3) := by decide +kernel
theorem dX0_workLeftInStep_27 : decode cX0_workLeftInStep 27 = .ok (.iconst 0, 1) := by decide +kernel
theorem dX0_workLeftInStep_28 : decode cX0_workLeftInStep 28 = .ok (.ireturn, 1) := by decide +kernel
set_option maxRecDepth 20000 in
theorem ggX0_daysTillDone_X0_isDone : GoodIn wsX0_daysTillDone wsX0_isDone := goodIn_r _ [9, 4, 1, 10, 11, 12, 13, 14, 15, 16, 17, 18, 19, 20] (by decide +kernel) (by decide +kernel)
set_option maxRecDepth 20000 in
theorem gX0_daysTillDone_X0_isDone : GoodIn wsX0_daysTillDone (wsV RX0 56 RX0 yX0_isDone wsX0_isDone) := goodIn_app (goodIn_of _ (by decide +kernel)) ggX0_daysTillDone_X0_isDone
theorem dX0_daysTillDone_0 : decode cX0_daysTillDone 0 = .ok (.aload_n 0, 1) := by decide +kernel
theorem dX0_daysTillDone_1 : decode cX0_daysTillDone 1 = .ok (.invokevirtual 56, 3) := by decide +kernel
theorem dX0_daysTillDone_4 : decode cX0_daysTillDone 4 = .ok (.ifCond .eq 5, 3) := by decide +kernel
theorem dX0_daysTillDone_7 : decode cX0_daysTillDone 7 = .ok (.iconst 0, 1) := by decide +kernel
theorem dX0_daysTillDone_8 : decode cX0_daysTillDone 8 = .ok (.ireturn, 1) := by decide +kernel
theorem dX0_daysTillDone_9 : decode cX0_daysTillDone 9 = .ok (.aload_n 0, 1) := by decide +kernel
theorem dX0_daysTillDone_10 : decode cX0_daysTillDone 10 = .ok (.getfield 18, 3) := by decide +kernel
theorem dX0_daysTillDone_13 : decode cX0_daysTillDone 13 = .ok (.bipush 7, 2) := by decide +kernel
theorem dX0_daysTillDone_15 : decode cX0_daysTillDone 15 = .ok (.if_icmp .eq 10, 3) := by decide +kernel
theorem dX0_daysTillDone_18 : decode cX0_daysTillDone 18 = .ok (.aload_n 0, 1) := by decide +kernel
theorem dX0_daysTillDone_19 : decode cX0_daysTillDone 19 = .ok (.getfield 28, 3) := by decide +kernel
theorem dX0_daysTillDone_22 : decode cX0_daysTillDone 22 = .ok (.ifCond .gt 5, 3) := by decide +kernel
theorem dX0_daysTillDone_25 : decode cX0_daysTillDone 25 = .ok (.iconst (-1), 1) := by decide +kernel
theorem dX0_daysTillDone_26 : decode cX0_daysTillDone 26 = .ok (.ireturn, 1) := by decide +kernel
theorem dX0_daysTillDone_27 : decode cX0_daysTillDone 27 = .ok (.aload_n 0, 1) := by decide +kernel
theorem dX0_daysTillDone_28 : decode cX0_daysTillDone 28 = .ok (.getfield 25, 3) := by decide +kernel
theorem dX0_daysTillDone_31 : decode cX0_daysTillDone 31 = .ok (.ineg, 1) := by decide +kernel
theorem dX0_daysTillDone_32 : decode cX0_daysTillDone 32 = .ok (.istore_n 1, 1) := by decide +kernel
theorem dX0_daysTillDone_33 : decode cX0_daysTillDone 33 = .ok (.aload_n 0, 1) := by decide +kernel
theorem dX0_daysTillDone_34 : decode cX0_daysTillDone 34 = .ok (.getfield 22, 3) := by decide +kernel
theorem dX0_daysTillDone_37 : decode cX0_daysTillDone 37 = .ok (.istore_n 2, 1) := by decide +kernel
theorem dX0_daysTillDone_38 : decode cX0_daysTillDone 38 = .ok (.iload_n 2, 1) := by decide +kernel
theorem dX0_daysTillDone_39 : decode cX0_daysTillDone 39 = .ok (.getstatic 46, 3) := by decide +kernel
theorem dX0_daysTillDone_42 : decode cX0_daysTillDone 42 = .ok (.arraylength, 1) := by decide +kernel
theorem dX0_daysTillDone_43 : decode cX0_daysTillDone 43 = .ok (.if_icmp .ge 17, 3) := by decide +kernel
theorem dX0_daysTillDone_46 : decode cX0_daysTillDone 46 = .ok (.iload_n 1, 1) := by decide +kernel
theorem dX0_daysTillDone_47 : decode cX0_daysTillDone 47 = .ok (.getstatic 46, 3) := by decide +kernel
theorem dX0_daysTillDone_50 : decode cX0_daysTillDone 50 = .ok (.iload_n 2, 1) := by decide +kernel
theorem dX0_daysTillDone_51 : decode cX0_daysTillDone 51 = .ok (.iaload, 1) := by decide +kernel
theorem dX0_daysTillDone_52 : decode cX0_daysTillDone 52 = .ok (.iadd, 1) := by decide +kernel
theorem dX0_daysTillDone_53 : decode cX0_daysTillDone 53 = .ok (.istore_n 1, 1) := by decide +kernel
theorem dX0_daysTillDone_54 : decode cX0_daysTillDone 54 = .ok (.iinc 2 1, 3) := by decide +kernel
theorem dX0_daysTillDone_57 : decode cX0_daysTillDone 57 = .ok (.goto (-19), 3) := by decide +kernel
theorem dX0_daysTillDone_60 : decode cX0_daysTillDone 60 = .ok (.iload_n 1, 1) := by decide +kernel
theorem dX0_daysTillDone_61 : decode cX0_daysTillDone 61 = .ok (.aload_n 0, 1) := by decide +kernel
theorem dX0_daysTillDone_62 : decode cX0_daysTillDone 62 = .ok (.getfield 28, 3) := by decide +kernel
theorem dX0_daysTillDone_65 : decode cX0_daysTillDone 65 = .ok (.iadd, 1) := by decide +kernel
theorem dX0_daysTillDone_66 : decode cX0_daysTillDone 66 = .ok (.iconst 1, 1) := by decide +kernel
theorem dX0_daysTillDone_67 : decode cX0_daysTillDone 67 = .ok (.isub, 1) := by decide +kernel
theorem dX0_daysTillDone_68 : decode cX0_daysTillDone 68 = .ok (.aload_n 0, 1) := by decide +kernel
theorem dX0_daysTillDone_69 : decode cX0_daysTillDone 69 = .ok (.getfield 28, 3) := by decide +kernel
theorem dX0_daysTillDone_72 : decode cX0_daysTillDone 72 = .ok (.idiv, 1) := by decide +kernel
theorem dX0_daysTillDone_73 : decode cX0_daysTillDone 73 = .ok (.ireturn, 1) := by decide +kernel
set_option maxRecDepth 20000 in
theorem ggX0_likeness_X0_isDone : GoodIn wsX0_likeness wsX0_isDone := goodIn_r _ [9, 10, 11, 19, 20, 21, 22, 23, 24, 25, 26, 27, 28, 29] (by decide +kernel) (by decide +kernel)
set_option maxRecDepth 20000 in
theorem gX0_likeness_X0_isDone : GoodIn wsX0_likeness (wsV RX0 56 RX0 yX0_isDone wsX0_isDone) := goodIn_app (goodIn_of _ (by decide +kernel)) ggX0_likeness_X0_isDone
set_option maxRecDepth 20000 in
theorem ggX0_likeness_X2_doubleHeight : GoodIn wsX0_likeness wsX2_doubleHeight := goodIn_r _ [16, 17, 18, 30, 31, 32, 33, 34, 35, 36, 37] (by decide +kernel) (by decide +kernel)
set_option maxRecDepth 20000 in
theorem gX0_likeness_X2_doubleHeight : GoodIn wsX0_likeness (wsV RX0 60 RX2 yX2_doubleHeight wsX2_doubleHeight) := goodIn_app (goodIn_of _ (by decide +kernel)) ggX0_likeness_X2_doubleHeight
theorem dX0_likeness_0 : decode cX0_likeness 0 = .ok (.aload_n 0, 1) := by decide +kernel
theorem dX0_likeness_1 : decode cX0_likeness 1 = .ok (.invokevirtual 56, 3) := by decide +kernel
theorem dX0_likeness_4 : decode cX0_likeness 4 = .ok (.ifCond .ne 5, 3) := by decide +kernel
theorem dX0_likeness_7 : decode cX0_likeness 7 = .ok (.iconst 0, 1) := by decide +kernel
theorem dX0_likeness_8 : decode cX0_likeness 8 = .ok (.ireturn, 1) := by decide +kernel
theorem dX0_likeness_9 : decode cX0_likeness 9 = .ok (.bipush 100, 2) := by decide +kernel
theorem dX0_likeness_11 : decode cX0_likeness 11 = .ok (.aload_n 0, 1) := by decide +kernel
theorem dX0_likeness_12 : decode cX0_likeness 12 = .ok (.getfield 31, 3) := by decide +kernel
theorem dX0_likeness_15 : decode cX0_likeness 15 = .ok (.isub, 1) := by decide +kernel
theorem dX0_likeness_16 : decode cX0_likeness 16 = .ok (.aload_n 0, 1) := by decide +kernel
theorem dX0_likeness_17 : decode cX0_likeness 17 = .ok (.getfield 34, 3) := by decide +kernel
theorem dX0_likeness_20 : decode cX0_likeness 20 = .ok (.iconst 2, 1) := by decide +kernel
theorem dX0_likeness_21 : decode cX0_likeness 21 = .ok (.idiv, 1) := by decide +kernel
theorem dX0_likeness_22 : decode cX0_likeness 22 = .ok (.isub, 1) := by decide +kernel
theorem dX0_likeness_23 : decode cX0_likeness 23 = .ok (.istore_n 1, 1) := by decide +kernel
theorem dX0_likeness_24 : decode cX0_likeness 24 = .ok (.aload_n 0, 1) := by decide +kernel
theorem dX0_likeness_25 : decode cX0_likeness 25 = .ok (.getfield 9, 3) := by decide +kernel
theorem dX0_likeness_28 : decode cX0_likeness 28 = .ok (.aload_n 0, 1) := by decide +kernel
theorem dX0_likeness_29 : decode cX0_likeness 29 = .ok (.getfield 15, 3) := by decide +kernel
theorem dX0_likeness_32 : decode cX0_likeness 32 = .ok (.if_acmp .eq 34, 3) := by decide +kernel
theorem dX0_likeness_35 : decode cX0_likeness 35 = .ok (.aload_n 0, 1) := by decide +kernel
theorem dX0_likeness_36 : decode cX0_likeness 36 = .ok (.getfield 9, 3) := by decide +kernel
theorem dX0_likeness_39 : decode cX0_likeness 39 = .ok (.invokevirtual 60, 3) := by decide +kernel
theorem dX0_likeness_42 : decode cX0_likeness 42 = .ok (.aload_n 0, 1) := by decide +kernel
theorem dX0_likeness_43 : decode cX0_likeness 43 = .ok (.getfield 15, 3) := by decide +kernel
theorem dX0_likeness_46 : decode cX0_likeness 46 = .ok (.invokevirtual 60, 3) := by decide +kernel
theorem dX0_likeness_49 : decode cX0_likeness 49 = .ok (.isub, 1) := by decide +kernel
theorem dX0_likeness_50 : decode cX0_likeness 50 = .ok (.istore_n 2, 1) := by decide +kernel
theorem dX0_likeness_51 : decode cX0_likeness 51 = .ok (.iload_n 1, 1) := by decide +kernel
theorem dX0_likeness_52 : decode cX0_likeness 52 = .ok (.iload_n 2, 1) := by decide +kernel
theorem dX0_likeness_53 : decode cX0_likeness 53 = .ok (.ifCond .ge 8, 3) := by decide +kernel
theorem dX0_likeness_56 : decode cX0_likeness 56 = .ok (.iload_n 2, 1) := by decide +kernel
theorem dX0_likeness_57 : decode cX0_likeness 57 = .ok (.ineg, 1) := by decide +kernel
theorem dX0_likeness_58 : decode cX0_likeness 58 = .ok (.goto 4, 3) := by decide +kernel
theorem dX0_likeness_61 : decode cX0_likeness 61 = .ok (.iload_n 2, 1) := by decide +kernel
theorem dX0_likeness_62 : decode cX0_likeness 62 = .ok (.iconst 4, 1) := by decide +kernel
theorem dX0_likeness_63 : decode cX0_likeness 63 = .ok (.idiv, 1) := by decide +kernel
theorem dX0_likeness_64 : decode cX0_likeness 64 = .ok (.isub, 1) := by decide +kernel
theorem dX0_likeness_65 : decode cX0_likeness 65 = .ok (.istore_n 1, 1) := by decide +kernel
theorem dX0_likeness_66 : decode cX0_likeness 66 = .ok (.iload_n 1, 1) := by decide +kernel
theorem dX0_likeness_67 : decode cX0_likeness 67 = .ok (.ifCond .ge 7, 3) := by decide +kernel
theorem dX0_likeness_70 : decode cX0_likeness 70 = .ok (.iconst 0, 1) := by decide +kernel
theorem dX0_likeness_71 : decode cX0_likeness 71 = .ok (.goto 4, 3) := by decide +kernel
theorem dX0_likeness_74 : decode cX0_likeness 74 = .ok (.iload_n 1, 1) := by decide +kernel
theorem dX0_likeness_75 : decode cX0_likeness 75 = .ok (.ireturn, 1) := by decide +kernel
set_option maxRecDepth 20000 in
theorem ggX0_draw_X0_isShown : GoodIn wsX0_draw wsX0_isShown := goodIn_r _ [7, 8, 28, 29, 30, 31, 32, 33, 34, 35, 36, 37, 38] (by decide +kernel) (by decide +kernel)
set_option maxRecDepth 20000 in
theorem gX0_draw_X0_isShown : GoodIn wsX0_draw (wsV RX0 63 RX0 yX0_isShown wsX0_isShown) := goodIn_app (goodIn_of _ (by decide +kernel)) ggX0_draw_X0_isShown
set_option maxRecDepth 20000 in
theorem ggX0_draw_X0_likeness : GoodIn wsX0_draw wsX0_likeness := goodIn_r _ [12, 13, 14, 1, 15, 16, 17, 18, 6, 19, 20, 8, 21, 22, 23, 24, 25, 26, 27, 28, 29, 30, 31, 32, 33, 34, 35, 36, 37, 38, 39, 40, 41, 42, 43, 44, 45, 46] (by decide +kernel) (by decide +kernel)
set_option maxRecDepth 20000 in
theorem gX0_draw_X0_likeness : GoodIn wsX0_draw (wsV RX0 69 RX0 yX0_likeness wsX0_likeness) := goodIn_app (goodIn_of _ (by decide +kernel)) ggX0_draw_X0_likeness
theorem dX0_draw_0 : decode cX0_draw 0 = .ok (.aload_n 0, 1) := by decide +kernel
theorem dX0_draw_1 : decode cX0_draw 1 = .ok (.invokevirtual 63, 3) := by decide +kernel
theorem dX0_draw_4 : decode cX0_draw 4 = .ok (.ifCond .eq 23, 3) := by decide +kernel
theorem dX0_draw_7 : decode cX0_draw 7 = .ok (.aload_n 0, 1) := by decide +kernel
theorem dX0_draw_8 : decode cX0_draw 8 = .ok (.getfield 9, 3) := by decide +kernel
theorem dX0_draw_11 : decode cX0_draw 11 = .ok (.getfield 66, 3) := by decide +kernel
theorem dX0_draw_14 : decode cX0_draw 14 = .ok (.iconst 0, 1) := by decide +kernel
theorem dX0_draw_15 : decode cX0_draw 15 = .ok (.iaload, 1) := by decide +kernel
theorem dX0_draw_16 : decode cX0_draw 16 = .ok (.aload_n 0, 1) := by decide +kernel
theorem dX0_draw_17 : decode cX0_draw 17 = .ok (.invokevirtual 69, 3) := by decide +kernel
theorem dX0_draw_20 : decode cX0_draw 20 = .ok (.imul, 1) := by decide +kernel
theorem dX0_draw_21 : decode cX0_draw 21 = .ok (.bipush 100, 2) := by decide +kernel
theorem dX0_draw_23 : decode cX0_draw 23 = .ok (.idiv, 1) := by decide +kernel
theorem dX0_draw_24 : decode cX0_draw 24 = .ok (.goto 4, 3) := by decide +kernel
theorem dX0_draw_27 : decode cX0_draw 27 = .ok (.iconst 0, 1) := by decide +kernel
theorem dX0_draw_28 : decode cX0_draw 28 = .ok (.ireturn, 1) := by decide +kernel
theorem dX0_swapHeadWith_0 : decode cX0_swapHeadWith 0 = .ok (.aload_n 0, 1) := by decide +kernel
theorem dX0_swapHeadWith_1 : decode cX0_swapHeadWith 1 = .ok (.getfield 9, 3) := by decide +kernel
theorem dX0_swapHeadWith_4 : decode cX0_swapHeadWith 4 = .ok (.astore_n 2, 1) := by decide +kernel
theorem dX0_swapHeadWith_5 : decode cX0_swapHeadWith 5 = .ok (.aload_n 0, 1) := by decide +kernel
theorem dX0_swapHeadWith_6 : decode cX0_swapHeadWith 6 = .ok (.getfield 31, 3) := by decide +kernel
theorem dX0_swapHeadWith_9 : decode cX0_swapHeadWith 9 = .ok (.istore_n 3, 1) := by decide +kernel
theorem dX0_swapHeadWith_10 : decode cX0_swapHeadWith 10 = .ok (.aload_n 0, 1) := by decide +kernel
theorem dX0_swapHeadWith_11 : decode cX0_swapHeadWith 11 = .ok (.aload_n 1, 1) := by decide +kernel
theorem dX0_swapHeadWith_12 : decode cX0_swapHeadWith 12 = .ok (.getfield 9, 3) := by decide +kernel
theorem dX0_swapHeadWith_15 : decode cX0_swapHeadWith 15 = .ok (.putfield 9, 3) := by decide +kernel
theorem dX0_swapHeadWith_18 : decode cX0_swapHeadWith 18 = .ok (.aload_n 0, 1) := by decide +kernel
theorem dX0_swapHeadWith_19 : decode cX0_swapHeadWith 19 = .ok (.aload_n 1, 1) := by decide +kernel
theorem dX0_swapHeadWith_20 : decode cX0_swapHeadWith 20 = .ok (.getfield 31, 3) := by decide +kernel
theorem dX0_swapHeadWith_23 : decode cX0_swapHeadWith 23 = .ok (.putfield 31, 3) := by decide +kernel
theorem dX0_swapHeadWith_26 : decode cX0_swapHeadWith 26 = .ok (.aload_n 1, 1) := by decide +kernel
theorem dX0_swapHeadWith_27 : decode cX0_swapHeadWith 27 = .ok (.aload_n 2, 1) := by decide +kernel
theorem dX0_swapHeadWith_28 : decode cX0_swapHeadWith 28 = .ok (.putfield 9, 3) := by decide +kernel
theorem dX0_swapHeadWith_31 : decode cX0_swapHeadWith 31 = .ok (.aload_n 1, 1) := by decide +kernel
theorem dX0_swapHeadWith_32 : decode cX0_swapHeadWith 32 = .ok (.iload_n 3, 1) := by decide +kernel
theorem dX0_swapHeadWith_33 : decode cX0_swapHeadWith 33 = .ok (.putfield 31, 3) := by decide +kernel
theorem dX0_swapHeadWith_36 : decode cX0_swapHeadWith 36 = .ok (.return_, 1) := by decide +kernel
set_option maxRecDepth 20000 in
theorem ggX0_wearDay_X0_becomeMelted : GoodIn wsX0_wearDay wsX0_becomeMelted := goodIn_r _ [13, 14, 15, 16, 17, 18, 19, 20, 21, 22, 23, 24, 25, 26] (by decide +kernel) (by decide +kernel)
set_option maxRecDepth 20000 in
theorem gX0_wearDay_X0_becomeMelted : GoodIn wsX0_wearDay (wsV RX0 81 RX0 yX0_becomeMelted wsX0_becomeMelted) := goodIn_app (goodIn_of _ (by decide +kernel)) ggX0_wearDay_X0_becomeMelted
theorem dX0_wearDay_0 : decode cX0_wearDay 0 = .ok (.aload_n 0, 1) := by decide +kernel
theorem dX0_wearDay_1 : decode cX0_wearDay 1 = .ok (.dup, 1) := by decide +kernel
theorem dX0_wearDay_2 : decode cX0_wearDay 2 = .ok (.getfield 43, 3) := by decide +kernel
theorem dX0_wearDay_5 : decode cX0_wearDay 5 = .ok (.iload_n 1, 1) := by decide +kernel
theorem dX0_wearDay_6 : decode cX0_wearDay 6 = .ok (.iadd, 1) := by decide +kernel
theorem dX0_wearDay_7 : decode cX0_wearDay 7 = .ok (.putfield 43, 3) := by decide +kernel
theorem dX0_wearDay_10 : decode cX0_wearDay 10 = .ok (.aload_n 0, 1) := by decide +kernel
theorem dX0_wearDay_11 : decode cX0_wearDay 11 = .ok (.getfield 9, 3) := by decide +kernel
theorem dX0_wearDay_14 : decode cX0_wearDay 14 = .ok (.dup, 1) := by decide +kernel
theorem dX0_wearDay_15 : decode cX0_wearDay 15 = .ok (.getfield 72, 3) := by decide +kernel
theorem dX0_wearDay_18 : decode cX0_wearDay 18 = .ok (.iload_n 1, 1) := by decide +kernel
theorem dX0_wearDay_19 : decode cX0_wearDay 19 = .ok (.bipush 100, 2) := by decide +kernel
theorem dX0_wearDay_21 : decode cX0_wearDay 21 = .ok (.idiv, 1) := by decide +kernel
theorem dX0_wearDay_22 : decode cX0_wearDay 22 = .ok (.iadd, 1) := by decide +kernel
theorem dX0_wearDay_23 : decode cX0_wearDay 23 = .ok (.putfield 72, 3) := by decide +kernel
theorem dX0_wearDay_26 : decode cX0_wearDay 26 = .ok (.iload_n 3, 1) := by decide +kernel
theorem dX0_wearDay_27 : decode cX0_wearDay 27 = .ok (.bipush 25, 2) := by decide +kernel
theorem dX0_wearDay_29 : decode cX0_wearDay 29 = .ok (.if_icmp .le 15, 3) := by decide +kernel
theorem dX0_wearDay_32 : decode cX0_wearDay 32 = .ok (.iload_n 3, 1) := by decide +kernel
theorem dX0_wearDay_33 : decode cX0_wearDay 33 = .ok (.bipush 25, 2) := by decide +kernel
theorem dX0_wearDay_35 : decode cX0_wearDay 35 = .ok (.isub, 1) := by decide +kernel
theorem dX0_wearDay_36 : decode cX0_wearDay 36 = .ok (.iload_n 2, 1) := by decide +kernel
theorem dX0_wearDay_37 : decode cX0_wearDay 37 = .ok (.imul, 1) := by decide +kernel
theorem dX0_wearDay_38 : decode cX0_wearDay 38 = .ok (.bipush 10, 2) := by decide +kernel
theorem dX0_wearDay_40 : decode cX0_wearDay 40 = .ok (.idiv, 1) := by decide +kernel
theorem dX0_wearDay_41 : decode cX0_wearDay 41 = .ok (.goto 4, 3) := by decide +kernel
theorem dX0_wearDay_44 : decode cX0_wearDay 44 = .ok (.iconst 0, 1) := by decide +kernel
theorem dX0_wearDay_45 : decode cX0_wearDay 45 = .ok (.istore 4, 2) := by decide +kernel
theorem dX0_wearDay_47 : decode cX0_wearDay 47 = .ok (.aload_n 0, 1) := by decide +kernel
theorem dX0_wearDay_48 : decode cX0_wearDay 48 = .ok (.aload_n 0, 1) := by decide +kernel
theorem dX0_wearDay_49 : decode cX0_wearDay 49 = .ok (.getfield 34, 3) := by decide +kernel
theorem dX0_wearDay_52 : decode cX0_wearDay 52 = .ok (.iload_n 1, 1) := by decide +kernel
theorem dX0_wearDay_53 : decode cX0_wearDay 53 = .ok (.bipush 50, 2) := by decide +kernel
theorem dX0_wearDay_55 : decode cX0_wearDay 55 = .ok (.idiv, 1) := by decide +kernel
theorem dX0_wearDay_56 : decode cX0_wearDay 56 = .ok (.iadd, 1) := by decide +kernel
theorem dX0_wearDay_57 : decode cX0_wearDay 57 = .ok (.iload_n 2, 1) := by decide +kernel
theorem dX0_wearDay_58 : decode cX0_wearDay 58 = .ok (.iconst 3, 1) := by decide +kernel
theorem dX0_wearDay_59 : decode cX0_wearDay 59 = .ok (.idiv, 1) := by decide +kernel
theorem dX0_wearDay_60 : decode cX0_wearDay 60 = .ok (.iadd, 1) := by decide +kernel
theorem dX0_wearDay_61 : decode cX0_wearDay 61 = .ok (.iload 4, 2) := by decide +kernel
theorem dX0_wearDay_63 : decode cX0_wearDay 63 = .ok (.iadd, 1) := by decide +kernel
theorem dX0_wearDay_64 : decode cX0_wearDay 64 = .ok (.bipush 100, 2) := by decide +kernel
theorem dX0_wearDay_66 : decode cX0_wearDay 66 = .ok (.invokestatic 75, 3) := by decide +kernel
theorem dX0_wearDay_69 : decode cX0_wearDay 69 = .ok (.putfield 34, 3) := by decide +kernel
theorem dX0_wearDay_72 : decode cX0_wearDay 72 = .ok (.aload_n 0, 1) := by decide +kernel
theorem dX0_wearDay_73 : decode cX0_wearDay 73 = .ok (.getfield 34, 3) := by decide +kernel
theorem dX0_wearDay_76 : decode cX0_wearDay 76 = .ok (.bipush 100, 2) := by decide +kernel
theorem dX0_wearDay_78 : decode cX0_wearDay 78 = .ok (.if_icmp .ge 5, 3) := by decide +kernel
theorem dX0_wearDay_81 : decode cX0_wearDay 81 = .ok (.iconst 0, 1) := by decide +kernel
theorem dX0_wearDay_82 : decode cX0_wearDay 82 = .ok (.ireturn, 1) := by decide +kernel
theorem dX0_wearDay_83 : decode cX0_wearDay 83 = .ok (.aload_n 0, 1) := by decide +kernel
theorem dX0_wearDay_84 : decode cX0_wearDay 84 = .ok (.invokevirtual 81, 3) := by decide +kernel
theorem dX0_wearDay_87 : decode cX0_wearDay 87 = .ok (.iconst 1, 1) := by decide +kernel
theorem dX0_wearDay_88 : decode cX0_wearDay 88 = .ok (.ireturn, 1) := by decide +kernel
set_option maxRecDepth 20000 in
theorem ggX0_tourDay_X0_likeness : GoodIn wsX0_tourDay wsX0_likeness := goodIn_r _ [15, 16, 4, 2, 17, 18, 19, 20, 14, 21, 22, 10, 23, 24, 25, 26, 27, 28, 29, 30, 31, 32, 33, 34, 35, 36, 37, 38, 39, 40, 41, 42, 43, 44, 45, 46, 47, 48] (by decide +kernel) (by decide +kernel)
set_option maxRecDepth 20000 in
theorem gX0_tourDay_X0_likeness : GoodIn wsX0_tourDay (wsV RX0 69 RX0 yX0_likeness wsX0_likeness) := goodIn_app (goodIn_of _ (by decide +kernel)) ggX0_tourDay_X0_likeness
theorem dX0_tourDay_0 : decode cX0_tourDay 0 = .ok (.iconst 0, 1) := by decide +kernel
theorem dX0_tourDay_1 : decode cX0_tourDay 1 = .ok (.istore_n 1, 1) := by decide +kernel
theorem dX0_tourDay_2 : decode cX0_tourDay 2 = .ok (.aload_n 0, 1) := by decide +kernel
theorem dX0_tourDay_3 : decode cX0_tourDay 3 = .ok (.getfield 37, 3) := by decide +kernel
theorem dX0_tourDay_6 : decode cX0_tourDay 6 = .ok (.ifCond .lt 33, 3) := by decide +kernel
theorem dX0_tourDay_9 : decode cX0_tourDay 9 = .ok (.aload_n 0, 1) := by decide +kernel
theorem dX0_tourDay_10 : decode cX0_tourDay 10 = .ok (.getfield 37, 3) := by decide +kernel
theorem dX0_tourDay_13 : decode cX0_tourDay 13 = .ok (.iconst 3, 1) := by decide +kernel
theorem dX0_tourDay_14 : decode cX0_tourDay 14 = .ok (.if_icmp .ge 25, 3) := by decide +kernel
theorem dX0_tourDay_17 : decode cX0_tourDay 17 = .ok (.aload_n 0, 1) := by decide +kernel
theorem dX0_tourDay_18 : decode cX0_tourDay 18 = .ok (.getfield 9, 3) := by decide +kernel
theorem dX0_tourDay_21 : decode cX0_tourDay 21 = .ok (.getfield 66, 3) := by decide +kernel
theorem dX0_tourDay_24 : decode cX0_tourDay 24 = .ok (.aload_n 0, 1) := by decide +kernel
theorem dX0_tourDay_25 : decode cX0_tourDay 25 = .ok (.getfield 37, 3) := by decide +kernel
theorem dX0_tourDay_28 : decode cX0_tourDay 28 = .ok (.iaload, 1) := by decide +kernel
theorem dX0_tourDay_29 : decode cX0_tourDay 29 = .ok (.aload_n 0, 1) := by decide +kernel
theorem dX0_tourDay_30 : decode cX0_tourDay 30 = .ok (.invokevirtual 69, 3) := by decide +kernel
theorem dX0_tourDay_33 : decode cX0_tourDay 33 = .ok (.imul, 1) := by decide +kernel
theorem dX0_tourDay_34 : decode cX0_tourDay 34 = .ok (.sipush 1000, 3) := by decide +kernel
theorem dX0_tourDay_37 : decode cX0_tourDay 37 = .ok (.idiv, 1) := by decide +kernel
theorem dX0_tourDay_38 : decode cX0_tourDay 38 = .ok (.istore_n 1, 1) := by decide +kernel
theorem dX0_tourDay_39 : decode cX0_tourDay 39 = .ok (.aload_n 0, 1) := by decide +kernel
theorem dX0_tourDay_40 : decode cX0_tourDay 40 = .ok (.aload_n 0, 1) := by decide +kernel
theorem dX0_tourDay_41 : decode cX0_tourDay 41 = .ok (.getfield 34, 3) := by decide +kernel
theorem dX0_tourDay_44 : decode cX0_tourDay 44 = .ok (.iconst 2, 1) := by decide +kernel
theorem dX0_tourDay_45 : decode cX0_tourDay 45 = .ok (.iadd, 1) := by decide +kernel
theorem dX0_tourDay_46 : decode cX0_tourDay 46 = .ok (.bipush 99, 2) := by decide +kernel
theorem dX0_tourDay_48 : decode cX0_tourDay 48 = .ok (.invokestatic 75, 3) := by decide +kernel
theorem dX0_tourDay_51 : decode cX0_tourDay 51 = .ok (.putfield 34, 3) := by decide +kernel
theorem dX0_tourDay_54 : decode cX0_tourDay 54 = .ok (.aload_n 0, 1) := by decide +kernel
theorem dX0_tourDay_55 : decode cX0_tourDay 55 = .ok (.dup, 1) := by decide +kernel
theorem dX0_tourDay_56 : decode cX0_tourDay 56 = .ok (.getfield 40, 3) := by decide +kernel
theorem dX0_tourDay_59 : decode cX0_tourDay 59 = .ok (.iconst 1, 1) := by decide +kernel
theorem dX0_tourDay_60 : decode cX0_tourDay 60 = .ok (.isub, 1) := by decide +kernel
theorem dX0_tourDay_61 : decode cX0_tourDay 61 = .ok (.putfield 40, 3) := by decide +kernel
theorem dX0_tourDay_64 : decode cX0_tourDay 64 = .ok (.aload_n 0, 1) := by decide +kernel
theorem dX0_tourDay_65 : decode cX0_tourDay 65 = .ok (.getfield 40, 3) := by decide +kernel
theorem dX0_tourDay_68 : decode cX0_tourDay 68 = .ok (.ifCond .gt 13, 3) := by decide +kernel
theorem dX0_tourDay_71 : decode cX0_tourDay 71 = .ok (.aload_n 0, 1) := by decide +kernel
theorem dX0_tourDay_72 : decode cX0_tourDay 72 = .ok (.iconst 0, 1) := by decide +kernel
theorem dX0_tourDay_73 : decode cX0_tourDay 73 = .ok (.putfield 40, 3) := by decide +kernel
theorem dX0_tourDay_76 : decode cX0_tourDay 76 = .ok (.aload_n 0, 1) := by decide +kernel
theorem dX0_tourDay_77 : decode cX0_tourDay 77 = .ok (.iconst 5, 1) := by decide +kernel
theorem dX0_tourDay_78 : decode cX0_tourDay 78 = .ok (.putfield 18, 3) := by decide +kernel
theorem dX0_tourDay_81 : decode cX0_tourDay 81 = .ok (.iload_n 1, 1) := by decide +kernel
theorem dX0_tourDay_82 : decode cX0_tourDay 82 = .ok (.ireturn, 1) := by decide +kernel
set_option maxRecDepth 20000 in
theorem ggX1_init_X2_init : GoodIn wsX1_init wsX2_init := goodIn_r _ [21, 22, 2, 3, 23, 24, 25, 26, 27, 28, 50, 51, 52, 53, 54, 55, 56, 57] (by decide +kernel) (by decide +kernel)
set_option maxRecDepth 20000 in
theorem gX1_init_X2_init : GoodIn wsX1_init (wsX2_init) := ggX1_init_X2_init
set_option maxRecDepth 20000 in
theorem ggX1_init_X0_init : GoodIn wsX1_init wsX0_init := goodIn_r _ [31, 32, 2, 3, 33, 34, 35, 58, 59, 60, 61, 62, 63, 64, 65, 66, 67, 68] (by decide +kernel) (by decide +kernel)
set_option maxRecDepth 20000 in
theorem gX1_init_X0_init : GoodIn wsX1_init (wsX0_init) := ggX1_init_X0_init
set_option maxRecDepth 20000 in
theorem ggX1_init_X3_init : GoodIn wsX1_init wsX3_init := goodIn_r _ [37, 38, 2, 3] (by decide +kernel) (by decide +kernel)
set_option maxRecDepth 20000 in
theorem gX1_init_X3_init_n35 : GoodIn wsX1_init (wsX3_init) := ggX1_init_X3_init
theorem dX1_init_0 : decode cX1_init 0 = .ok (.aload_n 0, 1) := by decide +kernel
theorem dX1_init_1 : decode cX1_init 1 = .ok (.invokespecial 3, 3) := by decide +kernel
theorem dX1_init_4 : decode cX1_init 4 = .ok (.aload_n 0, 1) := by decide +kernel
theorem dX1_init_5 : decode cX1_init 5 = .ok (.bipush 10, 2) := by decide +kernel
theorem dX1_init_7 : decode cX1_init 7 = .ok (.anewarray 9, 3) := by decide +kernel
theorem dX1_init_10 : decode cX1_init 10 = .ok (.putfield 11, 3) := by decide +kernel
theorem dX1_init_13 : decode cX1_init 13 = .ok (.iconst 0, 1) := by decide +kernel
theorem dX1_init_14 : decode cX1_init 14 = .ok (.istore_n 1, 1) := by decide +kernel
theorem dX1_init_15 : decode cX1_init 15 = .ok (.iload_n 1, 1) := by decide +kernel
theorem dX1_init_16 : decode cX1_init 16 = .ok (.bipush 10, 2) := by decide +kernel
theorem dX1_init_18 : decode cX1_init 18 = .ok (.if_icmp .ge 23, 3) := by decide +kernel
theorem dX1_init_21 : decode cX1_init 21 = .ok (.aload_n 0, 1) := by decide +kernel
theorem dX1_init_22 : decode cX1_init 22 = .ok (.getfield 11, 3) := by decide +kernel
theorem dX1_init_25 : decode cX1_init 25 = .ok (.iload_n 1, 1) := by decide +kernel
theorem dX1_init_26 : decode cX1_init 26 = .ok (.new 9, 3) := by decide +kernel
theorem dX1_init_29 : decode cX1_init 29 = .ok (.dup, 1) := by decide +kernel
theorem dX1_init_30 : decode cX1_init 30 = .ok (.iload_n 1, 1) := by decide +kernel
theorem dX1_init_31 : decode cX1_init 31 = .ok (.invokespecial 17, 3) := by decide +kernel
theorem dX1_init_34 : decode cX1_init 34 = .ok (.aastore, 1) := by decide +kernel
theorem dX1_init_35 : decode cX1_init 35 = .ok (.iinc 1 1, 3) := by decide +kernel
theorem dX1_init_38 : decode cX1_init 38 = .ok (.goto (-23), 3) := by decide +kernel
theorem dX1_init_41 : decode cX1_init 41 = .ok (.aload_n 0, 1) := by decide +kernel
theorem dX1_init_42 : decode cX1_init 42 = .ok (.bipush 8, 2) := by decide +kernel
theorem dX1_init_44 : decode cX1_init 44 = .ok (.anewarray 20, 3) := by decide +kernel
theorem dX1_init_47 : decode cX1_init 47 = .ok (.putfield 22, 3) := by decide +kernel
theorem dX1_init_50 : decode cX1_init 50 = .ok (.iconst 0, 1) := by decide +kernel
theorem dX1_init_51 : decode cX1_init 51 = .ok (.istore_n 1, 1) := by decide +kernel
theorem dX1_init_52 : decode cX1_init 52 = .ok (.iload_n 1, 1) := by decide +kernel
theorem dX1_init_53 : decode cX1_init 53 = .ok (.bipush 8, 2) := by decide +kernel
theorem dX1_init_55 : decode cX1_init 55 = .ok (.if_icmp .ge 28, 3) := by decide +kernel
theorem dX1_init_58 : decode cX1_init 58 = .ok (.aload_n 0, 1) := by decide +kernel
theorem dX1_init_59 : decode cX1_init 59 = .ok (.getfield 22, 3) := by decide +kernel
theorem dX1_init_62 : decode cX1_init 62 = .ok (.iload_n 1, 1) := by decide +kernel
theorem dX1_init_63 : decode cX1_init 63 = .ok (.new 20, 3) := by decide +kernel
theorem dX1_init_66 : decode cX1_init 66 = .ok (.dup, 1) := by decide +kernel
theorem dX1_init_67 : decode cX1_init 67 = .ok (.aload_n 0, 1) := by decide +kernel
theorem dX1_init_68 : decode cX1_init 68 = .ok (.getfield 11, 3) := by decide +kernel
theorem dX1_init_71 : decode cX1_init 71 = .ok (.iconst 0, 1) := by decide +kernel
theorem dX1_init_72 : decode cX1_init 72 = .ok (.aaload, 1) := by decide +kernel
theorem dX1_init_73 : decode cX1_init 73 = .ok (.invokespecial 26, 3) := by decide +kernel
theorem dX1_init_76 : decode cX1_init 76 = .ok (.aastore, 1) := by decide +kernel
theorem dX1_init_77 : decode cX1_init 77 = .ok (.iinc 1 1, 3) := by decide +kernel
theorem dX1_init_80 : decode cX1_init 80 = .ok (.goto (-28), 3) := by decide +kernel
theorem dX1_init_83 : decode cX1_init 83 = .ok (.aload_n 0, 1) := by decide +kernel
theorem dX1_init_84 : decode cX1_init 84 = .ok (.iconst 5, 1) := by decide +kernel
theorem dX1_init_85 : decode cX1_init 85 = .ok (.anewarray 29, 3) := by decide +kernel
theorem dX1_init_88 : decode cX1_init 88 = .ok (.putfield 31, 3) := by decide +kernel
theorem dX1_init_91 : decode cX1_init 91 = .ok (.iconst 0, 1) := by decide +kernel
theorem dX1_init_92 : decode cX1_init 92 = .ok (.istore_n 1, 1) := by decide +kernel
theorem dX1_init_93 : decode cX1_init 93 = .ok (.iload_n 1, 1) := by decide +kernel
theorem dX1_init_94 : decode cX1_init 94 = .ok (.iconst 5, 1) := by decide +kernel
theorem dX1_init_95 : decode cX1_init 95 = .ok (.if_icmp .ge 22, 3) := by decide +kernel
theorem dX1_init_98 : decode cX1_init 98 = .ok (.aload_n 0, 1) := by decide +kernel
theorem dX1_init_99 : decode cX1_init 99 = .ok (.getfield 31, 3) := by decide +kernel
theorem dX1_init_102 : decode cX1_init 102 = .ok (.iload_n 1, 1) := by decide +kernel
theorem dX1_init_103 : decode cX1_init 103 = .ok (.new 29, 3) := by decide +kernel
theorem dX1_init_106 : decode cX1_init 106 = .ok (.dup, 1) := by decide +kernel
theorem dX1_init_107 : decode cX1_init 107 = .ok (.invokespecial 35, 3) := by decide +kernel
theorem dX1_init_110 : decode cX1_init 110 = .ok (.aastore, 1) := by decide +kernel
theorem dX1_init_111 : decode cX1_init 111 = .ok (.iinc 1 1, 3) := by decide +kernel
theorem dX1_init_114 : decode cX1_init 114 = .ok (.goto (-21), 3) := by decide +kernel
theorem dX1_init_117 : decode cX1_init 117 = .ok (.aload_n 0, 1) := by decide +kernel
theorem dX1_init_118 : decode cX1_init 118 = .ok (.sipush 200, 3) := by decide +kernel
theorem dX1_init_121 : decode cX1_init 121 = .ok (.putfield 36, 3) := by decide +kernel
theorem dX1_init_124 : decode cX1_init 124 = .ok (.aload_n 0, 1) := by decide +kernel
theorem dX1_init_125 : decode cX1_init 125 = .ok (.bipush 30, 2) := by decide +kernel
theorem dX1_init_127 : decode cX1_init 127 = .ok (.putfield 40, 3) := by decide +kernel
theorem dX1_init_130 : decode cX1_init 130 = .ok (.aload_n 0, 1) := by decide +kernel
theorem dX1_init_131 : decode cX1_init 131 = .ok (.iconst 5, 1) := by decide +kernel
theorem dX1_init_132 : decode cX1_init 132 = .ok (.putfield 43, 3) := by decide +kernel
theorem dX1_init_135 : decode cX1_init 135 = .ok (.return_, 1) := by decide +kernel
set_option maxRecDepth 20000 in
theorem ggX1_copyFrom_X2_copyFrom : GoodIn wsX1_copyFrom wsX2_copyFrom := goodIn_r _ [21, 22, 23, 24, 25, 26, 27, 28, 77, 78, 79, 80, 81, 82, 83, 84] (by decide +kernel) (by decide +kernel)
set_option maxRecDepth 20000 in
theorem gX1_copyFrom_X2_copyFrom : GoodIn wsX1_copyFrom (wsV RX1 61 RX2 yX2_copyFrom wsX2_copyFrom) := goodIn_app (goodIn_of _ (by decide +kernel)) ggX1_copyFrom_X2_copyFrom
set_option maxRecDepth 20000 in
theorem ggX1_copyFrom_X1_personAt : GoodIn wsX1_copyFrom wsX1_personAt := goodIn_ca (goodIn_r _ [33, 1, 9, 34, 35, 36, 37, 38, 55, 56, 57, 58, 59, 60, 61, 62, 63, 64, 65] (by decide +kernel) (by decide +kernel)) (goodIn_sub (fun _ h => List.mem_cons_of_mem _ (List.mem_append_right _ h)) (by decide +kernel))
set_option maxRecDepth 20000 in
theorem gX1_copyFrom_X1_personAt : GoodIn wsX1_copyFrom (wsV RX1 71 RX1 yX1_personAt wsX1_personAt) := goodIn_app (goodIn_of _ (by decide +kernel)) ggX1_copyFrom_X1_personAt
set_option maxRecDepth 20000 in
theorem ggX1_copyFrom_X0_copyFrom : GoodIn wsX1_copyFrom wsX0_copyFrom := goodIn_r _ [43, 44, 45, 46, 47, 48, 49, 50, 51, 52, 53, 54, 66, 67, 68, 69, 70, 71, 72, 73, 74, 75, 76] (by decide +kernel) (by decide +kernel)
set_option maxRecDepth 20000 in
theorem gX1_copyFrom_X0_copyFrom : GoodIn wsX1_copyFrom (wsV RX1 78 RX0 yX0_copyFrom wsX0_copyFrom) := goodIn_app (goodIn_of _ (by decide +kernel)) ggX1_copyFrom_X0_copyFrom
theorem dX1_copyFrom_0 : decode cX1_copyFrom 0 = .ok (.aload_n 0, 1) := by decide +kernel
theorem dX1_copyFrom_1 : decode cX1_copyFrom 1 = .ok (.aload_n 1, 1) := by decide +kernel
theorem dX1_copyFrom_2 : decode cX1_copyFrom 2 = .ok (.getfield 46, 3) := by decide +kernel
theorem dX1_copyFrom_5 : decode cX1_copyFrom 5 = .ok (.putfield 46, 3) := by decide +kernel
theorem dX1_copyFrom_8 : decode cX1_copyFrom 8 = .ok (.aload_n 0, 1) := by decide +kernel
theorem dX1_copyFrom_9 : decode cX1_copyFrom 9 = .ok (.aload_n 1, 1) := by decide +kernel
theorem dX1_copyFrom_10 : decode cX1_copyFrom 10 = .ok (.getfield 49, 3) := by decide +kernel
theorem dX1_copyFrom_13 : decode cX1_copyFrom 13 = .ok (.putfield 49, 3) := by decide +kernel
theorem dX1_copyFrom_16 : decode cX1_copyFrom 16 = .ok (.aload_n 0, 1) := by decide +kernel
theorem dX1_copyFrom_17 : decode cX1_copyFrom 17 = .ok (.aload_n 1, 1) := by decide +kernel
theorem dX1_copyFrom_18 : decode cX1_copyFrom 18 = .ok (.getfield 52, 3) := by decide +kernel
theorem dX1_copyFrom_21 : decode cX1_copyFrom 21 = .ok (.putfield 52, 3) := by decide +kernel
theorem dX1_copyFrom_24 : decode cX1_copyFrom 24 = .ok (.aload_n 0, 1) := by decide +kernel
theorem dX1_copyFrom_25 : decode cX1_copyFrom 25 = .ok (.aload_n 1, 1) := by decide +kernel
theorem dX1_copyFrom_26 : decode cX1_copyFrom 26 = .ok (.getfield 55, 3) := by decide +kernel
theorem dX1_copyFrom_29 : decode cX1_copyFrom 29 = .ok (.putfield 55, 3) := by decide +kernel
theorem dX1_copyFrom_32 : decode cX1_copyFrom 32 = .ok (.aload_n 0, 1) := by decide +kernel
theorem dX1_copyFrom_33 : decode cX1_copyFrom 33 = .ok (.aload_n 1, 1) := by decide +kernel
theorem dX1_copyFrom_34 : decode cX1_copyFrom 34 = .ok (.getfield 36, 3) := by decide +kernel
theorem dX1_copyFrom_37 : decode cX1_copyFrom 37 = .ok (.putfield 36, 3) := by decide +kernel
theorem dX1_copyFrom_40 : decode cX1_copyFrom 40 = .ok (.aload_n 0, 1) := by decide +kernel
theorem dX1_copyFrom_41 : decode cX1_copyFrom 41 = .ok (.aload_n 1, 1) := by decide +kernel
theorem dX1_copyFrom_42 : decode cX1_copyFrom 42 = .ok (.getfield 40, 3) := by decide +kernel
theorem dX1_copyFrom_45 : decode cX1_copyFrom 45 = .ok (.putfield 40, 3) := by decide +kernel
theorem dX1_copyFrom_48 : decode cX1_copyFrom 48 = .ok (.aload_n 0, 1) := by decide +kernel
theorem dX1_copyFrom_49 : decode cX1_copyFrom 49 = .ok (.aload_n 1, 1) := by decide +kernel
theorem dX1_copyFrom_50 : decode cX1_copyFrom 50 = .ok (.getfield 43, 3) := by decide +kernel
theorem dX1_copyFrom_53 : decode cX1_copyFrom 53 = .ok (.putfield 43, 3) := by decide +kernel
theorem dX1_copyFrom_56 : decode cX1_copyFrom 56 = .ok (.aload_n 0, 1) := by decide +kernel
theorem dX1_copyFrom_57 : decode cX1_copyFrom 57 = .ok (.aload_n 1, 1) := by decide +kernel
theorem dX1_copyFrom_58 : decode cX1_copyFrom 58 = .ok (.getfield 58, 3) := by decide +kernel
theorem dX1_copyFrom_61 : decode cX1_copyFrom 61 = .ok (.putfield 58, 3) := by decide +kernel
theorem dX1_copyFrom_64 : decode cX1_copyFrom 64 = .ok (.iconst 0, 1) := by decide +kernel
theorem dX1_copyFrom_65 : decode cX1_copyFrom 65 = .ok (.istore_n 2, 1) := by decide +kernel
theorem dX1_copyFrom_66 : decode cX1_copyFrom 66 = .ok (.iload_n 2, 1) := by decide +kernel
theorem dX1_copyFrom_67 : decode cX1_copyFrom 67 = .ok (.aload_n 0, 1) := by decide +kernel
theorem dX1_copyFrom_68 : decode cX1_copyFrom 68 = .ok (.getfield 46, 3) := by decide +kernel
theorem dX1_copyFrom_71 : decode cX1_copyFrom 71 = .ok (.if_icmp .ge 24, 3) := by decide +kernel
theorem dX1_copyFrom_74 : decode cX1_copyFrom 74 = .ok (.aload_n 0, 1) := by decide +kernel
theorem dX1_copyFrom_75 : decode cX1_copyFrom 75 = .ok (.getfield 11, 3) := by decide +kernel
theorem dX1_copyFrom_78 : decode cX1_copyFrom 78 = .ok (.iload_n 2, 1) := by decide +kernel
theorem dX1_copyFrom_79 : decode cX1_copyFrom 79 = .ok (.aaload, 1) := by decide +kernel
theorem dX1_copyFrom_80 : decode cX1_copyFrom 80 = .ok (.aload_n 1, 1) := by decide +kernel
theorem dX1_copyFrom_81 : decode cX1_copyFrom 81 = .ok (.getfield 11, 3) := by decide +kernel
theorem dX1_copyFrom_84 : decode cX1_copyFrom 84 = .ok (.iload_n 2, 1) := by decide +kernel
theorem dX1_copyFrom_85 : decode cX1_copyFrom 85 = .ok (.aaload, 1) := by decide +kernel
theorem dX1_copyFrom_86 : decode cX1_copyFrom 86 = .ok (.invokevirtual 61, 3) := by decide +kernel
theorem dX1_copyFrom_89 : decode cX1_copyFrom 89 = .ok (.iinc 2 1, 3) := by decide +kernel
theorem dX1_copyFrom_92 : decode cX1_copyFrom 92 = .ok (.goto (-26), 3) := by decide +kernel
theorem dX1_copyFrom_95 : decode cX1_copyFrom 95 = .ok (.iconst 0, 1) := by decide +kernel
theorem dX1_copyFrom_96 : decode cX1_copyFrom 96 = .ok (.istore_n 2, 1) := by decide +kernel
theorem dX1_copyFrom_97 : decode cX1_copyFrom 97 = .ok (.iload_n 2, 1) := by decide +kernel
theorem dX1_copyFrom_98 : decode cX1_copyFrom 98 = .ok (.aload_n 0, 1) := by decide +kernel
theorem dX1_copyFrom_99 : decode cX1_copyFrom 99 = .ok (.getfield 49, 3) := by decide +kernel
theorem dX1_copyFrom_102 : decode cX1_copyFrom 102 = .ok (.if_icmp .ge 48, 3) := by decide +kernel
theorem dX1_copyFrom_105 : decode cX1_copyFrom 105 = .ok (.aload_n 1, 1) := by decide +kernel
theorem dX1_copyFrom_106 : decode cX1_copyFrom 106 = .ok (.getfield 22, 3) := by decide +kernel
theorem dX1_copyFrom_109 : decode cX1_copyFrom 109 = .ok (.iload_n 2, 1) := by decide +kernel
theorem dX1_copyFrom_110 : decode cX1_copyFrom 110 = .ok (.aaload, 1) := by decide +kernel
theorem dX1_copyFrom_111 : decode cX1_copyFrom 111 = .ok (.astore_n 3, 1) := by decide +kernel
theorem dX1_copyFrom_112 : decode cX1_copyFrom 112 = .ok (.aload_n 0, 1) := by decide +kernel
theorem dX1_copyFrom_113 : decode cX1_copyFrom 113 = .ok (.getfield 22, 3) := by decide +kernel
theorem dX1_copyFrom_116 : decode cX1_copyFrom 116 = .ok (.iload_n 2, 1) := by decide +kernel
theorem dX1_copyFrom_117 : decode cX1_copyFrom 117 = .ok (.aaload, 1) := by decide +kernel
theorem dX1_copyFrom_118 : decode cX1_copyFrom 118 = .ok (.aload_n 3, 1) := by decide +kernel
theorem dX1_copyFrom_119 : decode cX1_copyFrom 119 = .ok (.aload_n 0, 1) := by decide +kernel
theorem dX1_copyFrom_120 : decode cX1_copyFrom 120 = .ok (.aload_n 3, 1) := by decide +kernel
theorem dX1_copyFrom_121 : decode cX1_copyFrom 121 = .ok (.getfield 64, 3) := by decide +kernel
theorem dX1_copyFrom_124 : decode cX1_copyFrom 124 = .ok (.getfield 68, 3) := by decide +kernel
theorem dX1_copyFrom_127 : decode cX1_copyFrom 127 = .ok (.invokevirtual 71, 3) := by decide +kernel
theorem dX1_copyFrom_130 : decode cX1_copyFrom 130 = .ok (.aload_n 0, 1) := by decide +kernel
theorem dX1_copyFrom_131 : decode cX1_copyFrom 131 = .ok (.aload_n 3, 1) := by decide +kernel
theorem dX1_copyFrom_132 : decode cX1_copyFrom 132 = .ok (.getfield 75, 3) := by decide +kernel
theorem dX1_copyFrom_135 : decode cX1_copyFrom 135 = .ok (.getfield 68, 3) := by decide +kernel
theorem dX1_copyFrom_138 : decode cX1_copyFrom 138 = .ok (.invokevirtual 71, 3) := by decide +kernel
theorem dX1_copyFrom_141 : decode cX1_copyFrom 141 = .ok (.invokevirtual 78, 3) := by decide +kernel
theorem dX1_copyFrom_144 : decode cX1_copyFrom 144 = .ok (.iinc 2 1, 3) := by decide +kernel
theorem dX1_copyFrom_147 : decode cX1_copyFrom 147 = .ok (.goto (-50), 3) := by decide +kernel
theorem dX1_copyFrom_150 : decode cX1_copyFrom 150 = .ok (.iconst 0, 1) := by decide +kernel
theorem dX1_copyFrom_151 : decode cX1_copyFrom 151 = .ok (.istore_n 2, 1) := by decide +kernel
theorem dX1_copyFrom_152 : decode cX1_copyFrom 152 = .ok (.iload_n 2, 1) := by decide +kernel
theorem dX1_copyFrom_153 : decode cX1_copyFrom 153 = .ok (.aload_n 0, 1) := by decide +kernel
theorem dX1_copyFrom_154 : decode cX1_copyFrom 154 = .ok (.getfield 52, 3) := by decide +kernel
theorem dX1_copyFrom_157 : decode cX1_copyFrom 157 = .ok (.if_icmp .ge 45, 3) := by decide +kernel
theorem dX1_copyFrom_160 : decode cX1_copyFrom 160 = .ok (.aload_n 0, 1) := by decide +kernel
theorem dX1_copyFrom_161 : decode cX1_copyFrom 161 = .ok (.getfield 31, 3) := by decide +kernel
theorem dX1_copyFrom_164 : decode cX1_copyFrom 164 = .ok (.iload_n 2, 1) := by decide +kernel
theorem dX1_copyFrom_165 : decode cX1_copyFrom 165 = .ok (.aaload, 1) := by decide +kernel
theorem dX1_copyFrom_166 : decode cX1_copyFrom 166 = .ok (.aload_n 1, 1) := by decide +kernel
theorem dX1_copyFrom_167 : decode cX1_copyFrom 167 = .ok (.getfield 31, 3) := by decide +kernel
theorem dX1_copyFrom_170 : decode cX1_copyFrom 170 = .ok (.iload_n 2, 1) := by decide +kernel
theorem dX1_copyFrom_171 : decode cX1_copyFrom 171 = .ok (.aaload, 1) := by decide +kernel
theorem dX1_copyFrom_172 : decode cX1_copyFrom 172 = .ok (.getfield 81, 3) := by decide +kernel
theorem dX1_copyFrom_175 : decode cX1_copyFrom 175 = .ok (.putfield 81, 3) := by decide +kernel
theorem dX1_copyFrom_178 : decode cX1_copyFrom 178 = .ok (.aload_n 0, 1) := by decide +kernel
theorem dX1_copyFrom_179 : decode cX1_copyFrom 179 = .ok (.getfield 31, 3) := by decide +kernel
theorem dX1_copyFrom_182 : decode cX1_copyFrom 182 = .ok (.iload_n 2, 1) := by decide +kernel
theorem dX1_copyFrom_183 : decode cX1_copyFrom 183 = .ok (.aaload, 1) := by decide +kernel
theorem dX1_copyFrom_184 : decode cX1_copyFrom 184 = .ok (.aload_n 1, 1) := by decide +kernel
theorem dX1_copyFrom_185 : decode cX1_copyFrom 185 = .ok (.getfield 31, 3) := by decide +kernel
theorem dX1_copyFrom_188 : decode cX1_copyFrom 188 = .ok (.iload_n 2, 1) := by decide +kernel
theorem dX1_copyFrom_189 : decode cX1_copyFrom 189 = .ok (.aaload, 1) := by decide +kernel
theorem dX1_copyFrom_190 : decode cX1_copyFrom 190 = .ok (.getfield 84, 3) := by decide +kernel
theorem dX1_copyFrom_193 : decode cX1_copyFrom 193 = .ok (.putfield 84, 3) := by decide +kernel
theorem dX1_copyFrom_196 : decode cX1_copyFrom 196 = .ok (.iinc 2 1, 3) := by decide +kernel
theorem dX1_copyFrom_199 : decode cX1_copyFrom 199 = .ok (.goto (-47), 3) := by decide +kernel
theorem dX1_copyFrom_202 : decode cX1_copyFrom 202 = .ok (.return_, 1) := by decide +kernel
set_option maxRecDepth 20000 in
theorem ggX1_personAt_X4_checkIndex : GoodIn wsX1_personAt wsX4_checkIndex := goodIn_ca (goodIn_r _ [5, 6, 7] (by decide +kernel) (by decide +kernel)) (goodIn_sub (fun _ h => List.mem_cons_of_mem _ (List.mem_append_right _ h)) (by decide +kernel))
set_option maxRecDepth 20000 in
theorem gX1_personAt_X4_checkIndex_n87 : GoodIn wsX1_personAt (wsX4_checkIndex) := ggX1_personAt_X4_checkIndex
theorem dX1_personAt_0 : decode cX1_personAt 0 = .ok (.iload_n 1, 1) := by decide +kernel
theorem dX1_personAt_1 : decode cX1_personAt 1 = .ok (.aload_n 0, 1) := by decide +kernel
theorem dX1_personAt_2 : decode cX1_personAt 2 = .ok (.getfield 46, 3) := by decide +kernel
theorem dX1_personAt_5 : decode cX1_personAt 5 = .ok (.invokestatic 87, 3) := by decide +kernel
theorem dX1_personAt_8 : decode cX1_personAt 8 = .ok (.aload_n 0, 1) := by decide +kernel
theorem dX1_personAt_9 : decode cX1_personAt 9 = .ok (.getfield 11, 3) := by decide +kernel
theorem dX1_personAt_12 : decode cX1_personAt 12 = .ok (.iload_n 1, 1) := by decide +kernel
theorem dX1_personAt_13 : decode cX1_personAt 13 = .ok (.aaload, 1) := by decide +kernel
theorem dX1_personAt_14 : decode cX1_personAt 14 = .ok (.areturn, 1) := by decide +kernel
set_option maxRecDepth 20000 in
theorem ggX1_figureAt_X4_checkIndex : GoodIn wsX1_figureAt wsX4_checkIndex := goodIn_ca (goodIn_r _ [5, 6, 7] (by decide +kernel) (by decide +kernel)) (goodIn_sub (fun _ h => List.mem_cons_of_mem _ (List.mem_append_right _ h)) (by decide +kernel))
set_option maxRecDepth 20000 in
theorem gX1_figureAt_X4_checkIndex_n87 : GoodIn wsX1_figureAt (wsX4_checkIndex) := ggX1_figureAt_X4_checkIndex
theorem dX1_figureAt_0 : decode cX1_figureAt 0 = .ok (.iload_n 1, 1) := by decide +kernel
theorem dX1_figureAt_1 : decode cX1_figureAt 1 = .ok (.aload_n 0, 1) := by decide +kernel
theorem dX1_figureAt_2 : decode cX1_figureAt 2 = .ok (.getfield 49, 3) := by decide +kernel
theorem dX1_figureAt_5 : decode cX1_figureAt 5 = .ok (.invokestatic 87, 3) := by decide +kernel
theorem dX1_figureAt_8 : decode cX1_figureAt 8 = .ok (.aload_n 0, 1) := by decide +kernel
theorem dX1_figureAt_9 : decode cX1_figureAt 9 = .ok (.getfield 22, 3) := by decide +kernel
theorem dX1_figureAt_12 : decode cX1_figureAt 12 = .ok (.iload_n 1, 1) := by decide +kernel
theorem dX1_figureAt_13 : decode cX1_figureAt 13 = .ok (.aaload, 1) := by decide +kernel
theorem dX1_figureAt_14 : decode cX1_figureAt 14 = .ok (.areturn, 1) := by decide +kernel
set_option maxRecDepth 20000 in
theorem ggX1_roomAt_X4_checkIndex : GoodIn wsX1_roomAt wsX4_checkIndex := goodIn_ca (goodIn_r _ [5, 6, 7] (by decide +kernel) (by decide +kernel)) (goodIn_sub (fun _ h => List.mem_cons_of_mem _ (List.mem_append_right _ h)) (by decide +kernel))
set_option maxRecDepth 20000 in
theorem gX1_roomAt_X4_checkIndex_n87 : GoodIn wsX1_roomAt (wsX4_checkIndex) := ggX1_roomAt_X4_checkIndex
theorem dX1_roomAt_0 : decode cX1_roomAt 0 = .ok (.iload_n 1, 1) := by decide +kernel
theorem dX1_roomAt_1 : decode cX1_roomAt 1 = .ok (.aload_n 0, 1) := by decide +kernel
theorem dX1_roomAt_2 : decode cX1_roomAt 2 = .ok (.getfield 52, 3) := by decide +kernel
theorem dX1_roomAt_5 : decode cX1_roomAt 5 = .ok (.invokestatic 87, 3) := by decide +kernel
theorem dX1_roomAt_8 : decode cX1_roomAt 8 = .ok (.aload_n 0, 1) := by decide +kernel
theorem dX1_roomAt_9 : decode cX1_roomAt 9 = .ok (.getfield 31, 3) := by decide +kernel
theorem dX1_roomAt_12 : decode cX1_roomAt 12 = .ok (.iload_n 1, 1) := by decide +kernel
theorem dX1_roomAt_13 : decode cX1_roomAt 13 = .ok (.aaload, 1) := by decide +kernel
theorem dX1_roomAt_14 : decode cX1_roomAt 14 = .ok (.areturn, 1) := by decide +kernel
set_option maxRecDepth 20000 in
theorem ggX1_addPerson_X1_personAt : GoodIn wsX1_addPerson wsX1_personAt := goodIn_ca (goodIn_r _ [7, 1, 8, 9, 10, 11, 12, 13, 14, 15, 16, 17, 18, 19, 20, 21, 22, 23, 24] (by decide +kernel) (by decide +kernel)) (goodIn_sub (fun _ h => List.mem_cons_of_mem _ (List.mem_append_right _ h)) (by decide +kernel))
set_option maxRecDepth 20000 in
theorem gX1_addPerson_X1_personAt : GoodIn wsX1_addPerson (wsV RX1 71 RX1 yX1_personAt wsX1_personAt) := goodIn_app (goodIn_of _ (by decide +kernel)) ggX1_addPerson_X1_personAt
theorem dX1_addPerson_0 : decode cX1_addPerson 0 = .ok (.aload_n 0, 1) := by decide +kernel
theorem dX1_addPerson_1 : decode cX1_addPerson 1 = .ok (.getfield 46, 3) := by decide +kernel
theorem dX1_addPerson_4 : decode cX1_addPerson 4 = .ok (.istore 4, 2) := by decide +kernel
theorem dX1_addPerson_6 : decode cX1_addPerson 6 = .ok (.aload_n 0, 1) := by decide +kernel
theorem dX1_addPerson_7 : decode cX1_addPerson 7 = .ok (.dup, 1) := by decide +kernel
theorem dX1_addPerson_8 : decode cX1_addPerson 8 = .ok (.getfield 46, 3) := by decide +kernel
theorem dX1_addPerson_11 : decode cX1_addPerson 11 = .ok (.iconst 1, 1) := by decide +kernel
theorem dX1_addPerson_12 : decode cX1_addPerson 12 = .ok (.iadd, 1) := by decide +kernel
theorem dX1_addPerson_13 : decode cX1_addPerson 13 = .ok (.putfield 46, 3) := by decide +kernel
theorem dX1_addPerson_16 : decode cX1_addPerson 16 = .ok (.aload_n 0, 1) := by decide +kernel
theorem dX1_addPerson_17 : decode cX1_addPerson 17 = .ok (.iload 4, 2) := by decide +kernel
theorem dX1_addPerson_19 : decode cX1_addPerson 19 = .ok (.invokevirtual 71, 3) := by decide +kernel
theorem dX1_addPerson_22 : decode cX1_addPerson 22 = .ok (.astore 5, 2) := by decide +kernel
theorem dX1_addPerson_24 : decode cX1_addPerson 24 = .ok (.aload 5, 2) := by decide +kernel
theorem dX1_addPerson_26 : decode cX1_addPerson 26 = .ok (.getfield 91, 3) := by decide +kernel
theorem dX1_addPerson_29 : decode cX1_addPerson 29 = .ok (.iconst 0, 1) := by decide +kernel
theorem dX1_addPerson_30 : decode cX1_addPerson 30 = .ok (.iload_n 1, 1) := by decide +kernel
theorem dX1_addPerson_31 : decode cX1_addPerson 31 = .ok (.iastore, 1) := by decide +kernel
theorem dX1_addPerson_32 : decode cX1_addPerson 32 = .ok (.aload 5, 2) := by decide +kernel
theorem dX1_addPerson_34 : decode cX1_addPerson 34 = .ok (.getfield 91, 3) := by decide +kernel
theorem dX1_addPerson_37 : decode cX1_addPerson 37 = .ok (.iconst 1, 1) := by decide +kernel
theorem dX1_addPerson_38 : decode cX1_addPerson 38 = .ok (.iload_n 2, 1) := by decide +kernel
theorem dX1_addPerson_39 : decode cX1_addPerson 39 = .ok (.iastore, 1) := by decide +kernel
theorem dX1_addPerson_40 : decode cX1_addPerson 40 = .ok (.aload 5, 2) := by decide +kernel
theorem dX1_addPerson_42 : decode cX1_addPerson 42 = .ok (.getfield 91, 3) := by decide +kernel
theorem dX1_addPerson_45 : decode cX1_addPerson 45 = .ok (.iconst 2, 1) := by decide +kernel
theorem dX1_addPerson_46 : decode cX1_addPerson 46 = .ok (.iload_n 3, 1) := by decide +kernel
theorem dX1_addPerson_47 : decode cX1_addPerson 47 = .ok (.iastore, 1) := by decide +kernel
theorem dX1_addPerson_48 : decode cX1_addPerson 48 = .ok (.iload 4, 2) := by decide +kernel
theorem dX1_addPerson_50 : decode cX1_addPerson 50 = .ok (.ireturn, 1) := by decide +kernel
set_option maxRecDepth 20000 in
theorem ggX1_addFigure_X1_figureAt : GoodIn wsX1_addFigure wsX1_figureAt := goodIn_ca (goodIn_r _ [8, 1, 9, 10, 11, 12, 13, 14, 15, 16, 17, 18, 19, 20, 21, 22, 23, 24, 25] (by decide +kernel) (by decide +kernel)) (goodIn_sub (fun _ h => List.mem_cons_of_mem _ (List.mem_append_right _ h)) (by decide +kernel))
set_option maxRecDepth 20000 in
theorem gX1_addFigure_X1_figureAt : GoodIn wsX1_addFigure (wsV RX1 95 RX1 yX1_figureAt wsX1_figureAt) := goodIn_app (goodIn_of _ (by decide +kernel)) ggX1_addFigure_X1_figureAt
theorem dX1_addFigure_0 : decode cX1_addFigure 0 = .ok (.aload_n 0, 1) := by decide +kernel
theorem dX1_addFigure_1 : decode cX1_addFigure 1 = .ok (.getfield 49, 3) := by decide +kernel
theorem dX1_addFigure_4 : decode cX1_addFigure 4 = .ok (.istore_n 2, 1) := by decide +kernel
theorem dX1_addFigure_5 : decode cX1_addFigure 5 = .ok (.aload_n 0, 1) := by decide +kernel
theorem dX1_addFigure_6 : decode cX1_addFigure 6 = .ok (.dup, 1) := by decide +kernel
theorem dX1_addFigure_7 : decode cX1_addFigure 7 = .ok (.getfield 49, 3) := by decide +kernel
theorem dX1_addFigure_10 : decode cX1_addFigure 10 = .ok (.iconst 1, 1) := by decide +kernel
theorem dX1_addFigure_11 : decode cX1_addFigure 11 = .ok (.iadd, 1) := by decide +kernel
theorem dX1_addFigure_12 : decode cX1_addFigure 12 = .ok (.putfield 49, 3) := by decide +kernel
theorem dX1_addFigure_15 : decode cX1_addFigure 15 = .ok (.aload_n 0, 1) := by decide +kernel
theorem dX1_addFigure_16 : decode cX1_addFigure 16 = .ok (.iload_n 2, 1) := by decide +kernel
theorem dX1_addFigure_17 : decode cX1_addFigure 17 = .ok (.invokevirtual 95, 3) := by decide +kernel
theorem dX1_addFigure_20 : decode cX1_addFigure 20 = .ok (.astore_n 3, 1) := by decide +kernel
theorem dX1_addFigure_21 : decode cX1_addFigure 21 = .ok (.aload_n 3, 1) := by decide +kernel
theorem dX1_addFigure_22 : decode cX1_addFigure 22 = .ok (.aload_n 1, 1) := by decide +kernel
theorem dX1_addFigure_23 : decode cX1_addFigure 23 = .ok (.putfield 64, 3) := by decide +kernel
theorem dX1_addFigure_26 : decode cX1_addFigure 26 = .ok (.aload_n 3, 1) := by decide +kernel
theorem dX1_addFigure_27 : decode cX1_addFigure 27 = .ok (.aload_n 1, 1) := by decide +kernel
theorem dX1_addFigure_28 : decode cX1_addFigure 28 = .ok (.putfield 75, 3) := by decide +kernel
theorem dX1_addFigure_31 : decode cX1_addFigure 31 = .ok (.iload_n 2, 1) := by decide +kernel
theorem dX1_addFigure_32 : decode cX1_addFigure 32 = .ok (.ireturn, 1) := by decide +kernel
set_option maxRecDepth 20000 in
theorem ggX1_addRoom_X1_roomAt : GoodIn wsX1_addRoom wsX1_roomAt := goodIn_ca (goodIn_r _ [8, 1, 9, 10, 11, 12, 13, 14, 15, 16, 17, 18, 19, 20, 21, 22, 23, 24, 25] (by decide +kernel) (by decide +kernel)) (goodIn_sub (fun _ h => List.mem_cons_of_mem _ (List.mem_append_right _ h)) (by decide +kernel))
set_option maxRecDepth 20000 in
theorem gX1_addRoom_X1_roomAt : GoodIn wsX1_addRoom (wsV RX1 99 RX1 yX1_roomAt wsX1_roomAt) := goodIn_app (goodIn_of _ (by decide +kernel)) ggX1_addRoom_X1_roomAt
theorem dX1_addRoom_0 : decode cX1_addRoom 0 = .ok (.aload_n 0, 1) := by decide +kernel
theorem dX1_addRoom_1 : decode cX1_addRoom 1 = .ok (.getfield 52, 3) := by decide +kernel
theorem dX1_addRoom_4 : decode cX1_addRoom 4 = .ok (.istore_n 3, 1) := by decide +kernel
theorem dX1_addRoom_5 : decode cX1_addRoom 5 = .ok (.aload_n 0, 1) := by decide +kernel
theorem dX1_addRoom_6 : decode cX1_addRoom 6 = .ok (.dup, 1) := by decide +kernel
theorem dX1_addRoom_7 : decode cX1_addRoom 7 = .ok (.getfield 52, 3) := by decide +kernel
theorem dX1_addRoom_10 : decode cX1_addRoom 10 = .ok (.iconst 1, 1) := by decide +kernel
theorem dX1_addRoom_11 : decode cX1_addRoom 11 = .ok (.iadd, 1) := by decide +kernel
theorem dX1_addRoom_12 : decode cX1_addRoom 12 = .ok (.putfield 52, 3) := by decide +kernel
theorem dX1_addRoom_15 : decode cX1_addRoom 15 = .ok (.aload_n 0, 1) := by decide +kernel
theorem dX1_addRoom_16 : decode cX1_addRoom 16 = .ok (.iload_n 3, 1) := by decide +kernel
theorem dX1_addRoom_17 : decode cX1_addRoom 17 = .ok (.invokevirtual 99, 3) := by decide +kernel
theorem dX1_addRoom_20 : decode cX1_addRoom 20 = .ok (.astore 4, 2) := by decide +kernel
theorem dX1_addRoom_22 : decode cX1_addRoom 22 = .ok (.aload 4, 2) := by decide +kernel
theorem dX1_addRoom_24 : decode cX1_addRoom 24 = .ok (.iload_n 1, 1) := by decide +kernel
theorem dX1_addRoom_25 : decode cX1_addRoom 25 = .ok (.putfield 81, 3) := by decide +kernel
theorem dX1_addRoom_28 : decode cX1_addRoom 28 = .ok (.aload 4, 2) := by decide +kernel
theorem dX1_addRoom_30 : decode cX1_addRoom 30 = .ok (.iload_n 2, 1) := by decide +kernel
theorem dX1_addRoom_31 : decode cX1_addRoom 31 = .ok (.putfield 84, 3) := by decide +kernel
theorem dX1_addRoom_34 : decode cX1_addRoom 34 = .ok (.iload_n 3, 1) := by decide +kernel
theorem dX1_addRoom_35 : decode cX1_addRoom 35 = .ok (.ireturn, 1) := by decide +kernel
set_option maxRecDepth 20000 in
theorem ggX1_takeAllOf_X0_isShown : GoodIn wsX1_takeAllOf wsX0_isShown := goodIn_r _ [9, 10, 22, 23, 24, 25, 26, 27, 28, 29, 30, 31, 32] (by decide +kernel) (by decide +kernel)
set_option maxRecDepth 20000 in
theorem gX1_takeAllOf_X0_isShown : GoodIn wsX1_takeAllOf (wsV RX1 103 RX0 yX0_isShown wsX0_isShown) := goodIn_app (goodIn_of _ (by decide +kernel)) ggX1_takeAllOf_X0_isShown
theorem dX1_takeAllOf_0 : decode cX1_takeAllOf 0 = .ok (.iconst 0, 1) := by decide +kernel
theorem dX1_takeAllOf_1 : decode cX1_takeAllOf 1 = .ok (.istore_n 2, 1) := by decide +kernel
theorem dX1_takeAllOf_2 : decode cX1_takeAllOf 2 = .ok (.iconst 0, 1) := by decide +kernel
theorem dX1_takeAllOf_3 : decode cX1_takeAllOf 3 = .ok (.istore_n 3, 1) := by decide +kernel
theorem dX1_takeAllOf_4 : decode cX1_takeAllOf 4 = .ok (.iload_n 3, 1) := by decide +kernel
theorem dX1_takeAllOf_5 : decode cX1_takeAllOf 5 = .ok (.aload_n 0, 1) := by decide +kernel
theorem dX1_takeAllOf_6 : decode cX1_takeAllOf 6 = .ok (.getfield 49, 3) := by decide +kernel
theorem dX1_takeAllOf_9 : decode cX1_takeAllOf 9 = .ok (.if_icmp .ge 43, 3) := by decide +kernel
theorem dX1_takeAllOf_12 : decode cX1_takeAllOf 12 = .ok (.aload_n 0, 1) := by decide +kernel
theorem dX1_takeAllOf_13 : decode cX1_takeAllOf 13 = .ok (.getfield 22, 3) := by decide +kernel
theorem dX1_takeAllOf_16 : decode cX1_takeAllOf 16 = .ok (.iload_n 3, 1) := by decide +kernel
theorem dX1_takeAllOf_17 : decode cX1_takeAllOf 17 = .ok (.aaload, 1) := by decide +kernel
theorem dX1_takeAllOf_18 : decode cX1_takeAllOf 18 = .ok (.astore 4, 2) := by decide +kernel
theorem dX1_takeAllOf_20 : decode cX1_takeAllOf 20 = .ok (.aload 4, 2) := by decide +kernel
theorem dX1_takeAllOf_22 : decode cX1_takeAllOf 22 = .ok (.getfield 64, 3) := by decide +kernel
theorem dX1_takeAllOf_25 : decode cX1_takeAllOf 25 = .ok (.aload_n 1, 1) := by decide +kernel
theorem dX1_takeAllOf_26 : decode cX1_takeAllOf 26 = .ok (.if_acmp .ne 20, 3) := by decide +kernel
theorem dX1_takeAllOf_29 : decode cX1_takeAllOf 29 = .ok (.aload 4, 2) := by decide +kernel
theorem dX1_takeAllOf_31 : decode cX1_takeAllOf 31 = .ok (.invokevirtual 103, 3) := by decide +kernel
theorem dX1_takeAllOf_34 : decode cX1_takeAllOf 34 = .ok (.ifCond .eq 12, 3) := by decide +kernel
theorem dX1_takeAllOf_37 : decode cX1_takeAllOf 37 = .ok (.aload 4, 2) := by decide +kernel
theorem dX1_takeAllOf_39 : decode cX1_takeAllOf 39 = .ok (.iconst 5, 1) := by decide +kernel
theorem dX1_takeAllOf_40 : decode cX1_takeAllOf 40 = .ok (.putfield 107, 3) := by decide +kernel
theorem dX1_takeAllOf_43 : decode cX1_takeAllOf 43 = .ok (.iinc 2 1, 3) := by decide +kernel
theorem dX1_takeAllOf_46 : decode cX1_takeAllOf 46 = .ok (.iinc 3 1, 3) := by decide +kernel
theorem dX1_takeAllOf_49 : decode cX1_takeAllOf 49 = .ok (.goto (-45), 3) := by decide +kernel
theorem dX1_takeAllOf_52 : decode cX1_takeAllOf 52 = .ok (.iload_n 2, 1) := by decide +kernel
theorem dX1_takeAllOf_53 : decode cX1_takeAllOf 53 = .ok (.ireturn, 1) := by decide +kernel
set_option maxRecDepth 20000 in
theorem ggX1_shownOf_X0_isShown : GoodIn wsX1_shownOf wsX0_isShown := goodIn_r _ [8, 9, 21, 22, 23, 24, 25, 26, 27, 28, 29, 30, 31] (by decide +kernel) (by decide +kernel)
set_option maxRecDepth 20000 in
theorem gX1_shownOf_X0_isShown : GoodIn wsX1_shownOf (wsV RX1 103 RX0 yX0_isShown wsX0_isShown) := goodIn_app (goodIn_of _ (by decide +kernel)) ggX1_shownOf_X0_isShown
theorem dX1_shownOf_0 : decode cX1_shownOf 0 = .ok (.iconst 0, 1) := by decide +kernel
theorem dX1_shownOf_1 : decode cX1_shownOf 1 = .ok (.istore_n 2, 1) := by decide +kernel
theorem dX1_shownOf_2 : decode cX1_shownOf 2 = .ok (.iload_n 2, 1) := by decide +kernel
theorem dX1_shownOf_3 : decode cX1_shownOf 3 = .ok (.aload_n 0, 1) := by decide +kernel
theorem dX1_shownOf_4 : decode cX1_shownOf 4 = .ok (.getfield 49, 3) := by decide +kernel
theorem dX1_shownOf_7 : decode cX1_shownOf 7 = .ok (.if_icmp .ge 36, 3) := by decide +kernel
theorem dX1_shownOf_10 : decode cX1_shownOf 10 = .ok (.aload_n 0, 1) := by decide +kernel
theorem dX1_shownOf_11 : decode cX1_shownOf 11 = .ok (.getfield 22, 3) := by decide +kernel
theorem dX1_shownOf_14 : decode cX1_shownOf 14 = .ok (.iload_n 2, 1) := by decide +kernel
theorem dX1_shownOf_15 : decode cX1_shownOf 15 = .ok (.aaload, 1) := by decide +kernel
theorem dX1_shownOf_16 : decode cX1_shownOf 16 = .ok (.getfield 64, 3) := by decide +kernel
theorem dX1_shownOf_19 : decode cX1_shownOf 19 = .ok (.aload_n 1, 1) := by decide +kernel
theorem dX1_shownOf_20 : decode cX1_shownOf 20 = .ok (.if_acmp .ne 17, 3) := by decide +kernel
theorem dX1_shownOf_23 : decode cX1_shownOf 23 = .ok (.aload_n 0, 1) := by decide +kernel
theorem dX1_shownOf_24 : decode cX1_shownOf 24 = .ok (.getfield 22, 3) := by decide +kernel
theorem dX1_shownOf_27 : decode cX1_shownOf 27 = .ok (.iload_n 2, 1) := by decide +kernel
theorem dX1_shownOf_28 : decode cX1_shownOf 28 = .ok (.aaload, 1) := by decide +kernel
theorem dX1_shownOf_29 : decode cX1_shownOf 29 = .ok (.invokevirtual 103, 3) := by decide +kernel
theorem dX1_shownOf_32 : decode cX1_shownOf 32 = .ok (.ifCond .eq 5, 3) := by decide +kernel
theorem dX1_shownOf_35 : decode cX1_shownOf 35 = .ok (.iload_n 2, 1) := by decide +kernel
theorem dX1_shownOf_36 : decode cX1_shownOf 36 = .ok (.ireturn, 1) := by decide +kernel
theorem dX1_shownOf_37 : decode cX1_shownOf 37 = .ok (.iinc 2 1, 3) := by decide +kernel
theorem dX1_shownOf_40 : decode cX1_shownOf 40 = .ok (.goto (-38), 3) := by decide +kernel
theorem dX1_shownOf_43 : decode cX1_shownOf 43 = .ok (.iconst (-1), 1) := by decide +kernel
theorem dX1_shownOf_44 : decode cX1_shownOf 44 = .ok (.ireturn, 1) := by decide +kernel
theorem dX1_hasFigureOf_0 : decode cX1_hasFigureOf 0 = .ok (.iconst 0, 1) := by decide +kernel
theorem dX1_hasFigureOf_1 : decode cX1_hasFigureOf 1 = .ok (.istore_n 2, 1) := by decide +kernel
theorem dX1_hasFigureOf_2 : decode cX1_hasFigureOf 2 = .ok (.iload_n 2, 1) := by decide +kernel
theorem dX1_hasFigureOf_3 : decode cX1_hasFigureOf 3 = .ok (.aload_n 0, 1) := by decide +kernel
theorem dX1_hasFigureOf_4 : decode cX1_hasFigureOf 4 = .ok (.getfield 49, 3) := by decide +kernel
theorem dX1_hasFigureOf_7 : decode cX1_hasFigureOf 7 = .ok (.if_icmp .ge 38, 3) := by decide +kernel
theorem dX1_hasFigureOf_10 : decode cX1_hasFigureOf 10 = .ok (.aload_n 0, 1) := by decide +kernel
theorem dX1_hasFigureOf_11 : decode cX1_hasFigureOf 11 = .ok (.getfield 22, 3) := by decide +kernel
theorem dX1_hasFigureOf_14 : decode cX1_hasFigureOf 14 = .ok (.iload_n 2, 1) := by decide +kernel
theorem dX1_hasFigureOf_15 : decode cX1_hasFigureOf 15 = .ok (.aaload, 1) := by decide +kernel
theorem dX1_hasFigureOf_16 : decode cX1_hasFigureOf 16 = .ok (.getfield 64, 3) := by decide +kernel
theorem dX1_hasFigureOf_19 : decode cX1_hasFigureOf 19 = .ok (.aload_n 1, 1) := by decide +kernel
theorem dX1_hasFigureOf_20 : decode cX1_hasFigureOf 20 = .ok (.if_acmp .ne 19, 3) := by decide +kernel
theorem dX1_hasFigureOf_23 : decode cX1_hasFigureOf 23 = .ok (.aload_n 0, 1) := by decide +kernel
theorem dX1_hasFigureOf_24 : decode cX1_hasFigureOf 24 = .ok (.getfield 22, 3) := by decide +kernel
theorem dX1_hasFigureOf_27 : decode cX1_hasFigureOf 27 = .ok (.iload_n 2, 1) := by decide +kernel
theorem dX1_hasFigureOf_28 : decode cX1_hasFigureOf 28 = .ok (.aaload, 1) := by decide +kernel
theorem dX1_hasFigureOf_29 : decode cX1_hasFigureOf 29 = .ok (.getfield 107, 3) := by decide +kernel
theorem dX1_hasFigureOf_32 : decode cX1_hasFigureOf 32 = .ok (.bipush 7, 2) := by decide +kernel
theorem dX1_hasFigureOf_34 : decode cX1_hasFigureOf 34 = .ok (.if_icmp .eq 5, 3) := by decide +kernel
theorem dX1_hasFigureOf_37 : decode cX1_hasFigureOf 37 = .ok (.iconst 1, 1) := by decide +kernel
theorem dX1_hasFigureOf_38 : decode cX1_hasFigureOf 38 = .ok (.ireturn, 1) := by decide +kernel
theorem dX1_hasFigureOf_39 : decode cX1_hasFigureOf 39 = .ok (.iinc 2 1, 3) := by decide +kernel
theorem dX1_hasFigureOf_42 : decode cX1_hasFigureOf 42 = .ok (.goto (-40), 3) := by decide +kernel
theorem dX1_hasFigureOf_45 : decode cX1_hasFigureOf 45 = .ok (.iconst 0, 1) := by decide +kernel
theorem dX1_hasFigureOf_46 : decode cX1_hasFigureOf 46 = .ok (.ireturn, 1) := by decide +kernel
theorem dX1_cleanFiguresIn_0 : decode cX1_cleanFiguresIn 0 = .ok (.iconst 0, 1) := by decide +kernel
theorem dX1_cleanFiguresIn_1 : decode cX1_cleanFiguresIn 1 = .ok (.istore_n 2, 1) := by decide +kernel
theorem dX1_cleanFiguresIn_2 : decode cX1_cleanFiguresIn 2 = .ok (.iload_n 2, 1) := by decide +kernel
theorem dX1_cleanFiguresIn_3 : decode cX1_cleanFiguresIn 3 = .ok (.aload_n 0, 1) := by decide +kernel
theorem dX1_cleanFiguresIn_4 : decode cX1_cleanFiguresIn 4 = .ok (.getfield 49, 3) := by decide +kernel
theorem dX1_cleanFiguresIn_7 : decode cX1_cleanFiguresIn 7 = .ok (.if_icmp .ge 39, 3) := by decide +kernel
theorem dX1_cleanFiguresIn_10 : decode cX1_cleanFiguresIn 10 = .ok (.aload_n 0, 1) := by decide +kernel
theorem dX1_cleanFiguresIn_11 : decode cX1_cleanFiguresIn 11 = .ok (.getfield 22, 3) := by decide +kernel
theorem dX1_cleanFiguresIn_14 : decode cX1_cleanFiguresIn 14 = .ok (.iload_n 2, 1) := by decide +kernel
theorem dX1_cleanFiguresIn_15 : decode cX1_cleanFiguresIn 15 = .ok (.aaload, 1) := by decide +kernel
theorem dX1_cleanFiguresIn_16 : decode cX1_cleanFiguresIn 16 = .ok (.astore_n 3, 1) := by decide +kernel
theorem dX1_cleanFiguresIn_17 : decode cX1_cleanFiguresIn 17 = .ok (.aload_n 3, 1) := by decide +kernel
theorem dX1_cleanFiguresIn_18 : decode cX1_cleanFiguresIn 18 = .ok (.getfield 107, 3) := by decide +kernel
theorem dX1_cleanFiguresIn_21 : decode cX1_cleanFiguresIn 21 = .ok (.iload_n 1, 1) := by decide +kernel
theorem dX1_cleanFiguresIn_22 : decode cX1_cleanFiguresIn 22 = .ok (.if_icmp .ne 18, 3) := by decide +kernel
theorem dX1_cleanFiguresIn_25 : decode cX1_cleanFiguresIn 25 = .ok (.aload_n 3, 1) := by decide +kernel
theorem dX1_cleanFiguresIn_26 : decode cX1_cleanFiguresIn 26 = .ok (.aload_n 3, 1) := by decide +kernel
theorem dX1_cleanFiguresIn_27 : decode cX1_cleanFiguresIn 27 = .ok (.getfield 110, 3) := by decide +kernel
theorem dX1_cleanFiguresIn_30 : decode cX1_cleanFiguresIn 30 = .ok (.bipush 6, 2) := by decide +kernel
theorem dX1_cleanFiguresIn_32 : decode cX1_cleanFiguresIn 32 = .ok (.isub, 1) := by decide +kernel
theorem dX1_cleanFiguresIn_33 : decode cX1_cleanFiguresIn 33 = .ok (.iconst 0, 1) := by decide +kernel
theorem dX1_cleanFiguresIn_34 : decode cX1_cleanFiguresIn 34 = .ok (.invokestatic 113, 3) := by decide +kernel
theorem dX1_cleanFiguresIn_37 : decode cX1_cleanFiguresIn 37 = .ok (.putfield 110, 3) := by decide +kernel
theorem dX1_cleanFiguresIn_40 : decode cX1_cleanFiguresIn 40 = .ok (.iinc 2 1, 3) := by decide +kernel
theorem dX1_cleanFiguresIn_43 : decode cX1_cleanFiguresIn 43 = .ok (.goto (-41), 3) := by decide +kernel
theorem dX1_cleanFiguresIn_46 : decode cX1_cleanFiguresIn 46 = .ok (.return_, 1) := by decide +kernel
theorem dX1_figuresIn_0 : decode cX1_figuresIn 0 = .ok (.iconst 0, 1) := by decide +kernel
theorem dX1_figuresIn_1 : decode cX1_figuresIn 1 = .ok (.istore_n 3, 1) := by decide +kernel
theorem dX1_figuresIn_2 : decode cX1_figuresIn 2 = .ok (.iconst 0, 1) := by decide +kernel
theorem dX1_figuresIn_3 : decode cX1_figuresIn 3 = .ok (.istore 4, 2) := by decide +kernel
theorem dX1_figuresIn_5 : decode cX1_figuresIn 5 = .ok (.iload 4, 2) := by decide +kernel
theorem dX1_figuresIn_7 : decode cX1_figuresIn 7 = .ok (.aload_n 0, 1) := by decide +kernel
theorem dX1_figuresIn_8 : decode cX1_figuresIn 8 = .ok (.getfield 49, 3) := by decide +kernel
theorem dX1_figuresIn_11 : decode cX1_figuresIn 11 = .ok (.if_icmp .ge 40, 3) := by decide +kernel
theorem dX1_figuresIn_14 : decode cX1_figuresIn 14 = .ok (.aload_n 0, 1) := by decide +kernel
theorem dX1_figuresIn_15 : decode cX1_figuresIn 15 = .ok (.getfield 22, 3) := by decide +kernel
theorem dX1_figuresIn_18 : decode cX1_figuresIn 18 = .ok (.iload 4, 2) := by decide +kernel
theorem dX1_figuresIn_20 : decode cX1_figuresIn 20 = .ok (.aaload, 1) := by decide +kernel
theorem dX1_figuresIn_21 : decode cX1_figuresIn 21 = .ok (.getfield 107, 3) := by decide +kernel
theorem dX1_figuresIn_24 : decode cX1_figuresIn 24 = .ok (.iload_n 1, 1) := by decide +kernel
theorem dX1_figuresIn_25 : decode cX1_figuresIn 25 = .ok (.if_icmp .lt 20, 3) := by decide +kernel
theorem dX1_figuresIn_28 : decode cX1_figuresIn 28 = .ok (.aload_n 0, 1) := by decide +kernel
theorem dX1_figuresIn_29 : decode cX1_figuresIn 29 = .ok (.getfield 22, 3) := by decide +kernel
theorem dX1_figuresIn_32 : decode cX1_figuresIn 32 = .ok (.iload 4, 2) := by decide +kernel
theorem dX1_figuresIn_34 : decode cX1_figuresIn 34 = .ok (.aaload, 1) := by decide +kernel
theorem dX1_figuresIn_35 : decode cX1_figuresIn 35 = .ok (.getfield 107, 3) := by decide +kernel
theorem dX1_figuresIn_38 : decode cX1_figuresIn 38 = .ok (.iload_n 2, 1) := by decide +kernel
theorem dX1_figuresIn_39 : decode cX1_figuresIn 39 = .ok (.if_icmp .gt 6, 3) := by decide +kernel
theorem dX1_figuresIn_42 : decode cX1_figuresIn 42 = .ok (.iinc 3 1, 3) := by decide +kernel
theorem dX1_figuresIn_45 : decode cX1_figuresIn 45 = .ok (.iinc 4 1, 3) := by decide +kernel
theorem dX1_figuresIn_48 : decode cX1_figuresIn 48 = .ok (.goto (-43), 3) := by decide +kernel
theorem dX1_figuresIn_51 : decode cX1_figuresIn 51 = .ok (.iload_n 3, 1) := by decide +kernel
theorem dX1_figuresIn_52 : decode cX1_figuresIn 52 = .ok (.ireturn, 1) := by decide +kernel
set_option maxRecDepth 20000 in
theorem ggX1_figuresDone_X0_isDone : GoodIn wsX1_figuresDone wsX0_isDone := goodIn_r _ [7, 8, 9, 21, 22, 23, 24, 25, 26, 27, 28, 29, 30, 31] (by decide +kernel) (by decide +kernel)
set_option maxRecDepth 20000 in
theorem gX1_figuresDone_X0_isDone : GoodIn wsX1_figuresDone (wsV RX1 119 RX0 yX0_isDone wsX0_isDone) := goodIn_app (goodIn_of _ (by decide +kernel)) ggX1_figuresDone_X0_isDone
theorem dX1_figuresDone_0 : decode cX1_figuresDone 0 = .ok (.iconst 0, 1) := by decide +kernel
theorem dX1_figuresDone_1 : decode cX1_figuresDone 1 = .ok (.istore_n 1, 1) := by decide +kernel
theorem dX1_figuresDone_2 : decode cX1_figuresDone 2 = .ok (.iconst 0, 1) := by decide +kernel
theorem dX1_figuresDone_3 : decode cX1_figuresDone 3 = .ok (.istore_n 2, 1) := by decide +kernel
theorem dX1_figuresDone_4 : decode cX1_figuresDone 4 = .ok (.iload_n 2, 1) := by decide +kernel
theorem dX1_figuresDone_5 : decode cX1_figuresDone 5 = .ok (.aload_n 0, 1) := by decide +kernel
theorem dX1_figuresDone_6 : decode cX1_figuresDone 6 = .ok (.getfield 49, 3) := by decide +kernel
theorem dX1_figuresDone_9 : decode cX1_figuresDone 9 = .ok (.if_icmp .ge 24, 3) := by decide +kernel
theorem dX1_figuresDone_12 : decode cX1_figuresDone 12 = .ok (.aload_n 0, 1) := by decide +kernel
theorem dX1_figuresDone_13 : decode cX1_figuresDone 13 = .ok (.getfield 22, 3) := by decide +kernel
theorem dX1_figuresDone_16 : decode cX1_figuresDone 16 = .ok (.iload_n 2, 1) := by decide +kernel
theorem dX1_figuresDone_17 : decode cX1_figuresDone 17 = .ok (.aaload, 1) := by decide +kernel
theorem dX1_figuresDone_18 : decode cX1_figuresDone 18 = .ok (.invokevirtual 119, 3) := by decide +kernel
theorem dX1_figuresDone_21 : decode cX1_figuresDone 21 = .ok (.ifCond .eq 6, 3) := by decide +kernel
theorem dX1_figuresDone_24 : decode cX1_figuresDone 24 = .ok (.iinc 1 1, 3) := by decide +kernel
theorem dX1_figuresDone_27 : decode cX1_figuresDone 27 = .ok (.iinc 2 1, 3) := by decide +kernel
theorem dX1_figuresDone_30 : decode cX1_figuresDone 30 = .ok (.goto (-26), 3) := by decide +kernel
theorem dX1_figuresDone_33 : decode cX1_figuresDone 33 = .ok (.iload_n 1, 1) := by decide +kernel
theorem dX1_figuresDone_34 : decode cX1_figuresDone 34 = .ok (.ireturn, 1) := by decide +kernel
set_option maxRecDepth 20000 in
theorem ggX1_drawsIn_X0_draw : GoodIn wsX1_drawsIn wsX0_draw := goodIn_r _ [8, 9, 10, 11, 12, 13, 7, 14, 15, 16, 17, 18, 19, 20, 21, 22, 23, 24, 25, 26, 27, 28, 29, 30, 31, 32, 33, 34, 46, 47, 48, 49, 50, 51, 52, 53, 54, 55, 56, 57, 58, 59, 60, 61, 62, 63, 64] (by decide +kernel) (by decide +kernel)
set_option maxRecDepth 20000 in
theorem gX1_drawsIn_X0_draw : GoodIn wsX1_drawsIn (wsV RX1 122 RX0 yX0_draw wsX0_draw) := goodIn_app (goodIn_of _ (by decide +kernel)) ggX1_drawsIn_X0_draw
theorem dX1_drawsIn_0 : decode cX1_drawsIn 0 = .ok (.iconst 0, 1) := by decide +kernel
theorem dX1_drawsIn_1 : decode cX1_drawsIn 1 = .ok (.istore_n 3, 1) := by decide +kernel
theorem dX1_drawsIn_2 : decode cX1_drawsIn 2 = .ok (.iconst 0, 1) := by decide +kernel
theorem dX1_drawsIn_3 : decode cX1_drawsIn 3 = .ok (.istore 4, 2) := by decide +kernel
theorem dX1_drawsIn_5 : decode cX1_drawsIn 5 = .ok (.iload 4, 2) := by decide +kernel
theorem dX1_drawsIn_7 : decode cX1_drawsIn 7 = .ok (.aload_n 0, 1) := by decide +kernel
theorem dX1_drawsIn_8 : decode cX1_drawsIn 8 = .ok (.getfield 49, 3) := by decide +kernel
theorem dX1_drawsIn_11 : decode cX1_drawsIn 11 = .ok (.if_icmp .ge 50, 3) := by decide +kernel
theorem dX1_drawsIn_14 : decode cX1_drawsIn 14 = .ok (.aload_n 0, 1) := by decide +kernel
theorem dX1_drawsIn_15 : decode cX1_drawsIn 15 = .ok (.getfield 22, 3) := by decide +kernel
theorem dX1_drawsIn_18 : decode cX1_drawsIn 18 = .ok (.iload 4, 2) := by decide +kernel
theorem dX1_drawsIn_20 : decode cX1_drawsIn 20 = .ok (.aaload, 1) := by decide +kernel
theorem dX1_drawsIn_21 : decode cX1_drawsIn 21 = .ok (.getfield 107, 3) := by decide +kernel
theorem dX1_drawsIn_24 : decode cX1_drawsIn 24 = .ok (.iload_n 1, 1) := by decide +kernel
theorem dX1_drawsIn_25 : decode cX1_drawsIn 25 = .ok (.if_icmp .lt 30, 3) := by decide +kernel
theorem dX1_drawsIn_28 : decode cX1_drawsIn 28 = .ok (.aload_n 0, 1) := by decide +kernel
theorem dX1_drawsIn_29 : decode cX1_drawsIn 29 = .ok (.getfield 22, 3) := by decide +kernel
theorem dX1_drawsIn_32 : decode cX1_drawsIn 32 = .ok (.iload 4, 2) := by decide +kernel
theorem dX1_drawsIn_34 : decode cX1_drawsIn 34 = .ok (.aaload, 1) := by decide +kernel
theorem dX1_drawsIn_35 : decode cX1_drawsIn 35 = .ok (.getfield 107, 3) := by decide +kernel
theorem dX1_drawsIn_38 : decode cX1_drawsIn 38 = .ok (.iload_n 2, 1) := by decide +kernel
theorem dX1_drawsIn_39 : decode cX1_drawsIn 39 = .ok (.if_icmp .gt 16, 3) := by decide +kernel
theorem dX1_drawsIn_42 : decode cX1_drawsIn 42 = .ok (.iload_n 3, 1) := by decide +kernel
theorem dX1_drawsIn_43 : decode cX1_drawsIn 43 = .ok (.aload_n 0, 1) := by decide +kernel
theorem dX1_drawsIn_44 : decode cX1_drawsIn 44 = .ok (.getfield 22, 3) := by decide +kernel
theorem dX1_drawsIn_47 : decode cX1_drawsIn 47 = .ok (.iload 4, 2) := by decide +kernel
theorem dX1_drawsIn_49 : decode cX1_drawsIn 49 = .ok (.aaload, 1) := by decide +kernel
theorem dX1_drawsIn_50 : decode cX1_drawsIn 50 = .ok (.invokevirtual 122, 3) := by decide +kernel
theorem dX1_drawsIn_53 : decode cX1_drawsIn 53 = .ok (.iadd, 1) := by decide +kernel
theorem dX1_drawsIn_54 : decode cX1_drawsIn 54 = .ok (.istore_n 3, 1) := by decide +kernel
theorem dX1_drawsIn_55 : decode cX1_drawsIn 55 = .ok (.iinc 4 1, 3) := by decide +kernel
theorem dX1_drawsIn_58 : decode cX1_drawsIn 58 = .ok (.goto (-53), 3) := by decide +kernel
theorem dX1_drawsIn_61 : decode cX1_drawsIn 61 = .ok (.iload_n 3, 1) := by decide +kernel
theorem dX1_drawsIn_62 : decode cX1_drawsIn 62 = .ok (.ireturn, 1) := by decide +kernel
set_option maxRecDepth 20000 in
theorem ggX1_likenessShown_X0_isShown : GoodIn wsX1_likenessShown wsX0_isShown := goodIn_r _ [7, 8, 40, 41, 42, 43, 44, 45, 46, 47, 48, 49, 50] (by decide +kernel) (by decide +kernel)
set_option maxRecDepth 20000 in
theorem gX1_likenessShown_X0_isShown : GoodIn wsX1_likenessShown (wsV RX1 103 RX0 yX0_isShown wsX0_isShown) := goodIn_app (goodIn_of _ (by decide +kernel)) ggX1_likenessShown_X0_isShown
set_option maxRecDepth 20000 in
theorem ggX1_likenessShown_X0_likeness : GoodIn wsX1_likenessShown wsX0_likeness := goodIn_r _ [12, 13, 14, 15, 16, 17, 18, 19, 6, 20, 21, 8, 22, 23, 24, 25, 26, 27, 28, 40, 41, 42, 43, 44, 45, 46, 47, 48, 49, 50, 51, 52, 53, 54, 55, 56, 57, 58] (by decide +kernel) (by decide +kernel)
set_option maxRecDepth 20000 in
theorem gX1_likenessShown_X0_likeness : GoodIn wsX1_likenessShown (wsV RX1 126 RX0 yX0_likeness wsX0_likeness) := goodIn_app (goodIn_of _ (by decide +kernel)) ggX1_likenessShown_X0_likeness
theorem dX1_likenessShown_0 : decode cX1_likenessShown 0 = .ok (.iconst 0, 1) := by decide +kernel
theorem dX1_likenessShown_1 : decode cX1_likenessShown 1 = .ok (.istore_n 1, 1) := by decide +kernel
theorem dX1_likenessShown_2 : decode cX1_likenessShown 2 = .ok (.iconst 0, 1) := by decide +kernel
theorem dX1_likenessShown_3 : decode cX1_likenessShown 3 = .ok (.istore_n 2, 1) := by decide +kernel
theorem dX1_likenessShown_4 : decode cX1_likenessShown 4 = .ok (.iload_n 2, 1) := by decide +kernel
theorem dX1_likenessShown_5 : decode cX1_likenessShown 5 = .ok (.aload_n 0, 1) := by decide +kernel
theorem dX1_likenessShown_6 : decode cX1_likenessShown 6 = .ok (.getfield 49, 3) := by decide +kernel
theorem dX1_likenessShown_9 : decode cX1_likenessShown 9 = .ok (.if_icmp .ge 33, 3) := by decide +kernel
theorem dX1_likenessShown_12 : decode cX1_likenessShown 12 = .ok (.aload_n 0, 1) := by decide +kernel
theorem dX1_likenessShown_13 : decode cX1_likenessShown 13 = .ok (.getfield 22, 3) := by decide +kernel
theorem dX1_likenessShown_16 : decode cX1_likenessShown 16 = .ok (.iload_n 2, 1) := by decide +kernel
theorem dX1_likenessShown_17 : decode cX1_likenessShown 17 = .ok (.aaload, 1) := by decide +kernel
theorem dX1_likenessShown_18 : decode cX1_likenessShown 18 = .ok (.invokevirtual 103, 3) := by decide +kernel
theorem dX1_likenessShown_21 : decode cX1_likenessShown 21 = .ok (.ifCond .eq 15, 3) := by decide +kernel
theorem dX1_likenessShown_24 : decode cX1_likenessShown 24 = .ok (.iload_n 1, 1) := by decide +kernel
theorem dX1_likenessShown_25 : decode cX1_likenessShown 25 = .ok (.aload_n 0, 1) := by decide +kernel
theorem dX1_likenessShown_26 : decode cX1_likenessShown 26 = .ok (.getfield 22, 3) := by decide +kernel
theorem dX1_likenessShown_29 : decode cX1_likenessShown 29 = .ok (.iload_n 2, 1) := by decide +kernel
theorem dX1_likenessShown_30 : decode cX1_likenessShown 30 = .ok (.aaload, 1) := by decide +kernel
theorem dX1_likenessShown_31 : decode cX1_likenessShown 31 = .ok (.invokevirtual 126, 3) := by decide +kernel
theorem dX1_likenessShown_34 : decode cX1_likenessShown 34 = .ok (.iadd, 1) := by decide +kernel
theorem dX1_likenessShown_35 : decode cX1_likenessShown 35 = .ok (.istore_n 1, 1) := by decide +kernel
theorem dX1_likenessShown_36 : decode cX1_likenessShown 36 = .ok (.iinc 2 1, 3) := by decide +kernel
theorem dX1_likenessShown_39 : decode cX1_likenessShown 39 = .ok (.goto (-35), 3) := by decide +kernel
theorem dX1_likenessShown_42 : decode cX1_likenessShown 42 = .ok (.iload_n 1, 1) := by decide +kernel
theorem dX1_likenessShown_43 : decode cX1_likenessShown 43 = .ok (.ireturn, 1) := by decide +kernel
theorem dX1_allDue_0 : decode cX1_allDue 0 = .ok (.iconst 0, 1) := by decide +kernel
theorem dX1_allDue_1 : decode cX1_allDue 1 = .ok (.istore_n 1, 1) := by decide +kernel
theorem dX1_allDue_2 : decode cX1_allDue 2 = .ok (.iconst 0, 1) := by decide +kernel
theorem dX1_allDue_3 : decode cX1_allDue 3 = .ok (.istore_n 2, 1) := by decide +kernel
theorem dX1_allDue_4 : decode cX1_allDue 4 = .ok (.iload_n 2, 1) := by decide +kernel
theorem dX1_allDue_5 : decode cX1_allDue 5 = .ok (.aload_n 0, 1) := by decide +kernel
theorem dX1_allDue_6 : decode cX1_allDue 6 = .ok (.getfield 46, 3) := by decide +kernel
theorem dX1_allDue_9 : decode cX1_allDue 9 = .ok (.if_icmp .ge 21, 3) := by decide +kernel
theorem dX1_allDue_12 : decode cX1_allDue 12 = .ok (.iload_n 1, 1) := by decide +kernel
theorem dX1_allDue_13 : decode cX1_allDue 13 = .ok (.aload_n 0, 1) := by decide +kernel
theorem dX1_allDue_14 : decode cX1_allDue 14 = .ok (.getfield 11, 3) := by decide +kernel
theorem dX1_allDue_17 : decode cX1_allDue 17 = .ok (.iload_n 2, 1) := by decide +kernel
theorem dX1_allDue_18 : decode cX1_allDue 18 = .ok (.aaload, 1) := by decide +kernel
theorem dX1_allDue_19 : decode cX1_allDue 19 = .ok (.getfield 129, 3) := by decide +kernel
theorem dX1_allDue_22 : decode cX1_allDue 22 = .ok (.iadd, 1) := by decide +kernel
theorem dX1_allDue_23 : decode cX1_allDue 23 = .ok (.istore_n 1, 1) := by decide +kernel
theorem dX1_allDue_24 : decode cX1_allDue 24 = .ok (.iinc 2 1, 3) := by decide +kernel
theorem dX1_allDue_27 : decode cX1_allDue 27 = .ok (.goto (-23), 3) := by decide +kernel
theorem dX1_allDue_30 : decode cX1_allDue 30 = .ok (.iload_n 1, 1) := by decide +kernel
theorem dX1_allDue_31 : decode cX1_allDue 31 = .ok (.ireturn, 1) := by decide +kernel
theorem dX1_allHands_0 : decode cX1_allHands 0 = .ok (.iconst 0, 1) := by decide +kernel
theorem dX1_allHands_1 : decode cX1_allHands 1 = .ok (.istore_n 1, 1) := by decide +kernel
theorem dX1_allHands_2 : decode cX1_allHands 2 = .ok (.iconst 0, 1) := by decide +kernel
theorem dX1_allHands_3 : decode cX1_allHands 3 = .ok (.istore_n 2, 1) := by decide +kernel
theorem dX1_allHands_4 : decode cX1_allHands 4 = .ok (.iload_n 2, 1) := by decide +kernel
theorem dX1_allHands_5 : decode cX1_allHands 5 = .ok (.aload_n 0, 1) := by decide +kernel
theorem dX1_allHands_6 : decode cX1_allHands 6 = .ok (.getfield 49, 3) := by decide +kernel
theorem dX1_allHands_9 : decode cX1_allHands 9 = .ok (.if_icmp .ge 21, 3) := by decide +kernel
theorem dX1_allHands_12 : decode cX1_allHands 12 = .ok (.iload_n 1, 1) := by decide +kernel
theorem dX1_allHands_13 : decode cX1_allHands 13 = .ok (.aload_n 0, 1) := by decide +kernel
theorem dX1_allHands_14 : decode cX1_allHands 14 = .ok (.getfield 22, 3) := by decide +kernel
theorem dX1_allHands_17 : decode cX1_allHands 17 = .ok (.iload_n 2, 1) := by decide +kernel
theorem dX1_allHands_18 : decode cX1_allHands 18 = .ok (.aaload, 1) := by decide +kernel
theorem dX1_allHands_19 : decode cX1_allHands 19 = .ok (.getfield 132, 3) := by decide +kernel
theorem dX1_allHands_22 : decode cX1_allHands 22 = .ok (.iadd, 1) := by decide +kernel
theorem dX1_allHands_23 : decode cX1_allHands 23 = .ok (.istore_n 1, 1) := by decide +kernel
theorem dX1_allHands_24 : decode cX1_allHands 24 = .ok (.iinc 2 1, 3) := by decide +kernel
theorem dX1_allHands_27 : decode cX1_allHands 27 = .ok (.goto (-23), 3) := by decide +kernel
theorem dX1_allHands_30 : decode cX1_allHands 30 = .ok (.iload_n 1, 1) := by decide +kernel
theorem dX1_allHands_31 : decode cX1_allHands 31 = .ok (.ireturn, 1) := by decide +kernel
set_option maxRecDepth 20000 in
theorem ggX1_passDay_X1_beginMonthOfAll : GoodIn wsX1_passDay wsX1_beginMonthOfAll := goodIn_r _ [9, 10, 11, 12, 13, 14, 15, 16, 17, 18, 19, 20, 21, 22, 23, 24, 117, 118, 119, 120, 121, 122, 123, 124, 125, 126, 127, 128, 129, 130, 131, 132, 133, 134, 135] (by decide +kernel) (by decide +kernel)
set_option maxRecDepth 20000 in
theorem gX1_passDay_X1_beginMonthOfAll : GoodIn wsX1_passDay (wsV RX1 135 RX1 yX1_beginMonthOfAll wsX1_beginMonthOfAll) := goodIn_app (goodIn_of _ (by decide +kernel)) ggX1_passDay_X1_beginMonthOfAll
set_option maxRecDepth 20000 in
theorem ggX1_passDay_X1_workOnAll : GoodIn wsX1_passDay wsX1_workOnAll := goodIn_r _ [28, 29, 30, 31, 32, 33, 34, 35, 36, 37, 38, 39, 40, 41, 42, 43, 44, 15, 45, 46, 47, 117, 118, 119, 120, 121, 122, 123, 124, 125, 126, 127, 136, 137, 138, 139, 140, 141, 142, 143, 144, 145, 146, 128, 129, 130, 131, 132, 133, 134, 135] (by decide +kernel) (by decide +kernel)
set_option maxRecDepth 20000 in
theorem gX1_passDay_X1_workOnAll : GoodIn wsX1_passDay (wsV RX1 138 RX1 yX1_workOnAll wsX1_workOnAll) := goodIn_app (goodIn_of _ (by decide +kernel)) ggX1_passDay_X1_workOnAll
set_option maxRecDepth 20000 in
theorem ggX1_passDay_X1_drawsIn : GoodIn wsX1_passDay wsX1_drawsIn := goodIn_r _ [51, 29, 30, 52, 53, 54, 55, 34, 56, 40, 57, 58, 59, 60, 61, 37, 62, 63, 64, 65, 41, 66, 67, 68, 69, 70, 71, 36, 72, 73, 74, 15, 75, 47, 46, 117, 118, 119, 120, 121, 122, 123, 124, 125, 126, 127, 136, 137, 138, 139, 140, 141, 142, 143, 144, 145, 146, 128, 129, 130, 131, 132, 133, 134, 135] (by decide +kernel) (by decide +kernel)
set_option maxRecDepth 20000 in
theorem gX1_passDay_X1_drawsIn : GoodIn wsX1_passDay (wsV RX1 141 RX1 yX1_drawsIn wsX1_drawsIn) := goodIn_app (goodIn_of _ (by decide +kernel)) ggX1_passDay_X1_drawsIn
set_option maxRecDepth 20000 in
theorem ggX1_passDay_X1_wearAllShown : GoodIn wsX1_passDay wsX1_wearAllShown := goodIn_ca (goodIn_r _ [79, 29, 30, 52, 80, 81, 59, 60, 34, 61, 37, 53, 54, 55, 56, 40, 57, 58, 62, 63, 64, 65, 41, 66, 67, 68, 69, 70, 71, 36, 72, 73, 74, 15, 75, 47, 46, 82, 83, 84, 8, 85, 86, 87, 88, 89, 90, 91, 92, 93, 94, 95, 96, 97, 98, 99, 100, 101, 102, 103, 104, 105, 106, 39, 117, 118, 119, 120, 121, 122, 123, 124, 125, 126, 127, 136, 137, 138, 139, 140, 141, 142, 143, 144, 145, 146, 147, 148, 128, 129, 130, 131, 132, 133, 134, 135] (by decide +kernel) (by decide +kernel)) (goodIn_sub (fun _ h => List.mem_cons_of_mem _ (List.mem_append_right _ h)) (by decide +kernel))
set_option maxRecDepth 20000 in
theorem gX1_passDay_X1_wearAllShown : GoodIn wsX1_passDay (wsV RX1 144 RX1 yX1_wearAllShown wsX1_wearAllShown) := goodIn_app (goodIn_of _ (by decide +kernel)) ggX1_passDay_X1_wearAllShown
set_option maxRecDepth 20000 in
theorem ggX1_passDay_X1_tourWithAll : GoodIn wsX1_passDay wsX1_tourWithAll := goodIn_r _ [110, 29, 30, 52, 4, 111, 112, 113, 34, 114, 115, 40, 57, 66, 99, 100, 101, 102, 116, 37, 62, 63, 64, 65, 41, 67, 68, 69, 70, 71, 36, 72, 73, 74, 15, 75, 47, 46, 117, 118, 119, 120, 121, 122, 123, 124, 125, 126, 127, 136, 137, 138, 139, 140, 141, 142, 143, 144, 145, 146, 128, 129, 130, 131, 132, 133, 134, 135] (by decide +kernel) (by decide +kernel)
set_option maxRecDepth 20000 in
theorem gX1_passDay_X1_tourWithAll : GoodIn wsX1_passDay (wsV RX1 148 RX1 yX1_tourWithAll wsX1_tourWithAll) := goodIn_app (goodIn_of _ (by decide +kernel)) ggX1_passDay_X1_tourWithAll
theorem dX1_passDay_0 : decode cX1_passDay 0 = .ok (.aload_n 0, 1) := by decide +kernel
theorem dX1_passDay_1 : decode cX1_passDay 1 = .ok (.dup, 1) := by decide +kernel
theorem dX1_passDay_2 : decode cX1_passDay 2 = .ok (.getfield 55, 3) := by decide +kernel
theorem dX1_passDay_5 : decode cX1_passDay 5 = .ok (.iconst 1, 1) := by decide +kernel
theorem dX1_passDay_6 : decode cX1_passDay 6 = .ok (.iadd, 1) := by decide +kernel
theorem dX1_passDay_7 : decode cX1_passDay 7 = .ok (.putfield 55, 3) := by decide +kernel
theorem dX1_passDay_10 : decode cX1_passDay 10 = .ok (.aload_n 0, 1) := by decide +kernel
theorem dX1_passDay_11 : decode cX1_passDay 11 = .ok (.getfield 55, 3) := by decide +kernel
theorem dX1_passDay_14 : decode cX1_passDay 14 = .ok (.bipush 30, 2) := by decide +kernel
theorem dX1_passDay_16 : decode cX1_passDay 16 = .ok (.irem, 1) := by decide +kernel
theorem dX1_passDay_17 : decode cX1_passDay 17 = .ok (.ifCond .ne 7, 3) := by decide +kernel
theorem dX1_passDay_20 : decode cX1_passDay 20 = .ok (.aload_n 0, 1) := by decide +kernel
theorem dX1_passDay_21 : decode cX1_passDay 21 = .ok (.invokevirtual 135, 3) := by decide +kernel
theorem dX1_passDay_24 : decode cX1_passDay 24 = .ok (.aload_n 0, 1) := by decide +kernel
theorem dX1_passDay_25 : decode cX1_passDay 25 = .ok (.invokevirtual 138, 3) := by decide +kernel
theorem dX1_passDay_28 : decode cX1_passDay 28 = .ok (.istore_n 3, 1) := by decide +kernel
theorem dX1_passDay_29 : decode cX1_passDay 29 = .ok (.aload_n 0, 1) := by decide +kernel
theorem dX1_passDay_30 : decode cX1_passDay 30 = .ok (.iconst 0, 1) := by decide +kernel
theorem dX1_passDay_31 : decode cX1_passDay 31 = .ok (.iconst 4, 1) := by decide +kernel
theorem dX1_passDay_32 : decode cX1_passDay 32 = .ok (.invokevirtual 141, 3) := by decide +kernel
theorem dX1_passDay_35 : decode cX1_passDay 35 = .ok (.istore 4, 2) := by decide +kernel
theorem dX1_passDay_37 : decode cX1_passDay 37 = .ok (.iload_n 1, 1) := by decide +kernel
theorem dX1_passDay_38 : decode cX1_passDay 38 = .ok (.bipush 100, 2) := by decide +kernel
theorem dX1_passDay_40 : decode cX1_passDay 40 = .ok (.iconst 5, 1) := by decide +kernel
theorem dX1_passDay_41 : decode cX1_passDay 41 = .ok (.aload_n 0, 1) := by decide +kernel
theorem dX1_passDay_42 : decode cX1_passDay 42 = .ok (.getfield 43, 3) := by decide +kernel
theorem dX1_passDay_45 : decode cX1_passDay 45 = .ok (.imul, 1) := by decide +kernel
theorem dX1_passDay_46 : decode cX1_passDay 46 = .ok (.isub, 1) := by decide +kernel
theorem dX1_passDay_47 : decode cX1_passDay 47 = .ok (.imul, 1) := by decide +kernel
theorem dX1_passDay_48 : decode cX1_passDay 48 = .ok (.bipush 100, 2) := by decide +kernel
theorem dX1_passDay_50 : decode cX1_passDay 50 = .ok (.idiv, 1) := by decide +kernel
theorem dX1_passDay_51 : decode cX1_passDay 51 = .ok (.istore 5, 2) := by decide +kernel
theorem dX1_passDay_53 : decode cX1_passDay 53 = .ok (.aload_n 0, 1) := by decide +kernel
theorem dX1_passDay_54 : decode cX1_passDay 54 = .ok (.dup, 1) := by decide +kernel
theorem dX1_passDay_55 : decode cX1_passDay 55 = .ok (.getfield 58, 3) := by decide +kernel
theorem dX1_passDay_58 : decode cX1_passDay 58 = .ok (.iload 5, 2) := by decide +kernel
theorem dX1_passDay_60 : decode cX1_passDay 60 = .ok (.iadd, 1) := by decide +kernel
theorem dX1_passDay_61 : decode cX1_passDay 61 = .ok (.putfield 58, 3) := by decide +kernel
theorem dX1_passDay_64 : decode cX1_passDay 64 = .ok (.aload_n 0, 1) := by decide +kernel
theorem dX1_passDay_65 : decode cX1_passDay 65 = .ok (.dup, 1) := by decide +kernel
theorem dX1_passDay_66 : decode cX1_passDay 66 = .ok (.getfield 36, 3) := by decide +kernel
theorem dX1_passDay_69 : decode cX1_passDay 69 = .ok (.aload_n 0, 1) := by decide +kernel
theorem dX1_passDay_70 : decode cX1_passDay 70 = .ok (.getfield 43, 3) := by decide +kernel
theorem dX1_passDay_73 : decode cX1_passDay 73 = .ok (.iload 5, 2) := by decide +kernel
theorem dX1_passDay_75 : decode cX1_passDay 75 = .ok (.imul, 1) := by decide +kernel
theorem dX1_passDay_76 : decode cX1_passDay 76 = .ok (.iadd, 1) := by decide +kernel
theorem dX1_passDay_77 : decode cX1_passDay 77 = .ok (.putfield 36, 3) := by decide +kernel
theorem dX1_passDay_80 : decode cX1_passDay 80 = .ok (.aload_n 0, 1) := by decide +kernel
theorem dX1_passDay_81 : decode cX1_passDay 81 = .ok (.iload 5, 2) := by decide +kernel
theorem dX1_passDay_83 : decode cX1_passDay 83 = .ok (.iload 4, 2) := by decide +kernel
theorem dX1_passDay_85 : decode cX1_passDay 85 = .ok (.iload_n 2, 1) := by decide +kernel
theorem dX1_passDay_86 : decode cX1_passDay 86 = .ok (.invokevirtual 144, 3) := by decide +kernel
theorem dX1_passDay_89 : decode cX1_passDay 89 = .ok (.istore 6, 2) := by decide +kernel
theorem dX1_passDay_91 : decode cX1_passDay 91 = .ok (.aload_n 0, 1) := by decide +kernel
theorem dX1_passDay_92 : decode cX1_passDay 92 = .ok (.invokevirtual 148, 3) := by decide +kernel
theorem dX1_passDay_95 : decode cX1_passDay 95 = .ok (.iload_n 3, 1) := by decide +kernel
theorem dX1_passDay_96 : decode cX1_passDay 96 = .ok (.iload 6, 2) := by decide +kernel
theorem dX1_passDay_98 : decode cX1_passDay 98 = .ok (.iadd, 1) := by decide +kernel
theorem dX1_passDay_99 : decode cX1_passDay 99 = .ok (.ireturn, 1) := by decide +kernel
set_option maxRecDepth 20000 in
theorem ggX1_beginMonthOfAll_X2_beginMonth : GoodIn wsX1_beginMonthOfAll wsX2_beginMonth := goodIn_r _ [7, 8, 9, 10, 11, 6, 12, 13, 14, 15, 27, 28, 29, 30, 31, 32, 33, 34] (by decide +kernel) (by decide +kernel)
set_option maxRecDepth 20000 in
theorem gX1_beginMonthOfAll_X2_beginMonth : GoodIn wsX1_beginMonthOfAll (wsV RX1 151 RX2 yX2_beginMonth wsX2_beginMonth) := goodIn_app (goodIn_of _ (by decide +kernel)) ggX1_beginMonthOfAll_X2_beginMonth
theorem dX1_beginMonthOfAll_0 : decode cX1_beginMonthOfAll 0 = .ok (.iconst 0, 1) := by decide +kernel
theorem dX1_beginMonthOfAll_1 : decode cX1_beginMonthOfAll 1 = .ok (.istore_n 1, 1) := by decide +kernel
theorem dX1_beginMonthOfAll_2 : decode cX1_beginMonthOfAll 2 = .ok (.iload_n 1, 1) := by decide +kernel
theorem dX1_beginMonthOfAll_3 : decode cX1_beginMonthOfAll 3 = .ok (.aload_n 0, 1) := by decide +kernel
theorem dX1_beginMonthOfAll_4 : decode cX1_beginMonthOfAll 4 = .ok (.getfield 46, 3) := by decide +kernel
theorem dX1_beginMonthOfAll_7 : decode cX1_beginMonthOfAll 7 = .ok (.if_icmp .ge 18, 3) := by decide +kernel
theorem dX1_beginMonthOfAll_10 : decode cX1_beginMonthOfAll 10 = .ok (.aload_n 0, 1) := by decide +kernel
theorem dX1_beginMonthOfAll_11 : decode cX1_beginMonthOfAll 11 = .ok (.getfield 11, 3) := by decide +kernel
theorem dX1_beginMonthOfAll_14 : decode cX1_beginMonthOfAll 14 = .ok (.iload_n 1, 1) := by decide +kernel
theorem dX1_beginMonthOfAll_15 : decode cX1_beginMonthOfAll 15 = .ok (.aaload, 1) := by decide +kernel
theorem dX1_beginMonthOfAll_16 : decode cX1_beginMonthOfAll 16 = .ok (.invokevirtual 151, 3) := by decide +kernel
theorem dX1_beginMonthOfAll_19 : decode cX1_beginMonthOfAll 19 = .ok (.iinc 1 1, 3) := by decide +kernel
theorem dX1_beginMonthOfAll_22 : decode cX1_beginMonthOfAll 22 = .ok (.goto (-20), 3) := by decide +kernel
theorem dX1_beginMonthOfAll_25 : decode cX1_beginMonthOfAll 25 = .ok (.return_, 1) := by decide +kernel
set_option maxRecDepth 20000 in
theorem ggX1_workOnAll_X0_workDay : GoodIn wsX1_workOnAll wsX0_workDay := goodIn_r _ [7, 8, 9, 10, 11, 12, 13, 14, 15, 16, 17, 18, 19, 20, 32, 33, 34, 35, 36, 37, 38, 39, 40, 41, 42, 43, 44, 45, 46, 47, 48, 49, 50] (by decide +kernel) (by decide +kernel)
set_option maxRecDepth 20000 in
theorem gX1_workOnAll_X0_workDay : GoodIn wsX1_workOnAll (wsV RX1 154 RX0 yX0_workDay wsX0_workDay) := goodIn_app (goodIn_of _ (by decide +kernel)) ggX1_workOnAll_X0_workDay
theorem dX1_workOnAll_0 : decode cX1_workOnAll 0 = .ok (.iconst 0, 1) := by decide +kernel
theorem dX1_workOnAll_1 : decode cX1_workOnAll 1 = .ok (.istore_n 1, 1) := by decide +kernel
theorem dX1_workOnAll_2 : decode cX1_workOnAll 2 = .ok (.iconst 0, 1) := by decide +kernel
theorem dX1_workOnAll_3 : decode cX1_workOnAll 3 = .ok (.istore_n 2, 1) := by decide +kernel
theorem dX1_workOnAll_4 : decode cX1_workOnAll 4 = .ok (.iload_n 2, 1) := by decide +kernel
theorem dX1_workOnAll_5 : decode cX1_workOnAll 5 = .ok (.aload_n 0, 1) := by decide +kernel
theorem dX1_workOnAll_6 : decode cX1_workOnAll 6 = .ok (.getfield 49, 3) := by decide +kernel
theorem dX1_workOnAll_9 : decode cX1_workOnAll 9 = .ok (.if_icmp .ge 24, 3) := by decide +kernel
theorem dX1_workOnAll_12 : decode cX1_workOnAll 12 = .ok (.aload_n 0, 1) := by decide +kernel
theorem dX1_workOnAll_13 : decode cX1_workOnAll 13 = .ok (.getfield 22, 3) := by decide +kernel
theorem dX1_workOnAll_16 : decode cX1_workOnAll 16 = .ok (.iload_n 2, 1) := by decide +kernel
theorem dX1_workOnAll_17 : decode cX1_workOnAll 17 = .ok (.aaload, 1) := by decide +kernel
theorem dX1_workOnAll_18 : decode cX1_workOnAll 18 = .ok (.invokevirtual 154, 3) := by decide +kernel
theorem dX1_workOnAll_21 : decode cX1_workOnAll 21 = .ok (.ifCond .eq 6, 3) := by decide +kernel
theorem dX1_workOnAll_24 : decode cX1_workOnAll 24 = .ok (.iinc 1 1, 3) := by decide +kernel
theorem dX1_workOnAll_27 : decode cX1_workOnAll 27 = .ok (.iinc 2 1, 3) := by decide +kernel
theorem dX1_workOnAll_30 : decode cX1_workOnAll 30 = .ok (.goto (-26), 3) := by decide +kernel
theorem dX1_workOnAll_33 : decode cX1_workOnAll 33 = .ok (.iload_n 1, 1) := by decide +kernel
theorem dX1_workOnAll_34 : decode cX1_workOnAll 34 = .ok (.ireturn, 1) := by decide +kernel
set_option maxRecDepth 20000 in
theorem ggX1_wearAllShown_X0_isShown : GoodIn wsX1_wearAllShown wsX0_isShown := goodIn_r _ [9, 10, 75, 76, 77, 78, 79, 80, 81, 82, 83, 84, 85] (by decide +kernel) (by decide +kernel)
set_option maxRecDepth 20000 in
theorem gX1_wearAllShown_X0_isShown : GoodIn wsX1_wearAllShown (wsV RX1 103 RX0 yX0_isShown wsX0_isShown) := goodIn_app (goodIn_of _ (by decide +kernel)) ggX1_wearAllShown_X0_isShown
set_option maxRecDepth 20000 in
theorem ggX1_wearAllShown_X0_draw : GoodIn wsX1_wearAllShown wsX0_draw := goodIn_r _ [14, 15, 16, 17, 6, 7, 8, 9, 10, 18, 19, 20, 21, 22, 23, 24, 25, 26, 27, 28, 29, 30, 31, 32, 33, 34, 35, 36, 75, 76, 77, 78, 79, 80, 81, 82, 83, 84, 85, 88, 89, 90, 91, 92, 93, 94, 95] (by decide +kernel) (by decide +kernel)
set_option maxRecDepth 20000 in
theorem gX1_wearAllShown_X0_draw : GoodIn wsX1_wearAllShown (wsV RX1 122 RX0 yX0_draw wsX0_draw) := goodIn_app (goodIn_of _ (by decide +kernel)) ggX1_wearAllShown_X0_draw
set_option maxRecDepth 20000 in
theorem ggX1_wearAllShown_X1_roomAt : GoodIn wsX1_wearAllShown wsX1_roomAt := goodIn_ca (goodIn_r _ [41, 42, 43, 44, 45, 46, 47, 48, 64, 65, 66, 67, 68, 69, 70, 71, 72, 73, 74] (by decide +kernel) (by decide +kernel)) (goodIn_sub (fun _ h => List.mem_cons_of_mem _ (List.mem_append_right _ h)) (by decide +kernel))
set_option maxRecDepth 20000 in
theorem gX1_wearAllShown_X1_roomAt : GoodIn wsX1_wearAllShown (wsV RX1 99 RX1 yX1_roomAt wsX1_roomAt) := goodIn_app (goodIn_of _ (by decide +kernel)) ggX1_wearAllShown_X1_roomAt
set_option maxRecDepth 20000 in
theorem ggX1_wearAllShown_X0_wearDay : GoodIn wsX1_wearAllShown wsX0_wearDay := goodIn_r _ [52, 53, 15, 54, 23, 55, 56, 57, 58, 59, 60, 61, 8, 62, 10, 63, 75, 76, 77, 78, 79, 80, 81, 82, 83, 84, 85, 88, 89, 90, 91, 92, 93, 94, 95] (by decide +kernel) (by decide +kernel)
set_option maxRecDepth 20000 in
theorem gX1_wearAllShown_X0_wearDay : GoodIn wsX1_wearAllShown (wsV RX1 157 RX0 yX0_wearDay wsX0_wearDay) := goodIn_app (goodIn_of _ (by decide +kernel)) ggX1_wearAllShown_X0_wearDay
theorem dX1_wearAllShown_0 : decode cX1_wearAllShown 0 = .ok (.iconst 0, 1) := by decide +kernel
theorem dX1_wearAllShown_1 : decode cX1_wearAllShown 1 = .ok (.istore 4, 2) := by decide +kernel
theorem dX1_wearAllShown_3 : decode cX1_wearAllShown 3 = .ok (.iconst 0, 1) := by decide +kernel
theorem dX1_wearAllShown_4 : decode cX1_wearAllShown 4 = .ok (.istore 5, 2) := by decide +kernel
theorem dX1_wearAllShown_6 : decode cX1_wearAllShown 6 = .ok (.iload 5, 2) := by decide +kernel
theorem dX1_wearAllShown_8 : decode cX1_wearAllShown 8 = .ok (.aload_n 0, 1) := by decide +kernel
theorem dX1_wearAllShown_9 : decode cX1_wearAllShown 9 = .ok (.getfield 49, 3) := by decide +kernel
theorem dX1_wearAllShown_12 : decode cX1_wearAllShown 12 = .ok (.if_icmp .ge 74, 3) := by decide +kernel
theorem dX1_wearAllShown_15 : decode cX1_wearAllShown 15 = .ok (.aload_n 0, 1) := by decide +kernel
theorem dX1_wearAllShown_16 : decode cX1_wearAllShown 16 = .ok (.getfield 22, 3) := by decide +kernel
theorem dX1_wearAllShown_19 : decode cX1_wearAllShown 19 = .ok (.iload 5, 2) := by decide +kernel
theorem dX1_wearAllShown_21 : decode cX1_wearAllShown 21 = .ok (.aaload, 1) := by decide +kernel
theorem dX1_wearAllShown_22 : decode cX1_wearAllShown 22 = .ok (.astore 6, 2) := by decide +kernel
theorem dX1_wearAllShown_24 : decode cX1_wearAllShown 24 = .ok (.aload 6, 2) := by decide +kernel
theorem dX1_wearAllShown_26 : decode cX1_wearAllShown 26 = .ok (.invokevirtual 103, 3) := by decide +kernel
theorem dX1_wearAllShown_29 : decode cX1_wearAllShown 29 = .ok (.ifCond .ne 6, 3) := by decide +kernel
theorem dX1_wearAllShown_32 : decode cX1_wearAllShown 32 = .ok (.goto 48, 3) := by decide +kernel
theorem dX1_wearAllShown_35 : decode cX1_wearAllShown 35 = .ok (.iload_n 2, 1) := by decide +kernel
theorem dX1_wearAllShown_36 : decode cX1_wearAllShown 36 = .ok (.ifCond .le 15, 3) := by decide +kernel
theorem dX1_wearAllShown_39 : decode cX1_wearAllShown 39 = .ok (.iload_n 1, 1) := by decide +kernel
theorem dX1_wearAllShown_40 : decode cX1_wearAllShown 40 = .ok (.aload 6, 2) := by decide +kernel
theorem dX1_wearAllShown_42 : decode cX1_wearAllShown 42 = .ok (.invokevirtual 122, 3) := by decide +kernel
theorem dX1_wearAllShown_45 : decode cX1_wearAllShown 45 = .ok (.imul, 1) := by decide +kernel
theorem dX1_wearAllShown_46 : decode cX1_wearAllShown 46 = .ok (.iload_n 2, 1) := by decide +kernel
theorem dX1_wearAllShown_47 : decode cX1_wearAllShown 47 = .ok (.idiv, 1) := by decide +kernel
theorem dX1_wearAllShown_48 : decode cX1_wearAllShown 48 = .ok (.goto 4, 3) := by decide +kernel
theorem dX1_wearAllShown_51 : decode cX1_wearAllShown 51 = .ok (.iconst 0, 1) := by decide +kernel
theorem dX1_wearAllShown_52 : decode cX1_wearAllShown 52 = .ok (.istore 7, 2) := by decide +kernel
theorem dX1_wearAllShown_54 : decode cX1_wearAllShown 54 = .ok (.aload 6, 2) := by decide +kernel
theorem dX1_wearAllShown_56 : decode cX1_wearAllShown 56 = .ok (.iload 7, 2) := by decide +kernel
theorem dX1_wearAllShown_58 : decode cX1_wearAllShown 58 = .ok (.aload_n 0, 1) := by decide +kernel
theorem dX1_wearAllShown_59 : decode cX1_wearAllShown 59 = .ok (.aload 6, 2) := by decide +kernel
theorem dX1_wearAllShown_61 : decode cX1_wearAllShown 61 = .ok (.getfield 107, 3) := by decide +kernel
theorem dX1_wearAllShown_64 : decode cX1_wearAllShown 64 = .ok (.invokevirtual 99, 3) := by decide +kernel
theorem dX1_wearAllShown_67 : decode cX1_wearAllShown 67 = .ok (.getfield 81, 3) := by decide +kernel
theorem dX1_wearAllShown_70 : decode cX1_wearAllShown 70 = .ok (.iload_n 3, 1) := by decide +kernel
theorem dX1_wearAllShown_71 : decode cX1_wearAllShown 71 = .ok (.invokevirtual 157, 3) := by decide +kernel
theorem dX1_wearAllShown_74 : decode cX1_wearAllShown 74 = .ok (.ifCond .eq 6, 3) := by decide +kernel
theorem dX1_wearAllShown_77 : decode cX1_wearAllShown 77 = .ok (.iinc 4 1, 3) := by decide +kernel
theorem dX1_wearAllShown_80 : decode cX1_wearAllShown 80 = .ok (.iinc 5 1, 3) := by decide +kernel
theorem dX1_wearAllShown_83 : decode cX1_wearAllShown 83 = .ok (.goto (-77), 3) := by decide +kernel
theorem dX1_wearAllShown_86 : decode cX1_wearAllShown 86 = .ok (.iload 4, 2) := by decide +kernel
theorem dX1_wearAllShown_88 : decode cX1_wearAllShown 88 = .ok (.ireturn, 1) := by decide +kernel
set_option maxRecDepth 20000 in
theorem ggX1_tourWithAll_X0_tourDay : GoodIn wsX1_tourWithAll wsX0_tourDay := goodIn_r _ [9, 10, 11, 12, 13, 14, 15, 16, 17, 18, 19, 20, 21, 22, 8, 23, 24, 25, 26, 27, 28, 29, 30, 31, 32, 33, 34, 35, 36, 37, 49, 50, 51, 52, 53, 54, 55, 56, 57, 58, 59, 60, 61, 62, 63, 64, 65, 66, 67] (by decide +kernel) (by decide +kernel)
set_option maxRecDepth 20000 in
theorem gX1_tourWithAll_X0_tourDay : GoodIn wsX1_tourWithAll (wsV RX1 161 RX0 yX0_tourDay wsX0_tourDay) := goodIn_app (goodIn_of _ (by decide +kernel)) ggX1_tourWithAll_X0_tourDay
theorem dX1_tourWithAll_0 : decode cX1_tourWithAll 0 = .ok (.iconst 0, 1) := by decide +kernel
theorem dX1_tourWithAll_1 : decode cX1_tourWithAll 1 = .ok (.istore_n 1, 1) := by decide +kernel
theorem dX1_tourWithAll_2 : decode cX1_tourWithAll 2 = .ok (.iload_n 1, 1) := by decide +kernel
theorem dX1_tourWithAll_3 : decode cX1_tourWithAll 3 = .ok (.aload_n 0, 1) := by decide +kernel
theorem dX1_tourWithAll_4 : decode cX1_tourWithAll 4 = .ok (.getfield 49, 3) := by decide +kernel
theorem dX1_tourWithAll_7 : decode cX1_tourWithAll 7 = .ok (.if_icmp .ge 41, 3) := by decide +kernel
theorem dX1_tourWithAll_10 : decode cX1_tourWithAll 10 = .ok (.aload_n 0, 1) := by decide +kernel
theorem dX1_tourWithAll_11 : decode cX1_tourWithAll 11 = .ok (.getfield 22, 3) := by decide +kernel
theorem dX1_tourWithAll_14 : decode cX1_tourWithAll 14 = .ok (.iload_n 1, 1) := by decide +kernel
theorem dX1_tourWithAll_15 : decode cX1_tourWithAll 15 = .ok (.aaload, 1) := by decide +kernel
theorem dX1_tourWithAll_16 : decode cX1_tourWithAll 16 = .ok (.getfield 107, 3) := by decide +kernel
theorem dX1_tourWithAll_19 : decode cX1_tourWithAll 19 = .ok (.bipush 6, 2) := by decide +kernel
theorem dX1_tourWithAll_21 : decode cX1_tourWithAll 21 = .ok (.if_icmp .ne 21, 3) := by decide +kernel
theorem dX1_tourWithAll_24 : decode cX1_tourWithAll 24 = .ok (.aload_n 0, 1) := by decide +kernel
theorem dX1_tourWithAll_25 : decode cX1_tourWithAll 25 = .ok (.dup, 1) := by decide +kernel
theorem dX1_tourWithAll_26 : decode cX1_tourWithAll 26 = .ok (.getfield 36, 3) := by decide +kernel
theorem dX1_tourWithAll_29 : decode cX1_tourWithAll 29 = .ok (.aload_n 0, 1) := by decide +kernel
theorem dX1_tourWithAll_30 : decode cX1_tourWithAll 30 = .ok (.getfield 22, 3) := by decide +kernel
theorem dX1_tourWithAll_33 : decode cX1_tourWithAll 33 = .ok (.iload_n 1, 1) := by decide +kernel
theorem dX1_tourWithAll_34 : decode cX1_tourWithAll 34 = .ok (.aaload, 1) := by decide +kernel
theorem dX1_tourWithAll_35 : decode cX1_tourWithAll 35 = .ok (.invokevirtual 161, 3) := by decide +kernel
theorem dX1_tourWithAll_38 : decode cX1_tourWithAll 38 = .ok (.iadd, 1) := by decide +kernel
theorem dX1_tourWithAll_39 : decode cX1_tourWithAll 39 = .ok (.putfield 36, 3) := by decide +kernel
theorem dX1_tourWithAll_42 : decode cX1_tourWithAll 42 = .ok (.iinc 1 1, 3) := by decide +kernel
theorem dX1_tourWithAll_45 : decode cX1_tourWithAll 45 = .ok (.goto (-43), 3) := by decide +kernel
theorem dX1_tourWithAll_48 : decode cX1_tourWithAll 48 = .ok (.return_, 1) := by decide +kernel
theorem dX2_init_0 : decode cX2_init 0 = .ok (.aload_n 0, 1) := by decide +kernel
theorem dX2_init_1 : decode cX2_init 1 = .ok (.invokespecial 3, 3) := by decide +kernel
theorem dX2_init_4 : decode cX2_init 4 = .ok (.aload_n 0, 1) := by decide +kernel
theorem dX2_init_5 : decode cX2_init 5 = .ok (.iload_n 1, 1) := by decide +kernel
theorem dX2_init_6 : decode cX2_init 6 = .ok (.putfield 9, 3) := by decide +kernel
theorem dX2_init_9 : decode cX2_init 9 = .ok (.aload_n 0, 1) := by decide +kernel
theorem dX2_init_10 : decode cX2_init 10 = .ok (.iconst 3, 1) := by decide +kernel
theorem dX2_init_11 : decode cX2_init 11 = .ok (.newarray .int, 2) := by decide +kernel
theorem dX2_init_13 : decode cX2_init 13 = .ok (.putfield 15, 3) := by decide +kernel
theorem dX2_init_16 : decode cX2_init 16 = .ok (.aload_n 0, 1) := by decide +kernel
theorem dX2_init_17 : decode cX2_init 17 = .ok (.iconst 3, 1) := by decide +kernel
theorem dX2_init_18 : decode cX2_init 18 = .ok (.newarray .int, 2) := by decide +kernel
theorem dX2_init_20 : decode cX2_init 20 = .ok (.putfield 19, 3) := by decide +kernel
theorem dX2_init_23 : decode cX2_init 23 = .ok (.aload_n 0, 1) := by decide +kernel
theorem dX2_init_24 : decode cX2_init 24 = .ok (.bipush 6, 2) := by decide +kernel
theorem dX2_init_26 : decode cX2_init 26 = .ok (.newarray .int, 2) := by decide +kernel
theorem dX2_init_28 : decode cX2_init 28 = .ok (.putfield 22, 3) := by decide +kernel
theorem dX2_init_31 : decode cX2_init 31 = .ok (.aload_n 0, 1) := by decide +kernel
theorem dX2_init_32 : decode cX2_init 32 = .ok (.bipush 6, 2) := by decide +kernel
theorem dX2_init_34 : decode cX2_init 34 = .ok (.newarray .int, 2) := by decide +kernel
theorem dX2_init_36 : decode cX2_init 36 = .ok (.putfield 25, 3) := by decide +kernel
theorem dX2_init_39 : decode cX2_init 39 = .ok (.iconst 0, 1) := by decide +kernel
theorem dX2_init_40 : decode cX2_init 40 = .ok (.istore_n 2, 1) := by decide +kernel
theorem dX2_init_41 : decode cX2_init 41 = .ok (.iload_n 2, 1) := by decide +kernel
theorem dX2_init_42 : decode cX2_init 42 = .ok (.bipush 6, 2) := by decide +kernel
theorem dX2_init_44 : decode cX2_init 44 = .ok (.if_icmp .ge 17, 3) := by decide +kernel
theorem dX2_init_47 : decode cX2_init 47 = .ok (.aload_n 0, 1) := by decide +kernel
theorem dX2_init_48 : decode cX2_init 48 = .ok (.getfield 25, 3) := by decide +kernel
theorem dX2_init_51 : decode cX2_init 51 = .ok (.iload_n 2, 1) := by decide +kernel
theorem dX2_init_52 : decode cX2_init 52 = .ok (.bipush 99, 2) := by decide +kernel
theorem dX2_init_54 : decode cX2_init 54 = .ok (.iastore, 1) := by decide +kernel
theorem dX2_init_55 : decode cX2_init 55 = .ok (.iinc 2 1, 3) := by decide +kernel
theorem dX2_init_58 : decode cX2_init 58 = .ok (.goto (-17), 3) := by decide +kernel
theorem dX2_init_61 : decode cX2_init 61 = .ok (.return_, 1) := by decide +kernel
theorem dX2_copyFrom_0 : decode cX2_copyFrom 0 = .ok (.iconst 0, 1) := by decide +kernel
theorem dX2_copyFrom_1 : decode cX2_copyFrom 1 = .ok (.istore_n 2, 1) := by decide +kernel
theorem dX2_copyFrom_2 : decode cX2_copyFrom 2 = .ok (.iload_n 2, 1) := by decide +kernel
theorem dX2_copyFrom_3 : decode cX2_copyFrom 3 = .ok (.iconst 3, 1) := by decide +kernel
theorem dX2_copyFrom_4 : decode cX2_copyFrom 4 = .ok (.if_icmp .ge 33, 3) := by decide +kernel
theorem dX2_copyFrom_7 : decode cX2_copyFrom 7 = .ok (.aload_n 0, 1) := by decide +kernel
theorem dX2_copyFrom_8 : decode cX2_copyFrom 8 = .ok (.getfield 15, 3) := by decide +kernel
theorem dX2_copyFrom_11 : decode cX2_copyFrom 11 = .ok (.iload_n 2, 1) := by decide +kernel
theorem dX2_copyFrom_12 : decode cX2_copyFrom 12 = .ok (.aload_n 1, 1) := by decide +kernel
theorem dX2_copyFrom_13 : decode cX2_copyFrom 13 = .ok (.getfield 15, 3) := by decide +kernel
theorem dX2_copyFrom_16 : decode cX2_copyFrom 16 = .ok (.iload_n 2, 1) := by decide +kernel
theorem dX2_copyFrom_17 : decode cX2_copyFrom 17 = .ok (.iaload, 1) := by decide +kernel
theorem dX2_copyFrom_18 : decode cX2_copyFrom 18 = .ok (.iastore, 1) := by decide +kernel
theorem dX2_copyFrom_19 : decode cX2_copyFrom 19 = .ok (.aload_n 0, 1) := by decide +kernel
theorem dX2_copyFrom_20 : decode cX2_copyFrom 20 = .ok (.getfield 19, 3) := by decide +kernel
theorem dX2_copyFrom_23 : decode cX2_copyFrom 23 = .ok (.iload_n 2, 1) := by decide +kernel
theorem dX2_copyFrom_24 : decode cX2_copyFrom 24 = .ok (.aload_n 1, 1) := by decide +kernel
theorem dX2_copyFrom_25 : decode cX2_copyFrom 25 = .ok (.getfield 19, 3) := by decide +kernel
theorem dX2_copyFrom_28 : decode cX2_copyFrom 28 = .ok (.iload_n 2, 1) := by decide +kernel
theorem dX2_copyFrom_29 : decode cX2_copyFrom 29 = .ok (.iaload, 1) := by decide +kernel
theorem dX2_copyFrom_30 : decode cX2_copyFrom 30 = .ok (.iastore, 1) := by decide +kernel
theorem dX2_copyFrom_31 : decode cX2_copyFrom 31 = .ok (.iinc 2 1, 3) := by decide +kernel
theorem dX2_copyFrom_34 : decode cX2_copyFrom 34 = .ok (.goto (-32), 3) := by decide +kernel
theorem dX2_copyFrom_37 : decode cX2_copyFrom 37 = .ok (.iconst 0, 1) := by decide +kernel
theorem dX2_copyFrom_38 : decode cX2_copyFrom 38 = .ok (.istore_n 2, 1) := by decide +kernel
theorem dX2_copyFrom_39 : decode cX2_copyFrom 39 = .ok (.iload_n 2, 1) := by decide +kernel
theorem dX2_copyFrom_40 : decode cX2_copyFrom 40 = .ok (.bipush 6, 2) := by decide +kernel
theorem dX2_copyFrom_42 : decode cX2_copyFrom 42 = .ok (.if_icmp .ge 33, 3) := by decide +kernel
theorem dX2_copyFrom_45 : decode cX2_copyFrom 45 = .ok (.aload_n 0, 1) := by decide +kernel
theorem dX2_copyFrom_46 : decode cX2_copyFrom 46 = .ok (.getfield 22, 3) := by decide +kernel
theorem dX2_copyFrom_49 : decode cX2_copyFrom 49 = .ok (.iload_n 2, 1) := by decide +kernel
theorem dX2_copyFrom_50 : decode cX2_copyFrom 50 = .ok (.aload_n 1, 1) := by decide +kernel
theorem dX2_copyFrom_51 : decode cX2_copyFrom 51 = .ok (.getfield 22, 3) := by decide +kernel
theorem dX2_copyFrom_54 : decode cX2_copyFrom 54 = .ok (.iload_n 2, 1) := by decide +kernel
theorem dX2_copyFrom_55 : decode cX2_copyFrom 55 = .ok (.iaload, 1) := by decide +kernel
theorem dX2_copyFrom_56 : decode cX2_copyFrom 56 = .ok (.iastore, 1) := by decide +kernel
theorem dX2_copyFrom_57 : decode cX2_copyFrom 57 = .ok (.aload_n 0, 1) := by decide +kernel
theorem dX2_copyFrom_58 : decode cX2_copyFrom 58 = .ok (.getfield 25, 3) := by decide +kernel
theorem dX2_copyFrom_61 : decode cX2_copyFrom 61 = .ok (.iload_n 2, 1) := by decide +kernel
theorem dX2_copyFrom_62 : decode cX2_copyFrom 62 = .ok (.aload_n 1, 1) := by decide +kernel
theorem dX2_copyFrom_63 : decode cX2_copyFrom 63 = .ok (.getfield 25, 3) := by decide +kernel
theorem dX2_copyFrom_66 : decode cX2_copyFrom 66 = .ok (.iload_n 2, 1) := by decide +kernel
theorem dX2_copyFrom_67 : decode cX2_copyFrom 67 = .ok (.iaload, 1) := by decide +kernel
theorem dX2_copyFrom_68 : decode cX2_copyFrom 68 = .ok (.iastore, 1) := by decide +kernel
theorem dX2_copyFrom_69 : decode cX2_copyFrom 69 = .ok (.iinc 2 1, 3) := by decide +kernel
theorem dX2_copyFrom_72 : decode cX2_copyFrom 72 = .ok (.goto (-33), 3) := by decide +kernel
theorem dX2_copyFrom_75 : decode cX2_copyFrom 75 = .ok (.aload_n 0, 1) := by decide +kernel
theorem dX2_copyFrom_76 : decode cX2_copyFrom 76 = .ok (.aload_n 1, 1) := by decide +kernel
theorem dX2_copyFrom_77 : decode cX2_copyFrom 77 = .ok (.getfield 28, 3) := by decide +kernel
theorem dX2_copyFrom_80 : decode cX2_copyFrom 80 = .ok (.putfield 28, 3) := by decide +kernel
theorem dX2_copyFrom_83 : decode cX2_copyFrom 83 = .ok (.aload_n 0, 1) := by decide +kernel
theorem dX2_copyFrom_84 : decode cX2_copyFrom 84 = .ok (.aload_n 1, 1) := by decide +kernel
theorem dX2_copyFrom_85 : decode cX2_copyFrom 85 = .ok (.getfield 32, 3) := by decide +kernel
theorem dX2_copyFrom_88 : decode cX2_copyFrom 88 = .ok (.putfield 32, 3) := by decide +kernel
theorem dX2_copyFrom_91 : decode cX2_copyFrom 91 = .ok (.aload_n 0, 1) := by decide +kernel
theorem dX2_copyFrom_92 : decode cX2_copyFrom 92 = .ok (.aload_n 1, 1) := by decide +kernel
theorem dX2_copyFrom_93 : decode cX2_copyFrom 93 = .ok (.getfield 35, 3) := by decide +kernel
theorem dX2_copyFrom_96 : decode cX2_copyFrom 96 = .ok (.putfield 35, 3) := by decide +kernel
theorem dX2_copyFrom_99 : decode cX2_copyFrom 99 = .ok (.return_, 1) := by decide +kernel
set_option maxRecDepth 20000 in
theorem ggX2_changeFame_X2_heldFame : GoodIn wsX2_changeFame wsX2_heldFame := goodIn_r _ [5] (by decide +kernel) (by decide +kernel)
set_option maxRecDepth 20000 in
theorem gX2_changeFame_X2_heldFame : GoodIn wsX2_changeFame (va_wsS RX2 38 yX2_heldFame wsX2_heldFame) := goodIn_app (goodIn_of _ (by decide +kernel)) ggX2_changeFame_X2_heldFame
theorem dX2_changeFame_0 : decode cX2_changeFame 0 = .ok (.iconst 0, 1) := by decide +kernel
theorem dX2_changeFame_1 : decode cX2_changeFame 1 = .ok (.istore_n 2, 1) := by decide +kernel
theorem dX2_changeFame_2 : decode cX2_changeFame 2 = .ok (.iload_n 2, 1) := by decide +kernel
theorem dX2_changeFame_3 : decode cX2_changeFame 3 = .ok (.iconst 3, 1) := by decide +kernel
theorem dX2_changeFame_4 : decode cX2_changeFame 4 = .ok (.if_icmp .ge 26, 3) := by decide +kernel
theorem dX2_changeFame_7 : decode cX2_changeFame 7 = .ok (.aload_n 0, 1) := by decide +kernel
theorem dX2_changeFame_8 : decode cX2_changeFame 8 = .ok (.getfield 15, 3) := by decide +kernel
theorem dX2_changeFame_11 : decode cX2_changeFame 11 = .ok (.iload_n 2, 1) := by decide +kernel
theorem dX2_changeFame_12 : decode cX2_changeFame 12 = .ok (.aload_n 0, 1) := by decide +kernel
theorem dX2_changeFame_13 : decode cX2_changeFame 13 = .ok (.getfield 15, 3) := by decide +kernel
theorem dX2_changeFame_16 : decode cX2_changeFame 16 = .ok (.iload_n 2, 1) := by decide +kernel
theorem dX2_changeFame_17 : decode cX2_changeFame 17 = .ok (.iaload, 1) := by decide +kernel
theorem dX2_changeFame_18 : decode cX2_changeFame 18 = .ok (.iload_n 1, 1) := by decide +kernel
theorem dX2_changeFame_19 : decode cX2_changeFame 19 = .ok (.iadd, 1) := by decide +kernel
theorem dX2_changeFame_20 : decode cX2_changeFame 20 = .ok (.invokestatic 38, 3) := by decide +kernel
theorem dX2_changeFame_23 : decode cX2_changeFame 23 = .ok (.iastore, 1) := by decide +kernel
theorem dX2_changeFame_24 : decode cX2_changeFame 24 = .ok (.iinc 2 1, 3) := by decide +kernel
theorem dX2_changeFame_27 : decode cX2_changeFame 27 = .ok (.goto (-25), 3) := by decide +kernel
theorem dX2_changeFame_30 : decode cX2_changeFame 30 = .ok (.return_, 1) := by decide +kernel
set_option maxRecDepth 20000 in
theorem ggX2_beginMonth_X2_heldFame : GoodIn wsX2_beginMonth wsX2_heldFame := goodIn_r _ [6] (by decide +kernel) (by decide +kernel)
set_option maxRecDepth 20000 in
theorem gX2_beginMonth_X2_heldFame : GoodIn wsX2_beginMonth (va_wsS RX2 38 yX2_heldFame wsX2_heldFame) := goodIn_app (goodIn_of _ (by decide +kernel)) ggX2_beginMonth_X2_heldFame
set_option maxRecDepth 20000 in
theorem ggX2_beginMonth_X2_nearerToZero : GoodIn wsX2_beginMonth wsX2_nearerToZero := goodIn_r _ [9] (by decide +kernel) (by decide +kernel)
set_option maxRecDepth 20000 in
theorem gX2_beginMonth_X2_nearerToZero : GoodIn wsX2_beginMonth (va_wsS RX2 42 yX2_nearerToZero wsX2_nearerToZero) := goodIn_app (goodIn_of _ (by decide +kernel)) ggX2_beginMonth_X2_nearerToZero
theorem dX2_beginMonth_0 : decode cX2_beginMonth 0 = .ok (.iconst 0, 1) := by decide +kernel
theorem dX2_beginMonth_1 : decode cX2_beginMonth 1 = .ok (.istore_n 1, 1) := by decide +kernel
theorem dX2_beginMonth_2 : decode cX2_beginMonth 2 = .ok (.iload_n 1, 1) := by decide +kernel
theorem dX2_beginMonth_3 : decode cX2_beginMonth 3 = .ok (.iconst 3, 1) := by decide +kernel
theorem dX2_beginMonth_4 : decode cX2_beginMonth 4 = .ok (.if_icmp .ge 46, 3) := by decide +kernel
theorem dX2_beginMonth_7 : decode cX2_beginMonth 7 = .ok (.aload_n 0, 1) := by decide +kernel
theorem dX2_beginMonth_8 : decode cX2_beginMonth 8 = .ok (.getfield 15, 3) := by decide +kernel
theorem dX2_beginMonth_11 : decode cX2_beginMonth 11 = .ok (.iload_n 1, 1) := by decide +kernel
theorem dX2_beginMonth_12 : decode cX2_beginMonth 12 = .ok (.aload_n 0, 1) := by decide +kernel
theorem dX2_beginMonth_13 : decode cX2_beginMonth 13 = .ok (.getfield 15, 3) := by decide +kernel
theorem dX2_beginMonth_16 : decode cX2_beginMonth 16 = .ok (.iload_n 1, 1) := by decide +kernel
theorem dX2_beginMonth_17 : decode cX2_beginMonth 17 = .ok (.iaload, 1) := by decide +kernel
theorem dX2_beginMonth_18 : decode cX2_beginMonth 18 = .ok (.aload_n 0, 1) := by decide +kernel
theorem dX2_beginMonth_19 : decode cX2_beginMonth 19 = .ok (.getfield 19, 3) := by decide +kernel
theorem dX2_beginMonth_22 : decode cX2_beginMonth 22 = .ok (.iload_n 1, 1) := by decide +kernel
theorem dX2_beginMonth_23 : decode cX2_beginMonth 23 = .ok (.iaload, 1) := by decide +kernel
theorem dX2_beginMonth_24 : decode cX2_beginMonth 24 = .ok (.iadd, 1) := by decide +kernel
theorem dX2_beginMonth_25 : decode cX2_beginMonth 25 = .ok (.invokestatic 38, 3) := by decide +kernel
theorem dX2_beginMonth_28 : decode cX2_beginMonth 28 = .ok (.iastore, 1) := by decide +kernel
theorem dX2_beginMonth_29 : decode cX2_beginMonth 29 = .ok (.aload_n 0, 1) := by decide +kernel
theorem dX2_beginMonth_30 : decode cX2_beginMonth 30 = .ok (.getfield 19, 3) := by decide +kernel
theorem dX2_beginMonth_33 : decode cX2_beginMonth 33 = .ok (.iload_n 1, 1) := by decide +kernel
theorem dX2_beginMonth_34 : decode cX2_beginMonth 34 = .ok (.aload_n 0, 1) := by decide +kernel
theorem dX2_beginMonth_35 : decode cX2_beginMonth 35 = .ok (.getfield 19, 3) := by decide +kernel
theorem dX2_beginMonth_38 : decode cX2_beginMonth 38 = .ok (.iload_n 1, 1) := by decide +kernel
theorem dX2_beginMonth_39 : decode cX2_beginMonth 39 = .ok (.iaload, 1) := by decide +kernel
theorem dX2_beginMonth_40 : decode cX2_beginMonth 40 = .ok (.invokestatic 42, 3) := by decide +kernel
theorem dX2_beginMonth_43 : decode cX2_beginMonth 43 = .ok (.iastore, 1) := by decide +kernel
theorem dX2_beginMonth_44 : decode cX2_beginMonth 44 = .ok (.iinc 1 1, 3) := by decide +kernel
theorem dX2_beginMonth_47 : decode cX2_beginMonth 47 = .ok (.goto (-45), 3) := by decide +kernel
theorem dX2_beginMonth_50 : decode cX2_beginMonth 50 = .ok (.return_, 1) := by decide +kernel
set_option maxRecDepth 20000 in
theorem ggX2_fameBehind_X2_heldFame : GoodIn wsX2_fameBehind wsX2_heldFame := goodIn_r _ [6] (by decide +kernel) (by decide +kernel)
set_option maxRecDepth 20000 in
theorem gX2_fameBehind_X2_heldFame : GoodIn wsX2_fameBehind (va_wsS RX2 38 yX2_heldFame wsX2_heldFame) := goodIn_app (goodIn_of _ (by decide +kernel)) ggX2_fameBehind_X2_heldFame
set_option maxRecDepth 20000 in
theorem ggX2_fameBehind_X2_nearerToZero : GoodIn wsX2_fameBehind wsX2_nearerToZero := goodIn_r _ [9] (by decide +kernel) (by decide +kernel)
set_option maxRecDepth 20000 in
theorem gX2_fameBehind_X2_nearerToZero : GoodIn wsX2_fameBehind (va_wsS RX2 42 yX2_nearerToZero wsX2_nearerToZero) := goodIn_app (goodIn_of _ (by decide +kernel)) ggX2_fameBehind_X2_nearerToZero
theorem dX2_fameBehind_0 : decode cX2_fameBehind 0 = .ok (.aload_n 0, 1) := by decide +kernel
theorem dX2_fameBehind_1 : decode cX2_fameBehind 1 = .ok (.getfield 15, 3) := by decide +kernel
theorem dX2_fameBehind_4 : decode cX2_fameBehind 4 = .ok (.iload_n 1, 1) := by decide +kernel
theorem dX2_fameBehind_5 : decode cX2_fameBehind 5 = .ok (.iaload, 1) := by decide +kernel
theorem dX2_fameBehind_6 : decode cX2_fameBehind 6 = .ok (.istore_n 3, 1) := by decide +kernel
theorem dX2_fameBehind_7 : decode cX2_fameBehind 7 = .ok (.aload_n 0, 1) := by decide +kernel
theorem dX2_fameBehind_8 : decode cX2_fameBehind 8 = .ok (.getfield 19, 3) := by decide +kernel
theorem dX2_fameBehind_11 : decode cX2_fameBehind 11 = .ok (.iload_n 1, 1) := by decide +kernel
theorem dX2_fameBehind_12 : decode cX2_fameBehind 12 = .ok (.iaload, 1) := by decide +kernel
theorem dX2_fameBehind_13 : decode cX2_fameBehind 13 = .ok (.istore 4, 2) := by decide +kernel
theorem dX2_fameBehind_15 : decode cX2_fameBehind 15 = .ok (.iconst 0, 1) := by decide +kernel
theorem dX2_fameBehind_16 : decode cX2_fameBehind 16 = .ok (.istore 5, 2) := by decide +kernel
theorem dX2_fameBehind_18 : decode cX2_fameBehind 18 = .ok (.iload 5, 2) := by decide +kernel
theorem dX2_fameBehind_20 : decode cX2_fameBehind 20 = .ok (.iload_n 2, 1) := by decide +kernel
theorem dX2_fameBehind_21 : decode cX2_fameBehind 21 = .ok (.if_icmp .ge 24, 3) := by decide +kernel
theorem dX2_fameBehind_24 : decode cX2_fameBehind 24 = .ok (.iload_n 3, 1) := by decide +kernel
theorem dX2_fameBehind_25 : decode cX2_fameBehind 25 = .ok (.iload 4, 2) := by decide +kernel
theorem dX2_fameBehind_27 : decode cX2_fameBehind 27 = .ok (.iadd, 1) := by decide +kernel
theorem dX2_fameBehind_28 : decode cX2_fameBehind 28 = .ok (.invokestatic 38, 3) := by decide +kernel
theorem dX2_fameBehind_31 : decode cX2_fameBehind 31 = .ok (.istore_n 3, 1) := by decide +kernel
theorem dX2_fameBehind_32 : decode cX2_fameBehind 32 = .ok (.iload 4, 2) := by decide +kernel
theorem dX2_fameBehind_34 : decode cX2_fameBehind 34 = .ok (.invokestatic 42, 3) := by decide +kernel
theorem dX2_fameBehind_37 : decode cX2_fameBehind 37 = .ok (.istore 4, 2) := by decide +kernel
theorem dX2_fameBehind_39 : decode cX2_fameBehind 39 = .ok (.iinc 5 1, 3) := by decide +kernel
theorem dX2_fameBehind_42 : decode cX2_fameBehind 42 = .ok (.goto (-24), 3) := by decide +kernel
theorem dX2_fameBehind_45 : decode cX2_fameBehind 45 = .ok (.iload_n 3, 1) := by decide +kernel
theorem dX2_fameBehind_46 : decode cX2_fameBehind 46 = .ok (.ireturn, 1) := by decide +kernel
theorem dX2_heldFame_0 : decode cX2_heldFame 0 = .ok (.iload_n 0, 1) := by decide +kernel
theorem dX2_heldFame_1 : decode cX2_heldFame 1 = .ok (.ifCond .ge 7, 3) := by decide +kernel
theorem dX2_heldFame_4 : decode cX2_heldFame 4 = .ok (.iconst 0, 1) := by decide +kernel
theorem dX2_heldFame_5 : decode cX2_heldFame 5 = .ok (.goto 17, 3) := by decide +kernel
theorem dX2_heldFame_8 : decode cX2_heldFame 8 = .ok (.iload_n 0, 1) := by decide +kernel
theorem dX2_heldFame_9 : decode cX2_heldFame 9 = .ok (.sipush 999, 3) := by decide +kernel
theorem dX2_heldFame_12 : decode cX2_heldFame 12 = .ok (.if_icmp .le 9, 3) := by decide +kernel
theorem dX2_heldFame_15 : decode cX2_heldFame 15 = .ok (.sipush 999, 3) := by decide +kernel
theorem dX2_heldFame_18 : decode cX2_heldFame 18 = .ok (.goto 4, 3) := by decide +kernel
theorem dX2_heldFame_21 : decode cX2_heldFame 21 = .ok (.iload_n 0, 1) := by decide +kernel
theorem dX2_heldFame_22 : decode cX2_heldFame 22 = .ok (.ireturn, 1) := by decide +kernel
theorem dX2_nearerToZero_0 : decode cX2_nearerToZero 0 = .ok (.iload_n 0, 1) := by decide +kernel
theorem dX2_nearerToZero_1 : decode cX2_nearerToZero 1 = .ok (.ifCond .le 9, 3) := by decide +kernel
theorem dX2_nearerToZero_4 : decode cX2_nearerToZero 4 = .ok (.iload_n 0, 1) := by decide +kernel
theorem dX2_nearerToZero_5 : decode cX2_nearerToZero 5 = .ok (.iconst 1, 1) := by decide +kernel
theorem dX2_nearerToZero_6 : decode cX2_nearerToZero 6 = .ok (.isub, 1) := by decide +kernel
theorem dX2_nearerToZero_7 : decode cX2_nearerToZero 7 = .ok (.goto 14, 3) := by decide +kernel
theorem dX2_nearerToZero_10 : decode cX2_nearerToZero 10 = .ok (.iload_n 0, 1) := by decide +kernel
theorem dX2_nearerToZero_11 : decode cX2_nearerToZero 11 = .ok (.ifCond .ge 9, 3) := by decide +kernel
theorem dX2_nearerToZero_14 : decode cX2_nearerToZero 14 = .ok (.iload_n 0, 1) := by decide +kernel
theorem dX2_nearerToZero_15 : decode cX2_nearerToZero 15 = .ok (.iconst 1, 1) := by decide +kernel
theorem dX2_nearerToZero_16 : decode cX2_nearerToZero 16 = .ok (.iadd, 1) := by decide +kernel
theorem dX2_nearerToZero_17 : decode cX2_nearerToZero 17 = .ok (.goto 4, 3) := by decide +kernel
theorem dX2_nearerToZero_20 : decode cX2_nearerToZero 20 = .ok (.iconst 0, 1) := by decide +kernel
theorem dX2_nearerToZero_21 : decode cX2_nearerToZero 21 = .ok (.ireturn, 1) := by decide +kernel
theorem dX2_learn_0 : decode cX2_learn 0 = .ok (.aload_n 0, 1) := by decide +kernel
theorem dX2_learn_1 : decode cX2_learn 1 = .ok (.getfield 22, 3) := by decide +kernel
theorem dX2_learn_4 : decode cX2_learn 4 = .ok (.iload_n 1, 1) := by decide +kernel
theorem dX2_learn_5 : decode cX2_learn 5 = .ok (.iaload, 1) := by decide +kernel
theorem dX2_learn_6 : decode cX2_learn 6 = .ok (.iload_n 2, 1) := by decide +kernel
theorem dX2_learn_7 : decode cX2_learn 7 = .ok (.invokestatic 45, 3) := by decide +kernel
theorem dX2_learn_10 : decode cX2_learn 10 = .ok (.istore 4, 2) := by decide +kernel
theorem dX2_learn_12 : decode cX2_learn 12 = .ok (.aload_n 0, 1) := by decide +kernel
theorem dX2_learn_13 : decode cX2_learn 13 = .ok (.getfield 25, 3) := by decide +kernel
theorem dX2_learn_16 : decode cX2_learn 16 = .ok (.iload_n 1, 1) := by decide +kernel
theorem dX2_learn_17 : decode cX2_learn 17 = .ok (.iaload, 1) := by decide +kernel
theorem dX2_learn_18 : decode cX2_learn 18 = .ok (.iload_n 3, 1) := by decide +kernel
theorem dX2_learn_19 : decode cX2_learn 19 = .ok (.invokestatic 51, 3) := by decide +kernel
theorem dX2_learn_22 : decode cX2_learn 22 = .ok (.istore 5, 2) := by decide +kernel
theorem dX2_learn_24 : decode cX2_learn 24 = .ok (.iload 4, 2) := by decide +kernel
theorem dX2_learn_26 : decode cX2_learn 26 = .ok (.iload 5, 2) := by decide +kernel
theorem dX2_learn_28 : decode cX2_learn 28 = .ok (.if_icmp .le 7, 3) := by decide +kernel
theorem dX2_learn_31 : decode cX2_learn 31 = .ok (.iconst 1, 1) := by decide +kernel
theorem dX2_learn_32 : decode cX2_learn 32 = .ok (.goto 4, 3) := by decide +kernel
theorem dX2_learn_35 : decode cX2_learn 35 = .ok (.iconst 0, 1) := by decide +kernel
theorem dX2_learn_36 : decode cX2_learn 36 = .ok (.istore 6, 2) := by decide +kernel
theorem dX2_learn_38 : decode cX2_learn 38 = .ok (.aload_n 0, 1) := by decide +kernel
theorem dX2_learn_39 : decode cX2_learn 39 = .ok (.getfield 22, 3) := by decide +kernel
theorem dX2_learn_42 : decode cX2_learn 42 = .ok (.iload_n 1, 1) := by decide +kernel
theorem dX2_learn_43 : decode cX2_learn 43 = .ok (.iload 6, 2) := by decide +kernel
theorem dX2_learn_45 : decode cX2_learn 45 = .ok (.ifCond .eq 7, 3) := by decide +kernel
theorem dX2_learn_48 : decode cX2_learn 48 = .ok (.iload_n 2, 1) := by decide +kernel
theorem dX2_learn_49 : decode cX2_learn 49 = .ok (.goto 5, 3) := by decide +kernel
theorem dX2_learn_52 : decode cX2_learn 52 = .ok (.iload 4, 2) := by decide +kernel
theorem dX2_learn_54 : decode cX2_learn 54 = .ok (.iastore, 1) := by decide +kernel
theorem dX2_learn_55 : decode cX2_learn 55 = .ok (.aload_n 0, 1) := by decide +kernel
theorem dX2_learn_56 : decode cX2_learn 56 = .ok (.getfield 25, 3) := by decide +kernel
theorem dX2_learn_59 : decode cX2_learn 59 = .ok (.iload_n 1, 1) := by decide +kernel
theorem dX2_learn_60 : decode cX2_learn 60 = .ok (.iload 6, 2) := by decide +kernel
theorem dX2_learn_62 : decode cX2_learn 62 = .ok (.ifCond .eq 7, 3) := by decide +kernel
theorem dX2_learn_65 : decode cX2_learn 65 = .ok (.iload_n 3, 1) := by decide +kernel
theorem dX2_learn_66 : decode cX2_learn 66 = .ok (.goto 5, 3) := by decide +kernel
theorem dX2_learn_69 : decode cX2_learn 69 = .ok (.iload 5, 2) := by decide +kernel
theorem dX2_learn_71 : decode cX2_learn 71 = .ok (.iastore, 1) := by decide +kernel
theorem dX2_learn_72 : decode cX2_learn 72 = .ok (.aload_n 0, 1) := by decide +kernel
theorem dX2_learn_73 : decode cX2_learn 73 = .ok (.dup, 1) := by decide +kernel
theorem dX2_learn_74 : decode cX2_learn 74 = .ok (.getfield 35, 3) := by decide +kernel
theorem dX2_learn_77 : decode cX2_learn 77 = .ok (.iload 6, 2) := by decide +kernel
theorem dX2_learn_79 : decode cX2_learn 79 = .ok (.ifCond .eq 7, 3) := by decide +kernel
theorem dX2_learn_82 : decode cX2_learn 82 = .ok (.iconst 1, 1) := by decide +kernel
theorem dX2_learn_83 : decode cX2_learn 83 = .ok (.goto 4, 3) := by decide +kernel
theorem dX2_learn_86 : decode cX2_learn 86 = .ok (.iconst 0, 1) := by decide +kernel
theorem dX2_learn_87 : decode cX2_learn 87 = .ok (.iadd, 1) := by decide +kernel
theorem dX2_learn_88 : decode cX2_learn 88 = .ok (.putfield 35, 3) := by decide +kernel
theorem dX2_learn_91 : decode cX2_learn 91 = .ok (.return_, 1) := by decide +kernel
theorem dX2_doubt_0 : decode cX2_doubt 0 = .ok (.iconst 0, 1) := by decide +kernel
theorem dX2_doubt_1 : decode cX2_doubt 1 = .ok (.istore_n 1, 1) := by decide +kernel
theorem dX2_doubt_2 : decode cX2_doubt 2 = .ok (.iconst 0, 1) := by decide +kernel
theorem dX2_doubt_3 : decode cX2_doubt 3 = .ok (.istore_n 2, 1) := by decide +kernel
theorem dX2_doubt_4 : decode cX2_doubt 4 = .ok (.iload_n 2, 1) := by decide +kernel
theorem dX2_doubt_5 : decode cX2_doubt 5 = .ok (.bipush 6, 2) := by decide +kernel
theorem dX2_doubt_7 : decode cX2_doubt 7 = .ok (.if_icmp .ge 25, 3) := by decide +kernel
theorem dX2_doubt_10 : decode cX2_doubt 10 = .ok (.iload_n 1, 1) := by decide +kernel
theorem dX2_doubt_11 : decode cX2_doubt 11 = .ok (.aload_n 0, 1) := by decide +kernel
theorem dX2_doubt_12 : decode cX2_doubt 12 = .ok (.getfield 25, 3) := by decide +kernel
theorem dX2_doubt_15 : decode cX2_doubt 15 = .ok (.iload_n 2, 1) := by decide +kernel
theorem dX2_doubt_16 : decode cX2_doubt 16 = .ok (.iaload, 1) := by decide +kernel
theorem dX2_doubt_17 : decode cX2_doubt 17 = .ok (.aload_n 0, 1) := by decide +kernel
theorem dX2_doubt_18 : decode cX2_doubt 18 = .ok (.getfield 22, 3) := by decide +kernel
theorem dX2_doubt_21 : decode cX2_doubt 21 = .ok (.iload_n 2, 1) := by decide +kernel
theorem dX2_doubt_22 : decode cX2_doubt 22 = .ok (.iaload, 1) := by decide +kernel
theorem dX2_doubt_23 : decode cX2_doubt 23 = .ok (.isub, 1) := by decide +kernel
theorem dX2_doubt_24 : decode cX2_doubt 24 = .ok (.iadd, 1) := by decide +kernel
theorem dX2_doubt_25 : decode cX2_doubt 25 = .ok (.istore_n 1, 1) := by decide +kernel
theorem dX2_doubt_26 : decode cX2_doubt 26 = .ok (.iinc 2 1, 3) := by decide +kernel
theorem dX2_doubt_29 : decode cX2_doubt 29 = .ok (.goto (-25), 3) := by decide +kernel
theorem dX2_doubt_32 : decode cX2_doubt 32 = .ok (.iload_n 1, 1) := by decide +kernel
theorem dX2_doubt_33 : decode cX2_doubt 33 = .ok (.bipush 6, 2) := by decide +kernel
theorem dX2_doubt_35 : decode cX2_doubt 35 = .ok (.idiv, 1) := by decide +kernel
theorem dX2_doubt_36 : decode cX2_doubt 36 = .ok (.ireturn, 1) := by decide +kernel
theorem dX2_doubleHeight_0 : decode cX2_doubleHeight 0 = .ok (.aload_n 0, 1) := by decide +kernel
theorem dX2_doubleHeight_1 : decode cX2_doubleHeight 1 = .ok (.getfield 22, 3) := by decide +kernel
theorem dX2_doubleHeight_4 : decode cX2_doubleHeight 4 = .ok (.iconst 5, 1) := by decide +kernel
theorem dX2_doubleHeight_5 : decode cX2_doubleHeight 5 = .ok (.iaload, 1) := by decide +kernel
theorem dX2_doubleHeight_6 : decode cX2_doubleHeight 6 = .ok (.aload_n 0, 1) := by decide +kernel
theorem dX2_doubleHeight_7 : decode cX2_doubleHeight 7 = .ok (.getfield 25, 3) := by decide +kernel
theorem dX2_doubleHeight_10 : decode cX2_doubleHeight 10 = .ok (.iconst 5, 1) := by decide +kernel
theorem dX2_doubleHeight_11 : decode cX2_doubleHeight 11 = .ok (.iaload, 1) := by decide +kernel
theorem dX2_doubleHeight_12 : decode cX2_doubleHeight 12 = .ok (.iadd, 1) := by decide +kernel
theorem dX2_doubleHeight_13 : decode cX2_doubleHeight 13 = .ok (.ireturn, 1) := by decide +kernel
theorem dX3_init_0 : decode cX3_init 0 = .ok (.aload_n 0, 1) := by decide +kernel
theorem dX3_init_1 : decode cX3_init 1 = .ok (.invokespecial 1, 3) := by decide +kernel
theorem dX3_init_4 : decode cX3_init 4 = .ok (.return_, 1) := by decide +kernel
set_option maxRecDepth 20000 in
theorem ggX4_init_X1_init : GoodIn wsX4_init wsX1_init := goodIn_r _ [11, 12, 2, 3, 13, 14, 15, 16, 17, 18, 19, 20, 21, 22, 23, 24, 25, 26, 27, 28, 29, 30, 31, 32, 33, 34, 35, 36, 37, 38, 39, 40, 41, 42, 43, 44, 45, 46, 47, 48, 49, 50, 51, 52, 53, 54, 55, 56, 57, 58, 61, 62, 63, 64, 65, 66, 67, 68, 69, 70, 71, 72, 73, 74, 75, 76, 77, 78, 79, 80, 81] (by decide +kernel) (by decide +kernel)
set_option maxRecDepth 20000 in
theorem gX4_init_X1_init : GoodIn wsX4_init (wsX1_init) := ggX4_init_X1_init
theorem dX4_init_0 : decode cX4_init 0 = .ok (.aload_n 0, 1) := by decide +kernel
theorem dX4_init_1 : decode cX4_init 1 = .ok (.invokespecial 1, 3) := by decide +kernel
theorem dX4_init_4 : decode cX4_init 4 = .ok (.aload_n 0, 1) := by decide +kernel
theorem dX4_init_5 : decode cX4_init 5 = .ok (.new 7, 3) := by decide +kernel
theorem dX4_init_8 : decode cX4_init 8 = .ok (.dup, 1) := by decide +kernel
theorem dX4_init_9 : decode cX4_init 9 = .ok (.invokespecial 9, 3) := by decide +kernel
theorem dX4_init_12 : decode cX4_init 12 = .ok (.putfield 10, 3) := by decide +kernel
theorem dX4_init_15 : decode cX4_init 15 = .ok (.aload_n 0, 1) := by decide +kernel
theorem dX4_init_16 : decode cX4_init 16 = .ok (.new 7, 3) := by decide +kernel
theorem dX4_init_19 : decode cX4_init 19 = .ok (.dup, 1) := by decide +kernel
theorem dX4_init_20 : decode cX4_init 20 = .ok (.invokespecial 9, 3) := by decide +kernel
theorem dX4_init_23 : decode cX4_init 23 = .ok (.putfield 16, 3) := by decide +kernel
theorem dX4_init_26 : decode cX4_init 26 = .ok (.return_, 1) := by decide +kernel
set_option maxRecDepth 20000 in
theorem ggX4_person_X4_checkArgument : GoodIn wsX4_person wsX4_checkArgument := goodIn_ca (goodIn_r _ [6, 7, 8] (by decide +kernel) (by decide +kernel)) (goodIn_sub (fun _ h => List.mem_cons_of_mem _ (List.mem_append_left _ (List.mem_append_left _ (List.mem_append_right _ h)))) (by decide +kernel))
set_option maxRecDepth 20000 in
theorem gX4_person_X4_checkArgument : GoodIn wsX4_person (va_wsS RX4 19 yX4_checkArgument wsX4_checkArgument) := goodIn_app (goodIn_of _ (by decide +kernel)) ggX4_person_X4_checkArgument
set_option maxRecDepth 20000 in
theorem ggX4_person_X4_checkState : GoodIn wsX4_person wsX4_checkState := goodIn_ca (goodIn_r _ [11, 12, 13] (by decide +kernel) (by decide +kernel)) (goodIn_sub (fun _ h => List.mem_cons_of_mem _ (List.mem_append_left _ (List.mem_append_right _ h))) (by decide +kernel))
set_option maxRecDepth 20000 in
theorem gX4_person_X4_checkState : GoodIn wsX4_person (va_wsS RX4 27 yX4_checkState wsX4_checkState) := goodIn_app (goodIn_of _ (by decide +kernel)) ggX4_person_X4_checkState
set_option maxRecDepth 20000 in
theorem ggX4_person_X1_addPerson : GoodIn wsX4_person wsX1_addPerson := goodIn_ca (goodIn_r _ [18, 19, 20, 21, 22, 23, 17, 24, 25, 26, 5, 27, 28, 29, 32, 33, 34, 35, 36, 37, 38, 39, 40, 41, 42, 43, 44, 45, 46, 47, 48, 49, 50] (by decide +kernel) (by decide +kernel)) (goodIn_sub (fun _ h => List.mem_cons_of_mem _ (List.mem_append_right _ h)) (by decide +kernel))
set_option maxRecDepth 20000 in
theorem gX4_person_X1_addPerson : GoodIn wsX4_person (wsV RX4 31 RX1 yX1_addPerson wsX1_addPerson) := goodIn_app (goodIn_of _ (by decide +kernel)) ggX4_person_X1_addPerson
theorem dX4_person_0 : decode cX4_person 0 = .ok (.iload_n 1, 1) := by decide +kernel
theorem dX4_person_1 : decode cX4_person 1 = .ok (.iconst 0, 1) := by decide +kernel
theorem dX4_person_2 : decode cX4_person 2 = .ok (.sipush 999, 3) := by decide +kernel
theorem dX4_person_5 : decode cX4_person 5 = .ok (.invokestatic 19, 3) := by decide +kernel
theorem dX4_person_8 : decode cX4_person 8 = .ok (.iload_n 2, 1) := by decide +kernel
theorem dX4_person_9 : decode cX4_person 9 = .ok (.iconst 0, 1) := by decide +kernel
theorem dX4_person_10 : decode cX4_person 10 = .ok (.sipush 999, 3) := by decide +kernel
theorem dX4_person_13 : decode cX4_person 13 = .ok (.invokestatic 19, 3) := by decide +kernel
theorem dX4_person_16 : decode cX4_person 16 = .ok (.iload_n 3, 1) := by decide +kernel
theorem dX4_person_17 : decode cX4_person 17 = .ok (.iconst 0, 1) := by decide +kernel
theorem dX4_person_18 : decode cX4_person 18 = .ok (.sipush 999, 3) := by decide +kernel
theorem dX4_person_21 : decode cX4_person 21 = .ok (.invokestatic 19, 3) := by decide +kernel
theorem dX4_person_24 : decode cX4_person 24 = .ok (.aload_n 0, 1) := by decide +kernel
theorem dX4_person_25 : decode cX4_person 25 = .ok (.getfield 10, 3) := by decide +kernel
theorem dX4_person_28 : decode cX4_person 28 = .ok (.getfield 23, 3) := by decide +kernel
theorem dX4_person_31 : decode cX4_person 31 = .ok (.bipush 10, 2) := by decide +kernel
theorem dX4_person_33 : decode cX4_person 33 = .ok (.if_icmp .ge 7, 3) := by decide +kernel
theorem dX4_person_36 : decode cX4_person 36 = .ok (.iconst 1, 1) := by decide +kernel
theorem dX4_person_37 : decode cX4_person 37 = .ok (.goto 4, 3) := by decide +kernel
theorem dX4_person_40 : decode cX4_person 40 = .ok (.iconst 0, 1) := by decide +kernel
theorem dX4_person_41 : decode cX4_person 41 = .ok (.invokestatic 27, 3) := by decide +kernel
theorem dX4_person_44 : decode cX4_person 44 = .ok (.aload_n 0, 1) := by decide +kernel
theorem dX4_person_45 : decode cX4_person 45 = .ok (.getfield 10, 3) := by decide +kernel
theorem dX4_person_48 : decode cX4_person 48 = .ok (.iload_n 1, 1) := by decide +kernel
theorem dX4_person_49 : decode cX4_person 49 = .ok (.iload_n 2, 1) := by decide +kernel
theorem dX4_person_50 : decode cX4_person 50 = .ok (.iload_n 3, 1) := by decide +kernel
theorem dX4_person_51 : decode cX4_person 51 = .ok (.invokevirtual 31, 3) := by decide +kernel
theorem dX4_person_54 : decode cX4_person 54 = .ok (.ireturn, 1) := by decide +kernel
set_option maxRecDepth 20000 in
theorem ggX4_trend_X1_personAt : GoodIn wsX4_trend wsX1_personAt := goodIn_ca (goodIn_r _ [7, 8, 9, 10, 11, 12, 13, 14, 31, 32, 33, 34, 35, 36, 37, 38, 39, 40, 41] (by decide +kernel) (by decide +kernel)) (goodIn_sub (fun _ h => List.mem_cons_of_mem _ (List.mem_append_left _ (List.mem_append_right _ h))) (by decide +kernel))
set_option maxRecDepth 20000 in
theorem gX4_trend_X1_personAt : GoodIn wsX4_trend (wsV RX4 35 RX1 yX1_personAt wsX1_personAt) := goodIn_app (goodIn_of _ (by decide +kernel)) ggX4_trend_X1_personAt
set_option maxRecDepth 20000 in
theorem ggX4_trend_X4_checkIndex : GoodIn wsX4_trend wsX4_checkIndex := goodIn_ca (goodIn_r _ [12, 13, 14] (by decide +kernel) (by decide +kernel)) (goodIn_sub (fun _ h => List.mem_cons_of_mem _ (List.mem_append_left _ (List.mem_append_right _ h))) (by decide +kernel))
set_option maxRecDepth 20000 in
theorem gX4_trend_X4_checkIndex : GoodIn wsX4_trend (va_wsS RX4 39 yX4_checkIndex wsX4_checkIndex) := goodIn_app (goodIn_of _ (by decide +kernel)) ggX4_trend_X4_checkIndex
set_option maxRecDepth 20000 in
theorem ggX4_trend_X4_checkArgument : GoodIn wsX4_trend wsX4_checkArgument := goodIn_ca (goodIn_r _ [18, 19, 20] (by decide +kernel) (by decide +kernel)) (goodIn_sub (fun _ h => List.mem_cons_of_mem _ (List.mem_append_right _ h)) (by decide +kernel))
set_option maxRecDepth 20000 in
theorem gX4_trend_X4_checkArgument : GoodIn wsX4_trend (va_wsS RX4 19 yX4_checkArgument wsX4_checkArgument) := goodIn_app (goodIn_of _ (by decide +kernel)) ggX4_trend_X4_checkArgument
theorem dX4_trend_0 : decode cX4_trend 0 = .ok (.aload_n 0, 1) := by decide +kernel
theorem dX4_trend_1 : decode cX4_trend 1 = .ok (.getfield 10, 3) := by decide +kernel
theorem dX4_trend_4 : decode cX4_trend 4 = .ok (.iload_n 1, 1) := by decide +kernel
theorem dX4_trend_5 : decode cX4_trend 5 = .ok (.invokevirtual 35, 3) := by decide +kernel
theorem dX4_trend_8 : decode cX4_trend 8 = .ok (.astore 4, 2) := by decide +kernel
theorem dX4_trend_10 : decode cX4_trend 10 = .ok (.iload_n 2, 1) := by decide +kernel
theorem dX4_trend_11 : decode cX4_trend 11 = .ok (.iconst 3, 1) := by decide +kernel
theorem dX4_trend_12 : decode cX4_trend 12 = .ok (.invokestatic 39, 3) := by decide +kernel
theorem dX4_trend_15 : decode cX4_trend 15 = .ok (.iload_n 3, 1) := by decide +kernel
theorem dX4_trend_16 : decode cX4_trend 16 = .ok (.bipush (-40), 2) := by decide +kernel
theorem dX4_trend_18 : decode cX4_trend 18 = .ok (.bipush 40, 2) := by decide +kernel
theorem dX4_trend_20 : decode cX4_trend 20 = .ok (.invokestatic 19, 3) := by decide +kernel
theorem dX4_trend_23 : decode cX4_trend 23 = .ok (.aload 4, 2) := by decide +kernel
theorem dX4_trend_25 : decode cX4_trend 25 = .ok (.getfield 43, 3) := by decide +kernel
theorem dX4_trend_28 : decode cX4_trend 28 = .ok (.iload_n 2, 1) := by decide +kernel
theorem dX4_trend_29 : decode cX4_trend 29 = .ok (.iaload, 1) := by decide +kernel
theorem dX4_trend_30 : decode cX4_trend 30 = .ok (.istore 5, 2) := by decide +kernel
theorem dX4_trend_32 : decode cX4_trend 32 = .ok (.aload 4, 2) := by decide +kernel
theorem dX4_trend_34 : decode cX4_trend 34 = .ok (.getfield 43, 3) := by decide +kernel
theorem dX4_trend_37 : decode cX4_trend 37 = .ok (.iload_n 2, 1) := by decide +kernel
theorem dX4_trend_38 : decode cX4_trend 38 = .ok (.iload_n 3, 1) := by decide +kernel
theorem dX4_trend_39 : decode cX4_trend 39 = .ok (.iastore, 1) := by decide +kernel
theorem dX4_trend_40 : decode cX4_trend 40 = .ok (.iload 5, 2) := by decide +kernel
theorem dX4_trend_42 : decode cX4_trend 42 = .ok (.ireturn, 1) := by decide +kernel
set_option maxRecDepth 20000 in
theorem ggX4_news_X1_personAt : GoodIn wsX4_news wsX1_personAt := goodIn_ca (goodIn_r _ [7, 8, 9, 10, 11, 12, 13, 14, 39, 40, 41, 42, 43, 44, 45, 46, 47, 48, 49] (by decide +kernel) (by decide +kernel)) (goodIn_sub (fun _ h => List.mem_cons_of_mem _ (List.mem_append_left _ (List.mem_append_right _ h))) (by decide +kernel))
set_option maxRecDepth 20000 in
theorem gX4_news_X1_personAt : GoodIn wsX4_news (wsV RX4 35 RX1 yX1_personAt wsX1_personAt) := goodIn_app (goodIn_of _ (by decide +kernel)) ggX4_news_X1_personAt
set_option maxRecDepth 20000 in
theorem ggX4_news_X4_checkArgument : GoodIn wsX4_news wsX4_checkArgument := goodIn_ca (goodIn_r _ [17, 18, 19] (by decide +kernel) (by decide +kernel)) (goodIn_sub (fun _ h => List.mem_cons_of_mem _ (List.mem_append_right _ h)) (by decide +kernel))
set_option maxRecDepth 20000 in
theorem gX4_news_X4_checkArgument : GoodIn wsX4_news (va_wsS RX4 19 yX4_checkArgument wsX4_checkArgument) := goodIn_app (goodIn_of _ (by decide +kernel)) ggX4_news_X4_checkArgument
set_option maxRecDepth 20000 in
theorem ggX4_news_X2_changeFame : GoodIn wsX4_news wsX2_changeFame := goodIn_r _ [24, 25, 26, 27, 23, 28, 31, 32, 33, 34, 35, 36, 37, 38] (by decide +kernel) (by decide +kernel)
set_option maxRecDepth 20000 in
theorem gX4_news_X2_changeFame : GoodIn wsX4_news (wsV RX4 49 RX2 yX2_changeFame wsX2_changeFame) := goodIn_app (goodIn_of _ (by decide +kernel)) ggX4_news_X2_changeFame
theorem dX4_news_0 : decode cX4_news 0 = .ok (.aload_n 0, 1) := by decide +kernel
theorem dX4_news_1 : decode cX4_news 1 = .ok (.getfield 10, 3) := by decide +kernel
theorem dX4_news_4 : decode cX4_news 4 = .ok (.iload_n 1, 1) := by decide +kernel
theorem dX4_news_5 : decode cX4_news 5 = .ok (.invokevirtual 35, 3) := by decide +kernel
theorem dX4_news_8 : decode cX4_news 8 = .ok (.astore_n 3, 1) := by decide +kernel
theorem dX4_news_9 : decode cX4_news 9 = .ok (.iload_n 2, 1) := by decide +kernel
theorem dX4_news_10 : decode cX4_news 10 = .ok (.sipush (-500), 3) := by decide +kernel
theorem dX4_news_13 : decode cX4_news 13 = .ok (.sipush 500, 3) := by decide +kernel
theorem dX4_news_16 : decode cX4_news 16 = .ok (.invokestatic 19, 3) := by decide +kernel
theorem dX4_news_19 : decode cX4_news 19 = .ok (.aload_n 3, 1) := by decide +kernel
theorem dX4_news_20 : decode cX4_news 20 = .ok (.iload_n 2, 1) := by decide +kernel
theorem dX4_news_21 : decode cX4_news 21 = .ok (.invokevirtual 49, 3) := by decide +kernel
theorem dX4_news_24 : decode cX4_news 24 = .ok (.aload_n 3, 1) := by decide +kernel
theorem dX4_news_25 : decode cX4_news 25 = .ok (.getfield 53, 3) := by decide +kernel
theorem dX4_news_28 : decode cX4_news 28 = .ok (.iconst 0, 1) := by decide +kernel
theorem dX4_news_29 : decode cX4_news 29 = .ok (.iaload, 1) := by decide +kernel
theorem dX4_news_30 : decode cX4_news 30 = .ok (.ireturn, 1) := by decide +kernel
set_option maxRecDepth 20000 in
theorem ggX4_consent_X1_personAt : GoodIn wsX4_consent wsX1_personAt := goodIn_ca (goodIn_r _ [7, 8, 9, 10, 11, 12, 13, 14, 39, 40, 41, 42, 43, 44, 45, 46, 47, 48, 49] (by decide +kernel) (by decide +kernel)) (goodIn_sub (fun _ h => List.mem_cons_of_mem _ (List.mem_append_right _ h)) (by decide +kernel))
set_option maxRecDepth 20000 in
theorem gX4_consent_X1_personAt : GoodIn wsX4_consent (wsV RX4 35 RX1 yX1_personAt wsX1_personAt) := goodIn_app (goodIn_of _ (by decide +kernel)) ggX4_consent_X1_personAt
set_option maxRecDepth 20000 in
theorem ggX4_consent_X1_takeAllOf : GoodIn wsX4_consent wsX1_takeAllOf := goodIn_r _ [18, 19, 20, 21, 22, 23, 24, 25, 26, 27, 28, 39, 40, 41, 42, 43, 44, 45, 46, 47, 48, 49, 50, 51, 52, 53, 54, 55, 56, 57, 58, 59, 60] (by decide +kernel) (by decide +kernel)
set_option maxRecDepth 20000 in
theorem gX4_consent_X1_takeAllOf : GoodIn wsX4_consent (wsV RX4 60 RX1 yX1_takeAllOf wsX1_takeAllOf) := goodIn_app (goodIn_of _ (by decide +kernel)) ggX4_consent_X1_takeAllOf
theorem dX4_consent_0 : decode cX4_consent 0 = .ok (.aload_n 0, 1) := by decide +kernel
theorem dX4_consent_1 : decode cX4_consent 1 = .ok (.getfield 10, 3) := by decide +kernel
theorem dX4_consent_4 : decode cX4_consent 4 = .ok (.iload_n 1, 1) := by decide +kernel
theorem dX4_consent_5 : decode cX4_consent 5 = .ok (.invokevirtual 35, 3) := by decide +kernel
theorem dX4_consent_8 : decode cX4_consent 8 = .ok (.astore_n 3, 1) := by decide +kernel
theorem dX4_consent_9 : decode cX4_consent 9 = .ok (.aload_n 3, 1) := by decide +kernel
theorem dX4_consent_10 : decode cX4_consent 10 = .ok (.iload_n 2, 1) := by decide +kernel
theorem dX4_consent_11 : decode cX4_consent 11 = .ok (.putfield 56, 3) := by decide +kernel
theorem dX4_consent_14 : decode cX4_consent 14 = .ok (.iload_n 2, 1) := by decide +kernel
theorem dX4_consent_15 : decode cX4_consent 15 = .ok (.ifCond .eq 7, 3) := by decide +kernel
theorem dX4_consent_18 : decode cX4_consent 18 = .ok (.iconst 0, 1) := by decide +kernel
theorem dX4_consent_19 : decode cX4_consent 19 = .ok (.goto 11, 3) := by decide +kernel
theorem dX4_consent_22 : decode cX4_consent 22 = .ok (.aload_n 0, 1) := by decide +kernel
theorem dX4_consent_23 : decode cX4_consent 23 = .ok (.getfield 10, 3) := by decide +kernel
theorem dX4_consent_26 : decode cX4_consent 26 = .ok (.aload_n 3, 1) := by decide +kernel
theorem dX4_consent_27 : decode cX4_consent 27 = .ok (.invokevirtual 60, 3) := by decide +kernel
theorem dX4_consent_30 : decode cX4_consent 30 = .ok (.ireturn, 1) := by decide +kernel
set_option maxRecDepth 20000 in
theorem ggX4_measure_X1_personAt : GoodIn wsX4_measure wsX1_personAt := goodIn_ca (goodIn_r _ [15, 16, 17, 18, 19, 20, 21, 22, 49, 50, 51, 52, 53, 54, 55, 56, 57, 58, 59] (by decide +kernel) (by decide +kernel)) (goodIn_sub (fun _ h => List.mem_cons_of_mem _ (List.mem_append_left _ (List.mem_append_right _ h))) (by decide +kernel))
set_option maxRecDepth 20000 in
theorem gX4_measure_X1_personAt : GoodIn wsX4_measure (wsV RX4 35 RX1 yX1_personAt wsX1_personAt) := goodIn_app (goodIn_of _ (by decide +kernel)) ggX4_measure_X1_personAt
set_option maxRecDepth 20000 in
theorem ggX4_measure_X4_checkIndex : GoodIn wsX4_measure wsX4_checkIndex := goodIn_ca (goodIn_r _ [20, 21, 22] (by decide +kernel) (by decide +kernel)) (goodIn_sub (fun _ h => List.mem_cons_of_mem _ (List.mem_append_left _ (List.mem_append_right _ h))) (by decide +kernel))
set_option maxRecDepth 20000 in
theorem gX4_measure_X4_checkIndex : GoodIn wsX4_measure (va_wsS RX4 39 yX4_checkIndex wsX4_checkIndex) := goodIn_app (goodIn_of _ (by decide +kernel)) ggX4_measure_X4_checkIndex
set_option maxRecDepth 20000 in
theorem ggX4_measure_X4_checkArgument : GoodIn wsX4_measure wsX4_checkArgument := goodIn_ca (goodIn_r _ [26, 27, 28] (by decide +kernel) (by decide +kernel)) (goodIn_sub (fun _ h => List.mem_cons_of_mem _ (List.mem_append_right _ h)) (by decide +kernel))
set_option maxRecDepth 20000 in
theorem gX4_measure_X4_checkArgument : GoodIn wsX4_measure (va_wsS RX4 19 yX4_checkArgument wsX4_checkArgument) := goodIn_app (goodIn_of _ (by decide +kernel)) ggX4_measure_X4_checkArgument
set_option maxRecDepth 20000 in
theorem ggX4_measure_X2_learn : GoodIn wsX4_measure wsX2_learn := goodIn_r _ [33, 34, 35, 3, 4, 5, 36, 37, 7, 8, 38, 41, 42, 43, 44, 45, 46, 47, 48] (by decide +kernel) (by decide +kernel)
set_option maxRecDepth 20000 in
theorem gX4_measure_X2_learn : GoodIn wsX4_measure (wsV RX4 73 RX2 yX2_learn wsX2_learn) := goodIn_app (goodIn_of _ (by decide +kernel)) ggX4_measure_X2_learn
theorem dX4_measure_0 : decode cX4_measure 0 = .ok (.aload_n 0, 1) := by decide +kernel
theorem dX4_measure_1 : decode cX4_measure 1 = .ok (.getfield 10, 3) := by decide +kernel
theorem dX4_measure_4 : decode cX4_measure 4 = .ok (.iload_n 1, 1) := by decide +kernel
theorem dX4_measure_5 : decode cX4_measure 5 = .ok (.invokevirtual 35, 3) := by decide +kernel
theorem dX4_measure_8 : decode cX4_measure 8 = .ok (.astore 5, 2) := by decide +kernel
theorem dX4_measure_10 : decode cX4_measure 10 = .ok (.iload_n 2, 1) := by decide +kernel
theorem dX4_measure_11 : decode cX4_measure 11 = .ok (.bipush 6, 2) := by decide +kernel
theorem dX4_measure_13 : decode cX4_measure 13 = .ok (.invokestatic 39, 3) := by decide +kernel
theorem dX4_measure_16 : decode cX4_measure 16 = .ok (.iload_n 3, 1) := by decide +kernel
theorem dX4_measure_17 : decode cX4_measure 17 = .ok (.iconst 0, 1) := by decide +kernel
theorem dX4_measure_18 : decode cX4_measure 18 = .ok (.bipush 99, 2) := by decide +kernel
theorem dX4_measure_20 : decode cX4_measure 20 = .ok (.invokestatic 19, 3) := by decide +kernel
theorem dX4_measure_23 : decode cX4_measure 23 = .ok (.iload 4, 2) := by decide +kernel
theorem dX4_measure_25 : decode cX4_measure 25 = .ok (.iconst 0, 1) := by decide +kernel
theorem dX4_measure_26 : decode cX4_measure 26 = .ok (.bipush 20, 2) := by decide +kernel
theorem dX4_measure_28 : decode cX4_measure 28 = .ok (.invokestatic 19, 3) := by decide +kernel
theorem dX4_measure_31 : decode cX4_measure 31 = .ok (.aload 5, 2) := by decide +kernel
theorem dX4_measure_33 : decode cX4_measure 33 = .ok (.iload_n 2, 1) := by decide +kernel
theorem dX4_measure_34 : decode cX4_measure 34 = .ok (.iload_n 3, 1) := by decide +kernel
theorem dX4_measure_35 : decode cX4_measure 35 = .ok (.iload 4, 2) := by decide +kernel
theorem dX4_measure_37 : decode cX4_measure 37 = .ok (.isub, 1) := by decide +kernel
theorem dX4_measure_38 : decode cX4_measure 38 = .ok (.iconst 0, 1) := by decide +kernel
theorem dX4_measure_39 : decode cX4_measure 39 = .ok (.invokestatic 64, 3) := by decide +kernel
theorem dX4_measure_42 : decode cX4_measure 42 = .ok (.iload_n 3, 1) := by decide +kernel
theorem dX4_measure_43 : decode cX4_measure 43 = .ok (.iload 4, 2) := by decide +kernel
theorem dX4_measure_45 : decode cX4_measure 45 = .ok (.iadd, 1) := by decide +kernel
theorem dX4_measure_46 : decode cX4_measure 46 = .ok (.bipush 99, 2) := by decide +kernel
theorem dX4_measure_48 : decode cX4_measure 48 = .ok (.invokestatic 70, 3) := by decide +kernel
theorem dX4_measure_51 : decode cX4_measure 51 = .ok (.invokevirtual 73, 3) := by decide +kernel
theorem dX4_measure_54 : decode cX4_measure 54 = .ok (.aload 5, 2) := by decide +kernel
theorem dX4_measure_56 : decode cX4_measure 56 = .ok (.getfield 76, 3) := by decide +kernel
theorem dX4_measure_59 : decode cX4_measure 59 = .ok (.iload_n 2, 1) := by decide +kernel
theorem dX4_measure_60 : decode cX4_measure 60 = .ok (.iaload, 1) := by decide +kernel
theorem dX4_measure_61 : decode cX4_measure 61 = .ok (.aload 5, 2) := by decide +kernel
theorem dX4_measure_63 : decode cX4_measure 63 = .ok (.getfield 79, 3) := by decide +kernel
theorem dX4_measure_66 : decode cX4_measure 66 = .ok (.iload_n 2, 1) := by decide +kernel
theorem dX4_measure_67 : decode cX4_measure 67 = .ok (.iaload, 1) := by decide +kernel
theorem dX4_measure_68 : decode cX4_measure 68 = .ok (.isub, 1) := by decide +kernel
theorem dX4_measure_69 : decode cX4_measure 69 = .ok (.ireturn, 1) := by decide +kernel
set_option maxRecDepth 20000 in
theorem ggX4_pay_X1_personAt : GoodIn wsX4_pay wsX1_personAt := goodIn_ca (goodIn_r _ [8, 9, 10, 11, 12, 13, 14, 15, 26, 27, 28, 29, 30, 31, 32, 33, 34, 35, 36] (by decide +kernel) (by decide +kernel)) (goodIn_sub (fun _ h => List.mem_cons_of_mem _ (List.mem_append_right _ h)) (by decide +kernel))
set_option maxRecDepth 20000 in
theorem gX4_pay_X1_personAt : GoodIn wsX4_pay (wsV RX4 35 RX1 yX1_personAt wsX1_personAt) := goodIn_app (goodIn_of _ (by decide +kernel)) ggX4_pay_X1_personAt
theorem dX4_pay_0 : decode cX4_pay 0 = .ok (.aload_n 0, 1) := by decide +kernel
theorem dX4_pay_1 : decode cX4_pay 1 = .ok (.getfield 10, 3) := by decide +kernel
theorem dX4_pay_4 : decode cX4_pay 4 = .ok (.iload_n 1, 1) := by decide +kernel
theorem dX4_pay_5 : decode cX4_pay 5 = .ok (.invokevirtual 35, 3) := by decide +kernel
theorem dX4_pay_8 : decode cX4_pay 8 = .ok (.astore_n 2, 1) := by decide +kernel
theorem dX4_pay_9 : decode cX4_pay 9 = .ok (.aload_n 2, 1) := by decide +kernel
theorem dX4_pay_10 : decode cX4_pay 10 = .ok (.getfield 82, 3) := by decide +kernel
theorem dX4_pay_13 : decode cX4_pay 13 = .ok (.istore_n 3, 1) := by decide +kernel
theorem dX4_pay_14 : decode cX4_pay 14 = .ok (.aload_n 2, 1) := by decide +kernel
theorem dX4_pay_15 : decode cX4_pay 15 = .ok (.iconst 0, 1) := by decide +kernel
theorem dX4_pay_16 : decode cX4_pay 16 = .ok (.putfield 82, 3) := by decide +kernel
theorem dX4_pay_19 : decode cX4_pay 19 = .ok (.aload_n 0, 1) := by decide +kernel
theorem dX4_pay_20 : decode cX4_pay 20 = .ok (.getfield 10, 3) := by decide +kernel
theorem dX4_pay_23 : decode cX4_pay 23 = .ok (.dup, 1) := by decide +kernel
theorem dX4_pay_24 : decode cX4_pay 24 = .ok (.getfield 85, 3) := by decide +kernel
theorem dX4_pay_27 : decode cX4_pay 27 = .ok (.iload_n 3, 1) := by decide +kernel
theorem dX4_pay_28 : decode cX4_pay 28 = .ok (.isub, 1) := by decide +kernel
theorem dX4_pay_29 : decode cX4_pay 29 = .ok (.putfield 85, 3) := by decide +kernel
theorem dX4_pay_32 : decode cX4_pay 32 = .ok (.iload_n 3, 1) := by decide +kernel
theorem dX4_pay_33 : decode cX4_pay 33 = .ok (.ireturn, 1) := by decide +kernel
set_option maxRecDepth 20000 in
theorem ggX4_figure_X1_personAt : GoodIn wsX4_figure wsX1_personAt := goodIn_ca (goodIn_r _ [7, 8, 9, 10, 11, 12, 13, 14, 34, 35, 36, 37, 38, 39, 40, 41, 42, 43, 44] (by decide +kernel) (by decide +kernel)) (goodIn_sub (fun _ h => List.mem_cons_of_mem _ (List.mem_append_left _ (List.mem_append_right _ h))) (by decide +kernel))
set_option maxRecDepth 20000 in
theorem gX4_figure_X1_personAt : GoodIn wsX4_figure (wsV RX4 35 RX1 yX1_personAt wsX1_personAt) := goodIn_app (goodIn_of _ (by decide +kernel)) ggX4_figure_X1_personAt
set_option maxRecDepth 20000 in
theorem ggX4_figure_X4_checkState : GoodIn wsX4_figure wsX4_checkState := goodIn_ca (goodIn_r _ [17, 18, 19] (by decide +kernel) (by decide +kernel)) (goodIn_sub (fun _ h => List.mem_cons_of_mem _ (List.mem_append_right _ h)) (by decide +kernel))
set_option maxRecDepth 20000 in
theorem gX4_figure_X4_checkState : GoodIn wsX4_figure (va_wsS RX4 27 yX4_checkState wsX4_checkState) := goodIn_app (goodIn_of _ (by decide +kernel)) ggX4_figure_X4_checkState
set_option maxRecDepth 20000 in
theorem ggX4_figure_X1_addFigure : GoodIn wsX4_figure wsX1_addFigure := goodIn_ca (goodIn_r _ [23, 24, 25, 26, 27, 28, 29, 6, 30, 31, 10, 11, 12, 13, 14, 34, 35, 36, 37, 38, 39, 40, 41, 42, 43, 44, 45, 46, 47, 48, 49, 50, 51, 52, 53, 54, 55] (by decide +kernel) (by decide +kernel)) (goodIn_sub (fun _ h => List.mem_cons_of_mem _ (List.mem_append_left _ (List.mem_append_right _ h))) (by decide +kernel))
set_option maxRecDepth 20000 in
theorem gX4_figure_X1_addFigure : GoodIn wsX4_figure (wsV RX4 91 RX1 yX1_addFigure wsX1_addFigure) := goodIn_app (goodIn_of _ (by decide +kernel)) ggX4_figure_X1_addFigure
theorem dX4_figure_0 : decode cX4_figure 0 = .ok (.aload_n 0, 1) := by decide +kernel
theorem dX4_figure_1 : decode cX4_figure 1 = .ok (.getfield 10, 3) := by decide +kernel
theorem dX4_figure_4 : decode cX4_figure 4 = .ok (.iload_n 1, 1) := by decide +kernel
theorem dX4_figure_5 : decode cX4_figure 5 = .ok (.invokevirtual 35, 3) := by decide +kernel
theorem dX4_figure_8 : decode cX4_figure 8 = .ok (.astore_n 2, 1) := by decide +kernel
theorem dX4_figure_9 : decode cX4_figure 9 = .ok (.aload_n 0, 1) := by decide +kernel
theorem dX4_figure_10 : decode cX4_figure 10 = .ok (.getfield 10, 3) := by decide +kernel
theorem dX4_figure_13 : decode cX4_figure 13 = .ok (.getfield 88, 3) := by decide +kernel
theorem dX4_figure_16 : decode cX4_figure 16 = .ok (.bipush 8, 2) := by decide +kernel
theorem dX4_figure_18 : decode cX4_figure 18 = .ok (.if_icmp .ge 7, 3) := by decide +kernel
theorem dX4_figure_21 : decode cX4_figure 21 = .ok (.iconst 1, 1) := by decide +kernel
theorem dX4_figure_22 : decode cX4_figure 22 = .ok (.goto 4, 3) := by decide +kernel
theorem dX4_figure_25 : decode cX4_figure 25 = .ok (.iconst 0, 1) := by decide +kernel
theorem dX4_figure_26 : decode cX4_figure 26 = .ok (.invokestatic 27, 3) := by decide +kernel
theorem dX4_figure_29 : decode cX4_figure 29 = .ok (.aload_n 0, 1) := by decide +kernel
theorem dX4_figure_30 : decode cX4_figure 30 = .ok (.getfield 10, 3) := by decide +kernel
theorem dX4_figure_33 : decode cX4_figure 33 = .ok (.aload_n 2, 1) := by decide +kernel
theorem dX4_figure_34 : decode cX4_figure 34 = .ok (.invokevirtual 91, 3) := by decide +kernel
theorem dX4_figure_37 : decode cX4_figure 37 = .ok (.ireturn, 1) := by decide +kernel
set_option maxRecDepth 20000 in
theorem ggX4_work_X1_figureAt : GoodIn wsX4_work wsX1_figureAt := goodIn_ca (goodIn_r _ [9, 10, 11, 12, 13, 14, 15, 16, 45, 46, 47, 48, 49, 50, 51, 52, 53, 54, 55] (by decide +kernel) (by decide +kernel)) (goodIn_sub (fun _ h => List.mem_cons_of_mem _ (List.mem_append_left _ (List.mem_append_left _ (List.mem_append_right _ h)))) (by decide +kernel))
set_option maxRecDepth 20000 in
theorem gX4_work_X1_figureAt : GoodIn wsX4_work (wsV RX4 94 RX1 yX1_figureAt wsX1_figureAt) := goodIn_app (goodIn_of _ (by decide +kernel)) ggX4_work_X1_figureAt
set_option maxRecDepth 20000 in
theorem ggX4_work_X4_checkArgument : GoodIn wsX4_work wsX4_checkArgument := goodIn_ca (goodIn_r _ [19, 20, 21] (by decide +kernel) (by decide +kernel)) (goodIn_sub (fun _ h => List.mem_cons_of_mem _ (List.mem_append_left _ (List.mem_append_right _ h))) (by decide +kernel))
set_option maxRecDepth 20000 in
theorem gX4_work_X4_checkArgument : GoodIn wsX4_work (va_wsS RX4 19 yX4_checkArgument wsX4_checkArgument) := goodIn_app (goodIn_of _ (by decide +kernel)) ggX4_work_X4_checkArgument
set_option maxRecDepth 20000 in
theorem ggX4_work_X1_allHands : GoodIn wsX4_work wsX1_allHands := goodIn_r _ [25, 10, 11, 26, 45, 46, 47, 48, 49, 50, 51, 52, 53, 54, 55, 34, 35, 36, 37, 38, 39, 40, 41, 42, 43, 44] (by decide +kernel) (by decide +kernel)
set_option maxRecDepth 20000 in
theorem gX4_work_X1_allHands : GoodIn wsX4_work (wsV RX4 98 RX1 yX1_allHands wsX1_allHands) := goodIn_app (goodIn_of _ (by decide +kernel)) ggX4_work_X1_allHands
set_option maxRecDepth 20000 in
theorem ggX4_work_X4_checkState : GoodIn wsX4_work wsX4_checkState := goodIn_ca (goodIn_r _ [29, 30, 31] (by decide +kernel) (by decide +kernel)) (goodIn_sub (fun _ h => List.mem_cons_of_mem _ (List.mem_append_right _ h)) (by decide +kernel))
set_option maxRecDepth 20000 in
theorem gX4_work_X4_checkState : GoodIn wsX4_work (va_wsS RX4 27 yX4_checkState wsX4_checkState) := goodIn_app (goodIn_of _ (by decide +kernel)) ggX4_work_X4_checkState
theorem dX4_work_0 : decode cX4_work 0 = .ok (.aload_n 0, 1) := by decide +kernel
theorem dX4_work_1 : decode cX4_work 1 = .ok (.getfield 10, 3) := by decide +kernel
theorem dX4_work_4 : decode cX4_work 4 = .ok (.iload_n 1, 1) := by decide +kernel
theorem dX4_work_5 : decode cX4_work 5 = .ok (.invokevirtual 94, 3) := by decide +kernel
theorem dX4_work_8 : decode cX4_work 8 = .ok (.astore_n 3, 1) := by decide +kernel
theorem dX4_work_9 : decode cX4_work 9 = .ok (.iload_n 2, 1) := by decide +kernel
theorem dX4_work_10 : decode cX4_work 10 = .ok (.iconst 0, 1) := by decide +kernel
theorem dX4_work_11 : decode cX4_work 11 = .ok (.bipush 9, 2) := by decide +kernel
theorem dX4_work_13 : decode cX4_work 13 = .ok (.invokestatic 19, 3) := by decide +kernel
theorem dX4_work_16 : decode cX4_work 16 = .ok (.aload_n 0, 1) := by decide +kernel
theorem dX4_work_17 : decode cX4_work 17 = .ok (.getfield 10, 3) := by decide +kernel
theorem dX4_work_20 : decode cX4_work 20 = .ok (.invokevirtual 98, 3) := by decide +kernel
theorem dX4_work_23 : decode cX4_work 23 = .ok (.aload_n 3, 1) := by decide +kernel
theorem dX4_work_24 : decode cX4_work 24 = .ok (.getfield 102, 3) := by decide +kernel
theorem dX4_work_27 : decode cX4_work 27 = .ok (.isub, 1) := by decide +kernel
theorem dX4_work_28 : decode cX4_work 28 = .ok (.iload_n 2, 1) := by decide +kernel
theorem dX4_work_29 : decode cX4_work 29 = .ok (.iadd, 1) := by decide +kernel
theorem dX4_work_30 : decode cX4_work 30 = .ok (.istore 4, 2) := by decide +kernel
theorem dX4_work_32 : decode cX4_work 32 = .ok (.aload_n 3, 1) := by decide +kernel
theorem dX4_work_33 : decode cX4_work 33 = .ok (.getfield 107, 3) := by decide +kernel
theorem dX4_work_36 : decode cX4_work 36 = .ok (.bipush 6, 2) := by decide +kernel
theorem dX4_work_38 : decode cX4_work 38 = .ok (.if_icmp .ge 23, 3) := by decide +kernel
theorem dX4_work_41 : decode cX4_work 41 = .ok (.aload_n 3, 1) := by decide +kernel
theorem dX4_work_42 : decode cX4_work 42 = .ok (.getfield 110, 3) := by decide +kernel
theorem dX4_work_45 : decode cX4_work 45 = .ok (.bipush 7, 2) := by decide +kernel
theorem dX4_work_47 : decode cX4_work 47 = .ok (.if_icmp .eq 14, 3) := by decide +kernel
theorem dX4_work_50 : decode cX4_work 50 = .ok (.iload 4, 2) := by decide +kernel
theorem dX4_work_52 : decode cX4_work 52 = .ok (.bipush 12, 2) := by decide +kernel
theorem dX4_work_54 : decode cX4_work 54 = .ok (.if_icmp .gt 7, 3) := by decide +kernel
theorem dX4_work_57 : decode cX4_work 57 = .ok (.iconst 1, 1) := by decide +kernel
theorem dX4_work_58 : decode cX4_work 58 = .ok (.goto 4, 3) := by decide +kernel
theorem dX4_work_61 : decode cX4_work 61 = .ok (.iconst 0, 1) := by decide +kernel
theorem dX4_work_62 : decode cX4_work 62 = .ok (.invokestatic 27, 3) := by decide +kernel
theorem dX4_work_65 : decode cX4_work 65 = .ok (.aload_n 3, 1) := by decide +kernel
theorem dX4_work_66 : decode cX4_work 66 = .ok (.iload_n 2, 1) := by decide +kernel
theorem dX4_work_67 : decode cX4_work 67 = .ok (.putfield 102, 3) := by decide +kernel
theorem dX4_work_70 : decode cX4_work 70 = .ok (.iload 4, 2) := by decide +kernel
theorem dX4_work_72 : decode cX4_work 72 = .ok (.ireturn, 1) := by decide +kernel
set_option maxRecDepth 20000 in
theorem ggX4_swap_X1_figureAt : GoodIn wsX4_swap wsX1_figureAt := goodIn_ca (goodIn_r _ [8, 9, 10, 11, 12, 13, 14, 15, 53, 54, 55, 56, 57, 58, 59, 60, 61, 62, 63] (by decide +kernel) (by decide +kernel)) (goodIn_sub (fun _ h => List.mem_cons_of_mem _ (List.mem_append_left _ (List.mem_append_right _ h))) (by decide +kernel))
set_option maxRecDepth 20000 in
theorem gX4_swap_X1_figureAt : GoodIn wsX4_swap (wsV RX4 94 RX1 yX1_figureAt wsX1_figureAt) := goodIn_app (goodIn_of _ (by decide +kernel)) ggX4_swap_X1_figureAt
set_option maxRecDepth 20000 in
theorem ggX4_swap_X0_isReadyInStore : GoodIn wsX4_swap wsX0_isReadyInStore := goodIn_r _ [20, 21, 22, 64, 65, 66, 67, 68, 69, 70, 71, 72, 73, 74] (by decide +kernel) (by decide +kernel)
set_option maxRecDepth 20000 in
theorem gX4_swap_X0_isReadyInStore : GoodIn wsX4_swap (wsV RX4 120 RX0 yX0_isReadyInStore wsX0_isReadyInStore) := goodIn_app (goodIn_of _ (by decide +kernel)) ggX4_swap_X0_isReadyInStore
set_option maxRecDepth 20000 in
theorem ggX4_swap_X4_checkState : GoodIn wsX4_swap wsX4_checkState := goodIn_ca (goodIn_r _ [25, 26, 27] (by decide +kernel) (by decide +kernel)) (goodIn_sub (fun _ h => List.mem_cons_of_mem _ (List.mem_append_right _ h)) (by decide +kernel))
set_option maxRecDepth 20000 in
theorem gX4_swap_X4_checkState : GoodIn wsX4_swap (va_wsS RX4 27 yX4_checkState wsX4_checkState) := goodIn_app (goodIn_of _ (by decide +kernel)) ggX4_swap_X4_checkState
set_option maxRecDepth 20000 in
theorem ggX4_swap_X0_swapHeadWith : GoodIn wsX4_swap wsX0_swapHeadWith := goodIn_r _ [31, 32, 33, 64, 65, 66, 67, 68, 69, 70, 71, 72, 73, 74] (by decide +kernel) (by decide +kernel)
set_option maxRecDepth 20000 in
theorem gX4_swap_X0_swapHeadWith : GoodIn wsX4_swap (wsV RX4 124 RX0 yX0_swapHeadWith wsX0_swapHeadWith) := goodIn_app (goodIn_of _ (by decide +kernel)) ggX4_swap_X0_swapHeadWith
set_option maxRecDepth 20000 in
theorem ggX4_swap_X0_likeness : GoodIn wsX4_swap wsX0_likeness := goodIn_r _ [37, 33, 38, 32, 39, 40, 41, 42, 19, 43, 21, 22, 44, 45, 46, 47, 48, 49, 50, 64, 65, 66, 67, 68, 69, 70, 71, 72, 73, 74, 75, 76, 77, 78, 79, 80, 81, 82] (by decide +kernel) (by decide +kernel)
set_option maxRecDepth 20000 in
theorem gX4_swap_X0_likeness : GoodIn wsX4_swap (wsV RX4 128 RX0 yX0_likeness wsX0_likeness) := goodIn_app (goodIn_of _ (by decide +kernel)) ggX4_swap_X0_likeness
theorem dX4_swap_0 : decode cX4_swap 0 = .ok (.aload_n 0, 1) := by decide +kernel
theorem dX4_swap_1 : decode cX4_swap 1 = .ok (.getfield 10, 3) := by decide +kernel
theorem dX4_swap_4 : decode cX4_swap 4 = .ok (.iload_n 1, 1) := by decide +kernel
theorem dX4_swap_5 : decode cX4_swap 5 = .ok (.invokevirtual 94, 3) := by decide +kernel
theorem dX4_swap_8 : decode cX4_swap 8 = .ok (.astore_n 3, 1) := by decide +kernel
theorem dX4_swap_9 : decode cX4_swap 9 = .ok (.aload_n 0, 1) := by decide +kernel
theorem dX4_swap_10 : decode cX4_swap 10 = .ok (.getfield 10, 3) := by decide +kernel
theorem dX4_swap_13 : decode cX4_swap 13 = .ok (.iload_n 2, 1) := by decide +kernel
theorem dX4_swap_14 : decode cX4_swap 14 = .ok (.invokevirtual 94, 3) := by decide +kernel
theorem dX4_swap_17 : decode cX4_swap 17 = .ok (.astore 4, 2) := by decide +kernel
theorem dX4_swap_19 : decode cX4_swap 19 = .ok (.iload_n 1, 1) := by decide +kernel
theorem dX4_swap_20 : decode cX4_swap 20 = .ok (.iload_n 2, 1) := by decide +kernel
theorem dX4_swap_21 : decode cX4_swap 21 = .ok (.if_icmp .ne 13, 3) := by decide +kernel
theorem dX4_swap_24 : decode cX4_swap 24 = .ok (.new 113, 3) := by decide +kernel
theorem dX4_swap_27 : decode cX4_swap 27 = .ok (.dup, 1) := by decide +kernel
theorem dX4_swap_28 : decode cX4_swap 28 = .ok (.ldc 115, 2) := by decide +kernel
theorem dX4_swap_30 : decode cX4_swap 30 = .ok (.invokespecial 117, 3) := by decide +kernel
theorem dX4_swap_33 : decode cX4_swap 33 = .ok (.athrow, 1) := by decide +kernel
theorem dX4_swap_34 : decode cX4_swap 34 = .ok (.aload_n 3, 1) := by decide +kernel
theorem dX4_swap_35 : decode cX4_swap 35 = .ok (.invokevirtual 120, 3) := by decide +kernel
theorem dX4_swap_38 : decode cX4_swap 38 = .ok (.ifCond .eq 15, 3) := by decide +kernel
theorem dX4_swap_41 : decode cX4_swap 41 = .ok (.aload 4, 2) := by decide +kernel
theorem dX4_swap_43 : decode cX4_swap 43 = .ok (.invokevirtual 120, 3) := by decide +kernel
theorem dX4_swap_46 : decode cX4_swap 46 = .ok (.ifCond .eq 7, 3) := by decide +kernel
theorem dX4_swap_49 : decode cX4_swap 49 = .ok (.iconst 1, 1) := by decide +kernel
theorem dX4_swap_50 : decode cX4_swap 50 = .ok (.goto 4, 3) := by decide +kernel
theorem dX4_swap_53 : decode cX4_swap 53 = .ok (.iconst 0, 1) := by decide +kernel
theorem dX4_swap_54 : decode cX4_swap 54 = .ok (.invokestatic 27, 3) := by decide +kernel
theorem dX4_swap_57 : decode cX4_swap 57 = .ok (.aload_n 3, 1) := by decide +kernel
theorem dX4_swap_58 : decode cX4_swap 58 = .ok (.aload 4, 2) := by decide +kernel
theorem dX4_swap_60 : decode cX4_swap 60 = .ok (.invokevirtual 124, 3) := by decide +kernel
theorem dX4_swap_63 : decode cX4_swap 63 = .ok (.aload_n 3, 1) := by decide +kernel
theorem dX4_swap_64 : decode cX4_swap 64 = .ok (.invokevirtual 128, 3) := by decide +kernel
theorem dX4_swap_67 : decode cX4_swap 67 = .ok (.ireturn, 1) := by decide +kernel
set_option maxRecDepth 20000 in
theorem ggX4_mend_X1_figureAt : GoodIn wsX4_mend wsX1_figureAt := goodIn_ca (goodIn_r _ [12, 13, 14, 15, 16, 17, 18, 19, 45, 46, 47, 48, 49, 50, 51, 52, 53, 54, 55] (by decide +kernel) (by decide +kernel)) (goodIn_sub (fun _ h => List.mem_cons_of_mem _ (List.mem_append_left _ (List.mem_append_right _ h))) (by decide +kernel))
set_option maxRecDepth 20000 in
theorem gX4_mend_X1_figureAt : GoodIn wsX4_mend (wsV RX4 94 RX1 yX1_figureAt wsX1_figureAt) := goodIn_app (goodIn_of _ (by decide +kernel)) ggX4_mend_X1_figureAt
set_option maxRecDepth 20000 in
theorem ggX4_mend_X0_isReadyInStore : GoodIn wsX4_mend wsX0_isReadyInStore := goodIn_r _ [24, 25, 26, 34, 35, 36, 37, 38, 39, 40, 41, 42, 43, 44] (by decide +kernel) (by decide +kernel)
set_option maxRecDepth 20000 in
theorem gX4_mend_X0_isReadyInStore : GoodIn wsX4_mend (wsV RX4 120 RX0 yX0_isReadyInStore wsX0_isReadyInStore) := goodIn_app (goodIn_of _ (by decide +kernel)) ggX4_mend_X0_isReadyInStore
set_option maxRecDepth 20000 in
theorem ggX4_mend_X4_checkState : GoodIn wsX4_mend wsX4_checkState := goodIn_ca (goodIn_r _ [29, 30, 31] (by decide +kernel) (by decide +kernel)) (goodIn_sub (fun _ h => List.mem_cons_of_mem _ (List.mem_append_right _ h)) (by decide +kernel))
set_option maxRecDepth 20000 in
theorem gX4_mend_X4_checkState : GoodIn wsX4_mend (va_wsS RX4 27 yX4_checkState wsX4_checkState) := goodIn_app (goodIn_of _ (by decide +kernel)) ggX4_mend_X4_checkState
theorem dX4_mend_0 : decode cX4_mend 0 = .ok (.aload_n 0, 1) := by decide +kernel
theorem dX4_mend_1 : decode cX4_mend 1 = .ok (.getfield 10, 3) := by decide +kernel
theorem dX4_mend_4 : decode cX4_mend 4 = .ok (.iload_n 1, 1) := by decide +kernel
theorem dX4_mend_5 : decode cX4_mend 5 = .ok (.invokevirtual 94, 3) := by decide +kernel
theorem dX4_mend_8 : decode cX4_mend 8 = .ok (.astore_n 2, 1) := by decide +kernel
theorem dX4_mend_9 : decode cX4_mend 9 = .ok (.aload_n 2, 1) := by decide +kernel
theorem dX4_mend_10 : decode cX4_mend 10 = .ok (.invokevirtual 120, 3) := by decide +kernel
theorem dX4_mend_13 : decode cX4_mend 13 = .ok (.invokestatic 27, 3) := by decide +kernel
theorem dX4_mend_16 : decode cX4_mend 16 = .ok (.aload_n 2, 1) := by decide +kernel
theorem dX4_mend_17 : decode cX4_mend 17 = .ok (.getfield 131, 3) := by decide +kernel
theorem dX4_mend_20 : decode cX4_mend 20 = .ok (.bipush 10, 2) := by decide +kernel
theorem dX4_mend_22 : decode cX4_mend 22 = .ok (.idiv, 1) := by decide +kernel
theorem dX4_mend_23 : decode cX4_mend 23 = .ok (.aload_n 0, 1) := by decide +kernel
theorem dX4_mend_24 : decode cX4_mend 24 = .ok (.getfield 10, 3) := by decide +kernel
theorem dX4_mend_27 : decode cX4_mend 27 = .ok (.getfield 134, 3) := by decide +kernel
theorem dX4_mend_30 : decode cX4_mend 30 = .ok (.bipush 10, 2) := by decide +kernel
theorem dX4_mend_32 : decode cX4_mend 32 = .ok (.idiv, 1) := by decide +kernel
theorem dX4_mend_33 : decode cX4_mend 33 = .ok (.invokestatic 70, 3) := by decide +kernel
theorem dX4_mend_36 : decode cX4_mend 36 = .ok (.istore_n 3, 1) := by decide +kernel
theorem dX4_mend_37 : decode cX4_mend 37 = .ok (.aload_n 2, 1) := by decide +kernel
theorem dX4_mend_38 : decode cX4_mend 38 = .ok (.dup, 1) := by decide +kernel
theorem dX4_mend_39 : decode cX4_mend 39 = .ok (.getfield 131, 3) := by decide +kernel
theorem dX4_mend_42 : decode cX4_mend 42 = .ok (.iload_n 3, 1) := by decide +kernel
theorem dX4_mend_43 : decode cX4_mend 43 = .ok (.bipush 10, 2) := by decide +kernel
theorem dX4_mend_45 : decode cX4_mend 45 = .ok (.imul, 1) := by decide +kernel
theorem dX4_mend_46 : decode cX4_mend 46 = .ok (.isub, 1) := by decide +kernel
theorem dX4_mend_47 : decode cX4_mend 47 = .ok (.putfield 131, 3) := by decide +kernel
theorem dX4_mend_50 : decode cX4_mend 50 = .ok (.aload_n 0, 1) := by decide +kernel
theorem dX4_mend_51 : decode cX4_mend 51 = .ok (.getfield 10, 3) := by decide +kernel
theorem dX4_mend_54 : decode cX4_mend 54 = .ok (.dup, 1) := by decide +kernel
theorem dX4_mend_55 : decode cX4_mend 55 = .ok (.getfield 134, 3) := by decide +kernel
theorem dX4_mend_58 : decode cX4_mend 58 = .ok (.iload_n 3, 1) := by decide +kernel
theorem dX4_mend_59 : decode cX4_mend 59 = .ok (.bipush 10, 2) := by decide +kernel
theorem dX4_mend_61 : decode cX4_mend 61 = .ok (.imul, 1) := by decide +kernel
theorem dX4_mend_62 : decode cX4_mend 62 = .ok (.isub, 1) := by decide +kernel
theorem dX4_mend_63 : decode cX4_mend 63 = .ok (.putfield 134, 3) := by decide +kernel
theorem dX4_mend_66 : decode cX4_mend 66 = .ok (.aload_n 2, 1) := by decide +kernel
theorem dX4_mend_67 : decode cX4_mend 67 = .ok (.getfield 131, 3) := by decide +kernel
theorem dX4_mend_70 : decode cX4_mend 70 = .ok (.ireturn, 1) := by decide +kernel
set_option maxRecDepth 20000 in
theorem ggX4_melt_X1_figureAt : GoodIn wsX4_melt wsX1_figureAt := goodIn_ca (goodIn_r _ [9, 10, 11, 12, 13, 14, 15, 16, 42, 43, 44, 45, 46, 47, 48, 49, 50, 51, 52] (by decide +kernel) (by decide +kernel)) (goodIn_sub (fun _ h => List.mem_cons_of_mem _ (List.mem_append_left _ (List.mem_append_right _ h))) (by decide +kernel))
set_option maxRecDepth 20000 in
theorem gX4_melt_X1_figureAt : GoodIn wsX4_melt (wsV RX4 94 RX1 yX1_figureAt wsX1_figureAt) := goodIn_app (goodIn_of _ (by decide +kernel)) ggX4_melt_X1_figureAt
set_option maxRecDepth 20000 in
theorem ggX4_melt_X4_checkState : GoodIn wsX4_melt wsX4_checkState := goodIn_ca (goodIn_r _ [19, 20, 21] (by decide +kernel) (by decide +kernel)) (goodIn_sub (fun _ h => List.mem_cons_of_mem _ (List.mem_append_right _ h)) (by decide +kernel))
set_option maxRecDepth 20000 in
theorem gX4_melt_X4_checkState : GoodIn wsX4_melt (va_wsS RX4 27 yX4_checkState wsX4_checkState) := goodIn_app (goodIn_of _ (by decide +kernel)) ggX4_melt_X4_checkState
set_option maxRecDepth 20000 in
theorem ggX4_melt_X0_becomeMelted : GoodIn wsX4_melt wsX0_becomeMelted := goodIn_r _ [26, 27, 28, 31, 32, 33, 34, 35, 36, 37, 38, 39, 40, 41] (by decide +kernel) (by decide +kernel)
set_option maxRecDepth 20000 in
theorem gX4_melt_X0_becomeMelted : GoodIn wsX4_melt (wsV RX4 137 RX0 yX0_becomeMelted wsX0_becomeMelted) := goodIn_app (goodIn_of _ (by decide +kernel)) ggX4_melt_X0_becomeMelted
theorem dX4_melt_0 : decode cX4_melt 0 = .ok (.aload_n 0, 1) := by decide +kernel
theorem dX4_melt_1 : decode cX4_melt 1 = .ok (.getfield 10, 3) := by decide +kernel
theorem dX4_melt_4 : decode cX4_melt 4 = .ok (.iload_n 1, 1) := by decide +kernel
theorem dX4_melt_5 : decode cX4_melt 5 = .ok (.invokevirtual 94, 3) := by decide +kernel
theorem dX4_melt_8 : decode cX4_melt 8 = .ok (.astore_n 2, 1) := by decide +kernel
theorem dX4_melt_9 : decode cX4_melt 9 = .ok (.aload_n 2, 1) := by decide +kernel
theorem dX4_melt_10 : decode cX4_melt 10 = .ok (.getfield 110, 3) := by decide +kernel
theorem dX4_melt_13 : decode cX4_melt 13 = .ok (.iconst 5, 1) := by decide +kernel
theorem dX4_melt_14 : decode cX4_melt 14 = .ok (.if_icmp .ne 7, 3) := by decide +kernel
theorem dX4_melt_17 : decode cX4_melt 17 = .ok (.iconst 1, 1) := by decide +kernel
theorem dX4_melt_18 : decode cX4_melt 18 = .ok (.goto 4, 3) := by decide +kernel
theorem dX4_melt_21 : decode cX4_melt 21 = .ok (.iconst 0, 1) := by decide +kernel
theorem dX4_melt_22 : decode cX4_melt 22 = .ok (.invokestatic 27, 3) := by decide +kernel
theorem dX4_melt_25 : decode cX4_melt 25 = .ok (.aload_n 2, 1) := by decide +kernel
theorem dX4_melt_26 : decode cX4_melt 26 = .ok (.getfield 107, 3) := by decide +kernel
theorem dX4_melt_29 : decode cX4_melt 29 = .ok (.iconst 3, 1) := by decide +kernel
theorem dX4_melt_30 : decode cX4_melt 30 = .ok (.if_icmp .le 17, 3) := by decide +kernel
theorem dX4_melt_33 : decode cX4_melt 33 = .ok (.aload_n 0, 1) := by decide +kernel
theorem dX4_melt_34 : decode cX4_melt 34 = .ok (.getfield 10, 3) := by decide +kernel
theorem dX4_melt_37 : decode cX4_melt 37 = .ok (.dup, 1) := by decide +kernel
theorem dX4_melt_38 : decode cX4_melt 38 = .ok (.getfield 134, 3) := by decide +kernel
theorem dX4_melt_41 : decode cX4_melt 41 = .ok (.bipush 20, 2) := by decide +kernel
theorem dX4_melt_43 : decode cX4_melt 43 = .ok (.iadd, 1) := by decide +kernel
theorem dX4_melt_44 : decode cX4_melt 44 = .ok (.putfield 134, 3) := by decide +kernel
theorem dX4_melt_47 : decode cX4_melt 47 = .ok (.aload_n 2, 1) := by decide +kernel
theorem dX4_melt_48 : decode cX4_melt 48 = .ok (.invokevirtual 137, 3) := by decide +kernel
theorem dX4_melt_51 : decode cX4_melt 51 = .ok (.aload_n 0, 1) := by decide +kernel
theorem dX4_melt_52 : decode cX4_melt 52 = .ok (.getfield 10, 3) := by decide +kernel
theorem dX4_melt_55 : decode cX4_melt 55 = .ok (.getfield 134, 3) := by decide +kernel
theorem dX4_melt_58 : decode cX4_melt 58 = .ok (.ireturn, 1) := by decide +kernel
set_option maxRecDepth 20000 in
theorem ggX4_tour_X1_figureAt : GoodIn wsX4_tour wsX1_figureAt := goodIn_ca (goodIn_r _ [11, 12, 13, 14, 15, 16, 17, 18, 76, 77, 78, 79, 80, 81, 82, 83, 84, 85, 86] (by decide +kernel) (by decide +kernel)) (goodIn_sub (fun _ h => List.mem_cons_of_mem _ (List.mem_append_left _ (List.mem_append_left _ (List.mem_append_right _ h)))) (by decide +kernel))
set_option maxRecDepth 20000 in
theorem gX4_tour_X1_figureAt : GoodIn wsX4_tour (wsV RX4 94 RX1 yX1_figureAt wsX1_figureAt) := goodIn_app (goodIn_of _ (by decide +kernel)) ggX4_tour_X1_figureAt
set_option maxRecDepth 20000 in
theorem ggX4_tour_X4_checkArgument : GoodIn wsX4_tour wsX4_checkArgument := goodIn_ca (goodIn_r _ [21, 22, 23] (by decide +kernel) (by decide +kernel)) (goodIn_sub (fun _ h => List.mem_cons_of_mem _ (List.mem_append_left _ (List.mem_append_right _ h))) (by decide +kernel))
set_option maxRecDepth 20000 in
theorem gX4_tour_X4_checkArgument : GoodIn wsX4_tour (va_wsS RX4 19 yX4_checkArgument wsX4_checkArgument) := goodIn_app (goodIn_of _ (by decide +kernel)) ggX4_tour_X4_checkArgument
set_option maxRecDepth 20000 in
theorem ggX4_tour_X0_isReadyInStore : GoodIn wsX4_tour wsX0_isReadyInStore := goodIn_r _ [28, 29, 30, 57, 58, 59, 60, 61, 62, 63, 64, 65, 66, 67] (by decide +kernel) (by decide +kernel)
set_option maxRecDepth 20000 in
theorem gX4_tour_X0_isReadyInStore : GoodIn wsX4_tour (wsV RX4 120 RX0 yX0_isReadyInStore wsX0_isReadyInStore) := goodIn_app (goodIn_of _ (by decide +kernel)) ggX4_tour_X0_isReadyInStore
set_option maxRecDepth 20000 in
theorem ggX4_tour_X4_checkState : GoodIn wsX4_tour wsX4_checkState := goodIn_ca (goodIn_r _ [33, 34, 35] (by decide +kernel) (by decide +kernel)) (goodIn_sub (fun _ h => List.mem_cons_of_mem _ (List.mem_append_right _ h)) (by decide +kernel))
set_option maxRecDepth 20000 in
theorem gX4_tour_X4_checkState : GoodIn wsX4_tour (va_wsS RX4 27 yX4_checkState wsX4_checkState) := goodIn_app (goodIn_of _ (by decide +kernel)) ggX4_tour_X4_checkState
set_option maxRecDepth 20000 in
theorem ggX4_tour_X0_likeness : GoodIn wsX4_tour wsX0_likeness := goodIn_r _ [39, 40, 41, 42, 43, 44, 45, 46, 27, 47, 29, 30, 48, 49, 50, 51, 52, 53, 54, 57, 58, 59, 60, 61, 62, 63, 64, 65, 66, 67, 68, 69, 70, 71, 72, 73, 74, 75] (by decide +kernel) (by decide +kernel)
set_option maxRecDepth 20000 in
theorem gX4_tour_X0_likeness : GoodIn wsX4_tour (wsV RX4 128 RX0 yX0_likeness wsX0_likeness) := goodIn_app (goodIn_of _ (by decide +kernel)) ggX4_tour_X0_likeness
theorem dX4_tour_0 : decode cX4_tour 0 = .ok (.aload_n 0, 1) := by decide +kernel
theorem dX4_tour_1 : decode cX4_tour 1 = .ok (.getfield 10, 3) := by decide +kernel
theorem dX4_tour_4 : decode cX4_tour 4 = .ok (.iload_n 1, 1) := by decide +kernel
theorem dX4_tour_5 : decode cX4_tour 5 = .ok (.invokevirtual 94, 3) := by decide +kernel
theorem dX4_tour_8 : decode cX4_tour 8 = .ok (.astore 4, 2) := by decide +kernel
theorem dX4_tour_10 : decode cX4_tour 10 = .ok (.iload_n 2, 1) := by decide +kernel
theorem dX4_tour_11 : decode cX4_tour 11 = .ok (.iconst 1, 1) := by decide +kernel
theorem dX4_tour_12 : decode cX4_tour 12 = .ok (.iconst 2, 1) := by decide +kernel
theorem dX4_tour_13 : decode cX4_tour 13 = .ok (.invokestatic 19, 3) := by decide +kernel
theorem dX4_tour_16 : decode cX4_tour 16 = .ok (.iload_n 3, 1) := by decide +kernel
theorem dX4_tour_17 : decode cX4_tour 17 = .ok (.iconst 1, 1) := by decide +kernel
theorem dX4_tour_18 : decode cX4_tour 18 = .ok (.bipush 60, 2) := by decide +kernel
theorem dX4_tour_20 : decode cX4_tour 20 = .ok (.invokestatic 19, 3) := by decide +kernel
theorem dX4_tour_23 : decode cX4_tour 23 = .ok (.aload 4, 2) := by decide +kernel
theorem dX4_tour_25 : decode cX4_tour 25 = .ok (.invokevirtual 120, 3) := by decide +kernel
theorem dX4_tour_28 : decode cX4_tour 28 = .ok (.ifCond .eq 18, 3) := by decide +kernel
theorem dX4_tour_31 : decode cX4_tour 31 = .ok (.aload 4, 2) := by decide +kernel
theorem dX4_tour_33 : decode cX4_tour 33 = .ok (.getfield 140, 3) := by decide +kernel
theorem dX4_tour_36 : decode cX4_tour 36 = .ok (.getfield 56, 3) := by decide +kernel
theorem dX4_tour_39 : decode cX4_tour 39 = .ok (.ifCond .eq 7, 3) := by decide +kernel
theorem dX4_tour_42 : decode cX4_tour 42 = .ok (.iconst 1, 1) := by decide +kernel
theorem dX4_tour_43 : decode cX4_tour 43 = .ok (.goto 4, 3) := by decide +kernel
theorem dX4_tour_46 : decode cX4_tour 46 = .ok (.iconst 0, 1) := by decide +kernel
theorem dX4_tour_47 : decode cX4_tour 47 = .ok (.invokestatic 27, 3) := by decide +kernel
theorem dX4_tour_50 : decode cX4_tour 50 = .ok (.aload 4, 2) := by decide +kernel
theorem dX4_tour_52 : decode cX4_tour 52 = .ok (.bipush 6, 2) := by decide +kernel
theorem dX4_tour_54 : decode cX4_tour 54 = .ok (.putfield 110, 3) := by decide +kernel
theorem dX4_tour_57 : decode cX4_tour 57 = .ok (.aload 4, 2) := by decide +kernel
theorem dX4_tour_59 : decode cX4_tour 59 = .ok (.iload_n 2, 1) := by decide +kernel
theorem dX4_tour_60 : decode cX4_tour 60 = .ok (.putfield 144, 3) := by decide +kernel
theorem dX4_tour_63 : decode cX4_tour 63 = .ok (.aload 4, 2) := by decide +kernel
theorem dX4_tour_65 : decode cX4_tour 65 = .ok (.iload_n 3, 1) := by decide +kernel
theorem dX4_tour_66 : decode cX4_tour 66 = .ok (.putfield 147, 3) := by decide +kernel
theorem dX4_tour_69 : decode cX4_tour 69 = .ok (.aload 4, 2) := by decide +kernel
theorem dX4_tour_71 : decode cX4_tour 71 = .ok (.invokevirtual 128, 3) := by decide +kernel
theorem dX4_tour_74 : decode cX4_tour 74 = .ok (.ireturn, 1) := by decide +kernel
set_option maxRecDepth 20000 in
theorem ggX4_room_X4_checkArgument : GoodIn wsX4_room wsX4_checkArgument := goodIn_ca (goodIn_r _ [6, 7, 8] (by decide +kernel) (by decide +kernel)) (goodIn_sub (fun _ h => List.mem_cons_of_mem _ (List.mem_append_left _ (List.mem_append_left _ (List.mem_append_right _ h)))) (by decide +kernel))
set_option maxRecDepth 20000 in
theorem gX4_room_X4_checkArgument : GoodIn wsX4_room (va_wsS RX4 19 yX4_checkArgument wsX4_checkArgument) := goodIn_app (goodIn_of _ (by decide +kernel)) ggX4_room_X4_checkArgument
set_option maxRecDepth 20000 in
theorem ggX4_room_X4_checkState : GoodIn wsX4_room wsX4_checkState := goodIn_ca (goodIn_r _ [11, 12, 13] (by decide +kernel) (by decide +kernel)) (goodIn_sub (fun _ h => List.mem_cons_of_mem _ (List.mem_append_left _ (List.mem_append_right _ h))) (by decide +kernel))
set_option maxRecDepth 20000 in
theorem gX4_room_X4_checkState : GoodIn wsX4_room (va_wsS RX4 27 yX4_checkState wsX4_checkState) := goodIn_app (goodIn_of _ (by decide +kernel)) ggX4_room_X4_checkState
set_option maxRecDepth 20000 in
theorem ggX4_room_X1_addRoom : GoodIn wsX4_room wsX1_addRoom := goodIn_ca (goodIn_r _ [18, 19, 20, 21, 22, 23, 24, 17, 25, 26, 27, 5, 28, 29, 30, 33, 34, 35, 36, 37, 38, 39, 40, 41, 42, 43, 44, 45] (by decide +kernel) (by decide +kernel)) (goodIn_sub (fun _ h => List.mem_cons_of_mem _ (List.mem_append_right _ h)) (by decide +kernel))
set_option maxRecDepth 20000 in
theorem gX4_room_X1_addRoom : GoodIn wsX4_room (wsV RX4 153 RX1 yX1_addRoom wsX1_addRoom) := goodIn_app (goodIn_of _ (by decide +kernel)) ggX4_room_X1_addRoom
theorem dX4_room_0 : decode cX4_room 0 = .ok (.iload_n 1, 1) := by decide +kernel
theorem dX4_room_1 : decode cX4_room 1 = .ok (.iconst 0, 1) := by decide +kernel
theorem dX4_room_2 : decode cX4_room 2 = .ok (.bipush 9, 2) := by decide +kernel
theorem dX4_room_4 : decode cX4_room 4 = .ok (.invokestatic 19, 3) := by decide +kernel
theorem dX4_room_7 : decode cX4_room 7 = .ok (.iload_n 2, 1) := by decide +kernel
theorem dX4_room_8 : decode cX4_room 8 = .ok (.iconst 1, 1) := by decide +kernel
theorem dX4_room_9 : decode cX4_room 9 = .ok (.iconst 4, 1) := by decide +kernel
theorem dX4_room_10 : decode cX4_room 10 = .ok (.invokestatic 19, 3) := by decide +kernel
theorem dX4_room_13 : decode cX4_room 13 = .ok (.aload_n 0, 1) := by decide +kernel
theorem dX4_room_14 : decode cX4_room 14 = .ok (.getfield 10, 3) := by decide +kernel
theorem dX4_room_17 : decode cX4_room 17 = .ok (.getfield 150, 3) := by decide +kernel
theorem dX4_room_20 : decode cX4_room 20 = .ok (.iconst 5, 1) := by decide +kernel
theorem dX4_room_21 : decode cX4_room 21 = .ok (.if_icmp .ge 7, 3) := by decide +kernel
theorem dX4_room_24 : decode cX4_room 24 = .ok (.iconst 1, 1) := by decide +kernel
theorem dX4_room_25 : decode cX4_room 25 = .ok (.goto 4, 3) := by decide +kernel
theorem dX4_room_28 : decode cX4_room 28 = .ok (.iconst 0, 1) := by decide +kernel
theorem dX4_room_29 : decode cX4_room 29 = .ok (.invokestatic 27, 3) := by decide +kernel
theorem dX4_room_32 : decode cX4_room 32 = .ok (.aload_n 0, 1) := by decide +kernel
theorem dX4_room_33 : decode cX4_room 33 = .ok (.getfield 10, 3) := by decide +kernel
theorem dX4_room_36 : decode cX4_room 36 = .ok (.iload_n 1, 1) := by decide +kernel
theorem dX4_room_37 : decode cX4_room 37 = .ok (.iload_n 2, 1) := by decide +kernel
theorem dX4_room_38 : decode cX4_room 38 = .ok (.invokevirtual 153, 3) := by decide +kernel
theorem dX4_room_41 : decode cX4_room 41 = .ok (.ireturn, 1) := by decide +kernel
set_option maxRecDepth 20000 in
theorem ggX4_lamps_X1_roomAt : GoodIn wsX4_lamps wsX1_roomAt := goodIn_ca (goodIn_r _ [7, 8, 9, 10, 11, 12, 13, 14, 24, 25, 26, 27, 28, 29, 30, 31, 32, 33, 34] (by decide +kernel) (by decide +kernel)) (goodIn_sub (fun _ h => List.mem_cons_of_mem _ (List.mem_append_left _ (List.mem_append_right _ h))) (by decide +kernel))
set_option maxRecDepth 20000 in
theorem gX4_lamps_X1_roomAt : GoodIn wsX4_lamps (wsV RX4 156 RX1 yX1_roomAt wsX1_roomAt) := goodIn_app (goodIn_of _ (by decide +kernel)) ggX4_lamps_X1_roomAt
set_option maxRecDepth 20000 in
theorem ggX4_lamps_X4_checkArgument : GoodIn wsX4_lamps wsX4_checkArgument := goodIn_ca (goodIn_r _ [17, 18, 19] (by decide +kernel) (by decide +kernel)) (goodIn_sub (fun _ h => List.mem_cons_of_mem _ (List.mem_append_right _ h)) (by decide +kernel))
set_option maxRecDepth 20000 in
theorem gX4_lamps_X4_checkArgument : GoodIn wsX4_lamps (va_wsS RX4 19 yX4_checkArgument wsX4_checkArgument) := goodIn_app (goodIn_of _ (by decide +kernel)) ggX4_lamps_X4_checkArgument
theorem dX4_lamps_0 : decode cX4_lamps 0 = .ok (.aload_n 0, 1) := by decide +kernel
theorem dX4_lamps_1 : decode cX4_lamps 1 = .ok (.getfield 10, 3) := by decide +kernel
theorem dX4_lamps_4 : decode cX4_lamps 4 = .ok (.iload_n 1, 1) := by decide +kernel
theorem dX4_lamps_5 : decode cX4_lamps 5 = .ok (.invokevirtual 156, 3) := by decide +kernel
theorem dX4_lamps_8 : decode cX4_lamps 8 = .ok (.astore_n 3, 1) := by decide +kernel
theorem dX4_lamps_9 : decode cX4_lamps 9 = .ok (.iload_n 2, 1) := by decide +kernel
theorem dX4_lamps_10 : decode cX4_lamps 10 = .ok (.iconst 0, 1) := by decide +kernel
theorem dX4_lamps_11 : decode cX4_lamps 11 = .ok (.bipush 9, 2) := by decide +kernel
theorem dX4_lamps_13 : decode cX4_lamps 13 = .ok (.invokestatic 19, 3) := by decide +kernel
theorem dX4_lamps_16 : decode cX4_lamps 16 = .ok (.aload_n 3, 1) := by decide +kernel
theorem dX4_lamps_17 : decode cX4_lamps 17 = .ok (.getfield 160, 3) := by decide +kernel
theorem dX4_lamps_20 : decode cX4_lamps 20 = .ok (.istore 4, 2) := by decide +kernel
theorem dX4_lamps_22 : decode cX4_lamps 22 = .ok (.aload_n 3, 1) := by decide +kernel
theorem dX4_lamps_23 : decode cX4_lamps 23 = .ok (.iload_n 2, 1) := by decide +kernel
theorem dX4_lamps_24 : decode cX4_lamps 24 = .ok (.putfield 160, 3) := by decide +kernel
theorem dX4_lamps_27 : decode cX4_lamps 27 = .ok (.iload 4, 2) := by decide +kernel
theorem dX4_lamps_29 : decode cX4_lamps 29 = .ok (.ireturn, 1) := by decide +kernel
set_option maxRecDepth 20000 in
theorem ggX4_show_X1_figureAt : GoodIn wsX4_show wsX1_figureAt := goodIn_ca (goodIn_r _ [10, 11, 12, 13, 14, 15, 16, 17, 99, 100, 101, 102, 103, 104, 105, 106, 107, 108, 109] (by decide +kernel) (by decide +kernel)) (goodIn_sub (fun _ h => List.mem_cons_of_mem _ (List.mem_append_left _ (List.mem_append_right _ h))) (by decide +kernel))
set_option maxRecDepth 20000 in
theorem gX4_show_X1_figureAt : GoodIn wsX4_show (wsV RX4 94 RX1 yX1_figureAt wsX1_figureAt) := goodIn_app (goodIn_of _ (by decide +kernel)) ggX4_show_X1_figureAt
set_option maxRecDepth 20000 in
theorem ggX4_show_X1_roomAt : GoodIn wsX4_show wsX1_roomAt := goodIn_ca (goodIn_r _ [21, 22, 23, 13, 14, 15, 16, 17, 99, 100, 101, 102, 103, 104, 105, 106, 107, 108, 109] (by decide +kernel) (by decide +kernel)) (goodIn_sub (fun _ h => List.mem_cons_of_mem _ (List.mem_append_left _ (List.mem_append_right _ h))) (by decide +kernel))
set_option maxRecDepth 20000 in
theorem gX4_show_X1_roomAt : GoodIn wsX4_show (wsV RX4 156 RX1 yX1_roomAt wsX1_roomAt) := goodIn_app (goodIn_of _ (by decide +kernel)) ggX4_show_X1_roomAt
set_option maxRecDepth 20000 in
theorem ggX4_show_X0_isReadyInStore : GoodIn wsX4_show wsX0_isReadyInStore := goodIn_r _ [28, 29, 30, 78, 79, 80, 81, 82, 83, 84, 85, 86, 87, 88] (by decide +kernel) (by decide +kernel)
set_option maxRecDepth 20000 in
theorem gX4_show_X0_isReadyInStore : GoodIn wsX4_show (wsV RX4 120 RX0 yX0_isReadyInStore wsX0_isReadyInStore) := goodIn_app (goodIn_of _ (by decide +kernel)) ggX4_show_X0_isReadyInStore
set_option maxRecDepth 20000 in
theorem ggX4_show_X4_checkState : GoodIn wsX4_show wsX4_checkState := goodIn_ca (goodIn_r _ [33, 34, 35] (by decide +kernel) (by decide +kernel)) (goodIn_sub (fun _ h => List.mem_cons_of_mem _ (List.mem_append_right _ h)) (by decide +kernel))
set_option maxRecDepth 20000 in
theorem gX4_show_X4_checkState : GoodIn wsX4_show (va_wsS RX4 27 yX4_checkState wsX4_checkState) := goodIn_app (goodIn_of _ (by decide +kernel)) ggX4_show_X4_checkState
set_option maxRecDepth 20000 in
theorem ggX4_show_X0_likeness : GoodIn wsX4_show wsX0_likeness := goodIn_r _ [39, 40, 41, 42, 43, 44, 45, 46, 27, 47, 29, 30, 48, 49, 50, 51, 52, 53, 54, 78, 79, 80, 81, 82, 83, 84, 85, 86, 87, 88, 89, 90, 91, 92, 93, 94, 95, 96] (by decide +kernel) (by decide +kernel)
set_option maxRecDepth 20000 in
theorem gX4_show_X0_likeness : GoodIn wsX4_show (wsV RX4 128 RX0 yX0_likeness wsX0_likeness) := goodIn_app (goodIn_of _ (by decide +kernel)) ggX4_show_X0_likeness
set_option maxRecDepth 20000 in
theorem ggX4_show_X1_figuresIn : GoodIn wsX4_show wsX1_figuresIn := goodIn_r _ [58, 11, 12, 59, 99, 100, 101, 102, 103, 104, 105, 106, 107, 108, 109, 78, 79, 80, 81, 82, 83, 84, 85, 86, 87, 88] (by decide +kernel) (by decide +kernel)
set_option maxRecDepth 20000 in
theorem gX4_show_X1_figuresIn : GoodIn wsX4_show (wsV RX4 165 RX1 yX1_figuresIn wsX1_figuresIn) := goodIn_app (goodIn_of _ (by decide +kernel)) ggX4_show_X1_figuresIn
set_option maxRecDepth 20000 in
theorem ggX4_show_X1_shownOf : GoodIn wsX4_show wsX1_shownOf := goodIn_r _ [63, 11, 12, 64, 65, 66, 67, 27, 68, 30, 99, 100, 101, 102, 103, 104, 105, 106, 107, 108, 109, 78, 79, 80, 81, 82, 83, 84, 85, 86, 87, 88] (by decide +kernel) (by decide +kernel)
set_option maxRecDepth 20000 in
theorem gX4_show_X1_shownOf : GoodIn wsX4_show (wsV RX4 171 RX1 yX1_shownOf wsX1_shownOf) := goodIn_app (goodIn_of _ (by decide +kernel)) ggX4_show_X1_shownOf
set_option maxRecDepth 20000 in
theorem ggX4_show_X0_draw : GoodIn wsX4_show wsX0_draw := goodIn_r _ [72, 42, 73, 74, 66, 67, 27, 68, 30, 75, 37, 38, 39, 40, 41, 43, 44, 45, 46, 47, 29, 48, 49, 50, 51, 52, 53, 54, 78, 79, 80, 81, 82, 83, 84, 85, 86, 87, 88, 89, 90, 91, 92, 93, 94, 95, 96] (by decide +kernel) (by decide +kernel)
set_option maxRecDepth 20000 in
theorem gX4_show_X0_draw : GoodIn wsX4_show (wsV RX4 174 RX0 yX0_draw wsX0_draw) := goodIn_app (goodIn_of _ (by decide +kernel)) ggX4_show_X0_draw
theorem dX4_show_0 : decode cX4_show 0 = .ok (.aload_n 0, 1) := by decide +kernel
theorem dX4_show_1 : decode cX4_show 1 = .ok (.getfield 10, 3) := by decide +kernel
theorem dX4_show_4 : decode cX4_show 4 = .ok (.iload_n 1, 1) := by decide +kernel
theorem dX4_show_5 : decode cX4_show 5 = .ok (.invokevirtual 94, 3) := by decide +kernel
theorem dX4_show_8 : decode cX4_show 8 = .ok (.astore_n 3, 1) := by decide +kernel
theorem dX4_show_9 : decode cX4_show 9 = .ok (.aload_n 0, 1) := by decide +kernel
theorem dX4_show_10 : decode cX4_show 10 = .ok (.getfield 10, 3) := by decide +kernel
theorem dX4_show_13 : decode cX4_show 13 = .ok (.iload_n 2, 1) := by decide +kernel
theorem dX4_show_14 : decode cX4_show 14 = .ok (.invokevirtual 156, 3) := by decide +kernel
theorem dX4_show_17 : decode cX4_show 17 = .ok (.astore 4, 2) := by decide +kernel
theorem dX4_show_19 : decode cX4_show 19 = .ok (.aload_n 3, 1) := by decide +kernel
theorem dX4_show_20 : decode cX4_show 20 = .ok (.invokevirtual 120, 3) := by decide +kernel
theorem dX4_show_23 : decode cX4_show 23 = .ok (.ifCond .eq 17, 3) := by decide +kernel
theorem dX4_show_26 : decode cX4_show 26 = .ok (.aload_n 3, 1) := by decide +kernel
theorem dX4_show_27 : decode cX4_show 27 = .ok (.getfield 140, 3) := by decide +kernel
theorem dX4_show_30 : decode cX4_show 30 = .ok (.getfield 56, 3) := by decide +kernel
theorem dX4_show_33 : decode cX4_show 33 = .ok (.ifCond .eq 7, 3) := by decide +kernel
theorem dX4_show_36 : decode cX4_show 36 = .ok (.iconst 1, 1) := by decide +kernel
theorem dX4_show_37 : decode cX4_show 37 = .ok (.goto 4, 3) := by decide +kernel
theorem dX4_show_40 : decode cX4_show 40 = .ok (.iconst 0, 1) := by decide +kernel
theorem dX4_show_41 : decode cX4_show 41 = .ok (.invokestatic 27, 3) := by decide +kernel
theorem dX4_show_44 : decode cX4_show 44 = .ok (.aload_n 3, 1) := by decide +kernel
theorem dX4_show_45 : decode cX4_show 45 = .ok (.invokevirtual 128, 3) := by decide +kernel
theorem dX4_show_48 : decode cX4_show 48 = .ok (.bipush 30, 2) := by decide +kernel
theorem dX4_show_50 : decode cX4_show 50 = .ok (.if_icmp .lt 7, 3) := by decide +kernel
theorem dX4_show_53 : decode cX4_show 53 = .ok (.iconst 1, 1) := by decide +kernel
theorem dX4_show_54 : decode cX4_show 54 = .ok (.goto 4, 3) := by decide +kernel
theorem dX4_show_57 : decode cX4_show 57 = .ok (.iconst 0, 1) := by decide +kernel
theorem dX4_show_58 : decode cX4_show 58 = .ok (.invokestatic 27, 3) := by decide +kernel
theorem dX4_show_61 : decode cX4_show 61 = .ok (.aload_n 0, 1) := by decide +kernel
theorem dX4_show_62 : decode cX4_show 62 = .ok (.getfield 10, 3) := by decide +kernel
theorem dX4_show_65 : decode cX4_show 65 = .ok (.iload_n 2, 1) := by decide +kernel
theorem dX4_show_66 : decode cX4_show 66 = .ok (.iload_n 2, 1) := by decide +kernel
theorem dX4_show_67 : decode cX4_show 67 = .ok (.invokevirtual 165, 3) := by decide +kernel
theorem dX4_show_70 : decode cX4_show 70 = .ok (.aload 4, 2) := by decide +kernel
theorem dX4_show_72 : decode cX4_show 72 = .ok (.getfield 168, 3) := by decide +kernel
theorem dX4_show_75 : decode cX4_show 75 = .ok (.if_icmp .ge 7, 3) := by decide +kernel
theorem dX4_show_78 : decode cX4_show 78 = .ok (.iconst 1, 1) := by decide +kernel
theorem dX4_show_79 : decode cX4_show 79 = .ok (.goto 4, 3) := by decide +kernel
theorem dX4_show_82 : decode cX4_show 82 = .ok (.iconst 0, 1) := by decide +kernel
theorem dX4_show_83 : decode cX4_show 83 = .ok (.invokestatic 27, 3) := by decide +kernel
theorem dX4_show_86 : decode cX4_show 86 = .ok (.aload_n 0, 1) := by decide +kernel
theorem dX4_show_87 : decode cX4_show 87 = .ok (.getfield 10, 3) := by decide +kernel
theorem dX4_show_90 : decode cX4_show 90 = .ok (.aload_n 3, 1) := by decide +kernel
theorem dX4_show_91 : decode cX4_show 91 = .ok (.getfield 140, 3) := by decide +kernel
theorem dX4_show_94 : decode cX4_show 94 = .ok (.invokevirtual 171, 3) := by decide +kernel
theorem dX4_show_97 : decode cX4_show 97 = .ok (.iconst (-1), 1) := by decide +kernel
theorem dX4_show_98 : decode cX4_show 98 = .ok (.if_icmp .ne 7, 3) := by decide +kernel
theorem dX4_show_101 : decode cX4_show 101 = .ok (.iconst 1, 1) := by decide +kernel
theorem dX4_show_102 : decode cX4_show 102 = .ok (.goto 4, 3) := by decide +kernel
theorem dX4_show_105 : decode cX4_show 105 = .ok (.iconst 0, 1) := by decide +kernel
theorem dX4_show_106 : decode cX4_show 106 = .ok (.invokestatic 27, 3) := by decide +kernel
theorem dX4_show_109 : decode cX4_show 109 = .ok (.aload_n 3, 1) := by decide +kernel
theorem dX4_show_110 : decode cX4_show 110 = .ok (.iload_n 2, 1) := by decide +kernel
theorem dX4_show_111 : decode cX4_show 111 = .ok (.putfield 110, 3) := by decide +kernel
theorem dX4_show_114 : decode cX4_show 114 = .ok (.aload_n 3, 1) := by decide +kernel
theorem dX4_show_115 : decode cX4_show 115 = .ok (.invokevirtual 174, 3) := by decide +kernel
theorem dX4_show_118 : decode cX4_show 118 = .ok (.ireturn, 1) := by decide +kernel
set_option maxRecDepth 20000 in
theorem ggX4_take_X1_figureAt : GoodIn wsX4_take wsX1_figureAt := goodIn_ca (goodIn_r _ [7, 8, 9, 10, 11, 12, 13, 14, 39, 40, 41, 42, 43, 44, 45, 46, 47, 48, 49] (by decide +kernel) (by decide +kernel)) (goodIn_sub (fun _ h => List.mem_cons_of_mem _ (List.mem_append_left _ (List.mem_append_right _ h))) (by decide +kernel))
set_option maxRecDepth 20000 in
theorem gX4_take_X1_figureAt : GoodIn wsX4_take (wsV RX4 94 RX1 yX1_figureAt wsX1_figureAt) := goodIn_app (goodIn_of _ (by decide +kernel)) ggX4_take_X1_figureAt
set_option maxRecDepth 20000 in
theorem ggX4_take_X0_isShown : GoodIn wsX4_take wsX0_isShown := goodIn_r _ [19, 20, 28, 29, 30, 31, 32, 33, 34, 35, 36, 37, 38] (by decide +kernel) (by decide +kernel)
set_option maxRecDepth 20000 in
theorem gX4_take_X0_isShown : GoodIn wsX4_take (wsV RX4 177 RX0 yX0_isShown wsX0_isShown) := goodIn_app (goodIn_of _ (by decide +kernel)) ggX4_take_X0_isShown
set_option maxRecDepth 20000 in
theorem ggX4_take_X4_checkState : GoodIn wsX4_take wsX4_checkState := goodIn_ca (goodIn_r _ [23, 24, 25] (by decide +kernel) (by decide +kernel)) (goodIn_sub (fun _ h => List.mem_cons_of_mem _ (List.mem_append_right _ h)) (by decide +kernel))
set_option maxRecDepth 20000 in
theorem gX4_take_X4_checkState : GoodIn wsX4_take (va_wsS RX4 27 yX4_checkState wsX4_checkState) := goodIn_app (goodIn_of _ (by decide +kernel)) ggX4_take_X4_checkState
theorem dX4_take_0 : decode cX4_take 0 = .ok (.aload_n 0, 1) := by decide +kernel
theorem dX4_take_1 : decode cX4_take 1 = .ok (.getfield 10, 3) := by decide +kernel
theorem dX4_take_4 : decode cX4_take 4 = .ok (.iload_n 1, 1) := by decide +kernel
theorem dX4_take_5 : decode cX4_take 5 = .ok (.invokevirtual 94, 3) := by decide +kernel
theorem dX4_take_8 : decode cX4_take 8 = .ok (.astore_n 2, 1) := by decide +kernel
theorem dX4_take_9 : decode cX4_take 9 = .ok (.aload_n 2, 1) := by decide +kernel
theorem dX4_take_10 : decode cX4_take 10 = .ok (.invokevirtual 177, 3) := by decide +kernel
theorem dX4_take_13 : decode cX4_take 13 = .ok (.invokestatic 27, 3) := by decide +kernel
theorem dX4_take_16 : decode cX4_take 16 = .ok (.aload_n 2, 1) := by decide +kernel
theorem dX4_take_17 : decode cX4_take 17 = .ok (.getfield 110, 3) := by decide +kernel
theorem dX4_take_20 : decode cX4_take 20 = .ok (.istore_n 3, 1) := by decide +kernel
theorem dX4_take_21 : decode cX4_take 21 = .ok (.aload_n 2, 1) := by decide +kernel
theorem dX4_take_22 : decode cX4_take 22 = .ok (.iconst 5, 1) := by decide +kernel
theorem dX4_take_23 : decode cX4_take 23 = .ok (.putfield 110, 3) := by decide +kernel
theorem dX4_take_26 : decode cX4_take 26 = .ok (.iload_n 3, 1) := by decide +kernel
theorem dX4_take_27 : decode cX4_take 27 = .ok (.ireturn, 1) := by decide +kernel
set_option maxRecDepth 20000 in
theorem ggX4_clean_X4_checkIndex : GoodIn wsX4_clean wsX4_checkIndex := goodIn_ca (goodIn_r _ [7, 8, 9] (by decide +kernel) (by decide +kernel)) (goodIn_sub (fun _ h => List.mem_cons_of_mem _ (List.mem_append_right _ h)) (by decide +kernel))
set_option maxRecDepth 20000 in
theorem gX4_clean_X4_checkIndex : GoodIn wsX4_clean (va_wsS RX4 39 yX4_checkIndex wsX4_checkIndex) := goodIn_app (goodIn_of _ (by decide +kernel)) ggX4_clean_X4_checkIndex
set_option maxRecDepth 20000 in
theorem ggX4_clean_X1_cleanFiguresIn : GoodIn wsX4_clean wsX1_cleanFiguresIn := goodIn_r _ [14, 15, 16, 17, 18, 19, 20, 21, 22, 25, 26, 27, 28, 29, 30, 31, 32, 33, 34, 35, 36, 37, 38, 39, 40, 41, 42, 43, 44, 45, 46] (by decide +kernel) (by decide +kernel)
set_option maxRecDepth 20000 in
theorem gX4_clean_X1_cleanFiguresIn : GoodIn wsX4_clean (wsV RX4 180 RX1 yX1_cleanFiguresIn wsX1_cleanFiguresIn) := goodIn_app (goodIn_of _ (by decide +kernel)) ggX4_clean_X1_cleanFiguresIn
theorem dX4_clean_0 : decode cX4_clean 0 = .ok (.iload_n 1, 1) := by decide +kernel
theorem dX4_clean_1 : decode cX4_clean 1 = .ok (.aload_n 0, 1) := by decide +kernel
theorem dX4_clean_2 : decode cX4_clean 2 = .ok (.getfield 10, 3) := by decide +kernel
theorem dX4_clean_5 : decode cX4_clean 5 = .ok (.getfield 150, 3) := by decide +kernel
theorem dX4_clean_8 : decode cX4_clean 8 = .ok (.invokestatic 39, 3) := by decide +kernel
theorem dX4_clean_11 : decode cX4_clean 11 = .ok (.aload_n 0, 1) := by decide +kernel
theorem dX4_clean_12 : decode cX4_clean 12 = .ok (.getfield 10, 3) := by decide +kernel
theorem dX4_clean_15 : decode cX4_clean 15 = .ok (.dup, 1) := by decide +kernel
theorem dX4_clean_16 : decode cX4_clean 16 = .ok (.getfield 85, 3) := by decide +kernel
theorem dX4_clean_19 : decode cX4_clean 19 = .ok (.iconst 5, 1) := by decide +kernel
theorem dX4_clean_20 : decode cX4_clean 20 = .ok (.isub, 1) := by decide +kernel
theorem dX4_clean_21 : decode cX4_clean 21 = .ok (.putfield 85, 3) := by decide +kernel
theorem dX4_clean_24 : decode cX4_clean 24 = .ok (.aload_n 0, 1) := by decide +kernel
theorem dX4_clean_25 : decode cX4_clean 25 = .ok (.getfield 10, 3) := by decide +kernel
theorem dX4_clean_28 : decode cX4_clean 28 = .ok (.iload_n 1, 1) := by decide +kernel
theorem dX4_clean_29 : decode cX4_clean 29 = .ok (.invokevirtual 180, 3) := by decide +kernel
theorem dX4_clean_32 : decode cX4_clean 32 = .ok (.aload_n 0, 1) := by decide +kernel
theorem dX4_clean_33 : decode cX4_clean 33 = .ok (.getfield 10, 3) := by decide +kernel
theorem dX4_clean_36 : decode cX4_clean 36 = .ok (.getfield 85, 3) := by decide +kernel
theorem dX4_clean_39 : decode cX4_clean 39 = .ok (.ireturn, 1) := by decide +kernel
set_option maxRecDepth 20000 in
theorem ggX4_price_X4_checkArgument : GoodIn wsX4_price wsX4_checkArgument := goodIn_ca (goodIn_r _ [6, 7, 8] (by decide +kernel) (by decide +kernel)) (goodIn_sub (fun _ h => List.mem_cons_of_mem _ (List.mem_append_right _ h)) (by decide +kernel))
set_option maxRecDepth 20000 in
theorem gX4_price_X4_checkArgument : GoodIn wsX4_price (va_wsS RX4 19 yX4_checkArgument wsX4_checkArgument) := goodIn_app (goodIn_of _ (by decide +kernel)) ggX4_price_X4_checkArgument
theorem dX4_price_0 : decode cX4_price 0 = .ok (.iload_n 1, 1) := by decide +kernel
theorem dX4_price_1 : decode cX4_price 1 = .ok (.iconst 0, 1) := by decide +kernel
theorem dX4_price_2 : decode cX4_price 2 = .ok (.bipush 20, 2) := by decide +kernel
theorem dX4_price_4 : decode cX4_price 4 = .ok (.invokestatic 19, 3) := by decide +kernel
theorem dX4_price_7 : decode cX4_price 7 = .ok (.aload_n 0, 1) := by decide +kernel
theorem dX4_price_8 : decode cX4_price 8 = .ok (.getfield 10, 3) := by decide +kernel
theorem dX4_price_11 : decode cX4_price 11 = .ok (.getfield 183, 3) := by decide +kernel
theorem dX4_price_14 : decode cX4_price 14 = .ok (.istore_n 2, 1) := by decide +kernel
theorem dX4_price_15 : decode cX4_price 15 = .ok (.aload_n 0, 1) := by decide +kernel
theorem dX4_price_16 : decode cX4_price 16 = .ok (.getfield 10, 3) := by decide +kernel
theorem dX4_price_19 : decode cX4_price 19 = .ok (.iload_n 1, 1) := by decide +kernel
theorem dX4_price_20 : decode cX4_price 20 = .ok (.putfield 183, 3) := by decide +kernel
theorem dX4_price_23 : decode cX4_price 23 = .ok (.iload_n 2, 1) := by decide +kernel
theorem dX4_price_24 : decode cX4_price 24 = .ok (.ireturn, 1) := by decide +kernel
set_option maxRecDepth 20000 in
theorem ggX4_pass_X4_checkArgument : GoodIn wsX4_pass wsX4_checkArgument := goodIn_ca (goodIn_r _ [5, 6, 7] (by decide +kernel) (by decide +kernel)) (goodIn_sub (fun _ h => List.mem_cons_of_mem _ (List.mem_append_left _ (List.mem_append_right _ h))) (by decide +kernel))
set_option maxRecDepth 20000 in
theorem gX4_pass_X4_checkArgument : GoodIn wsX4_pass (va_wsS RX4 19 yX4_checkArgument wsX4_checkArgument) := goodIn_app (goodIn_of _ (by decide +kernel)) ggX4_pass_X4_checkArgument
set_option maxRecDepth 20000 in
theorem ggX4_pass_X1_passDay : GoodIn wsX4_pass wsX1_passDay := goodIn_ca (goodIn_r _ [12, 13, 14, 15, 16, 17, 18, 19, 11, 20, 21, 22, 23, 24, 25, 26, 27, 28, 29, 30, 31, 32, 33, 34, 35, 36, 37, 38, 39, 40, 41, 42, 43, 44, 45, 46, 47, 48, 49, 50, 51, 52, 53, 54, 55, 56, 57, 58, 59, 60, 61, 62, 63, 64, 65, 66, 67, 68, 69, 70, 71, 72, 73, 74, 75, 76, 77, 78, 79, 80, 81, 82, 83, 84, 85, 86, 87, 88, 89, 90, 91, 92, 93, 94, 95, 96, 97, 98, 99, 4, 100, 101, 102, 103, 104, 105, 106, 107, 108, 109, 110, 111, 112, 113, 114, 115, 116, 117, 118, 119, 120, 121, 122, 123, 124, 125, 126, 129, 130, 131, 132, 133, 134, 135, 136, 137, 138, 139, 140, 141, 142, 143, 144, 145, 146, 147, 148, 149, 150, 151, 152, 153, 154, 155, 156, 157, 158, 159, 160] (by decide +kernel) (by decide +kernel)) (goodIn_sub (fun _ h => List.mem_cons_of_mem _ (List.mem_append_right _ h)) (by decide +kernel))
set_option maxRecDepth 20000 in
theorem gX4_pass_X1_passDay : GoodIn wsX4_pass (wsV RX4 186 RX1 yX1_passDay wsX1_passDay) := goodIn_app (goodIn_of _ (by decide +kernel)) ggX4_pass_X1_passDay
theorem dX4_pass_0 : decode cX4_pass 0 = .ok (.iload_n 1, 1) := by decide +kernel
theorem dX4_pass_1 : decode cX4_pass 1 = .ok (.iconst 1, 1) := by decide +kernel
theorem dX4_pass_2 : decode cX4_pass 2 = .ok (.bipush 40, 2) := by decide +kernel
theorem dX4_pass_4 : decode cX4_pass 4 = .ok (.invokestatic 19, 3) := by decide +kernel
theorem dX4_pass_7 : decode cX4_pass 7 = .ok (.iload_n 2, 1) := by decide +kernel
theorem dX4_pass_8 : decode cX4_pass 8 = .ok (.iconst 0, 1) := by decide +kernel
theorem dX4_pass_9 : decode cX4_pass 9 = .ok (.sipush 2000, 3) := by decide +kernel
theorem dX4_pass_12 : decode cX4_pass 12 = .ok (.invokestatic 19, 3) := by decide +kernel
theorem dX4_pass_15 : decode cX4_pass 15 = .ok (.iload_n 3, 1) := by decide +kernel
theorem dX4_pass_16 : decode cX4_pass 16 = .ok (.iconst 0, 1) := by decide +kernel
theorem dX4_pass_17 : decode cX4_pass 17 = .ok (.bipush 40, 2) := by decide +kernel
theorem dX4_pass_19 : decode cX4_pass 19 = .ok (.invokestatic 19, 3) := by decide +kernel
theorem dX4_pass_22 : decode cX4_pass 22 = .ok (.iconst 0, 1) := by decide +kernel
theorem dX4_pass_23 : decode cX4_pass 23 = .ok (.istore 4, 2) := by decide +kernel
theorem dX4_pass_25 : decode cX4_pass 25 = .ok (.iconst 0, 1) := by decide +kernel
theorem dX4_pass_26 : decode cX4_pass 26 = .ok (.istore 5, 2) := by decide +kernel
theorem dX4_pass_28 : decode cX4_pass 28 = .ok (.iload 5, 2) := by decide +kernel
theorem dX4_pass_30 : decode cX4_pass 30 = .ok (.iload_n 1, 1) := by decide +kernel
theorem dX4_pass_31 : decode cX4_pass 31 = .ok (.if_icmp .ge 23, 3) := by decide +kernel
theorem dX4_pass_34 : decode cX4_pass 34 = .ok (.iload 4, 2) := by decide +kernel
theorem dX4_pass_36 : decode cX4_pass 36 = .ok (.aload_n 0, 1) := by decide +kernel
theorem dX4_pass_37 : decode cX4_pass 37 = .ok (.getfield 10, 3) := by decide +kernel
theorem dX4_pass_40 : decode cX4_pass 40 = .ok (.iload_n 2, 1) := by decide +kernel
theorem dX4_pass_41 : decode cX4_pass 41 = .ok (.iload_n 3, 1) := by decide +kernel
theorem dX4_pass_42 : decode cX4_pass 42 = .ok (.invokevirtual 186, 3) := by decide +kernel
theorem dX4_pass_45 : decode cX4_pass 45 = .ok (.iadd, 1) := by decide +kernel
theorem dX4_pass_46 : decode cX4_pass 46 = .ok (.istore 4, 2) := by decide +kernel
theorem dX4_pass_48 : decode cX4_pass 48 = .ok (.iinc 5 1, 3) := by decide +kernel
theorem dX4_pass_51 : decode cX4_pass 51 = .ok (.goto (-23), 3) := by decide +kernel
theorem dX4_pass_54 : decode cX4_pass 54 = .ok (.iload 4, 2) := by decide +kernel
theorem dX4_pass_56 : decode cX4_pass 56 = .ok (.ireturn, 1) := by decide +kernel
set_option maxRecDepth 20000 in
theorem ggX4_ofPerson_X1_personAt : GoodIn wsX4_ofPerson wsX1_personAt := goodIn_ca (goodIn_r _ [11, 12, 13, 14, 15, 16, 17, 18, 54, 55, 56, 57, 58, 59, 60, 61, 62, 63, 64] (by decide +kernel) (by decide +kernel)) (goodIn_sub (fun _ h => List.mem_cons_of_mem _ (List.mem_append_left _ (List.mem_append_right _ h))) (by decide +kernel))
set_option maxRecDepth 20000 in
theorem gX4_ofPerson_X1_personAt : GoodIn wsX4_ofPerson (wsV RX4 35 RX1 yX1_personAt wsX1_personAt) := goodIn_app (goodIn_of _ (by decide +kernel)) ggX4_ofPerson_X1_personAt
set_option maxRecDepth 20000 in
theorem ggX4_ofPerson_X4_checkArgument : GoodIn wsX4_ofPerson wsX4_checkArgument := goodIn_ca (goodIn_r _ [21, 22, 23] (by decide +kernel) (by decide +kernel)) (goodIn_sub (fun _ h => List.mem_cons_of_mem _ (List.mem_append_right _ h)) (by decide +kernel))
set_option maxRecDepth 20000 in
theorem gX4_ofPerson_X4_checkArgument : GoodIn wsX4_ofPerson (va_wsS RX4 19 yX4_checkArgument wsX4_checkArgument) := goodIn_app (goodIn_of _ (by decide +kernel)) ggX4_ofPerson_X4_checkArgument
set_option maxRecDepth 20000 in
theorem ggX4_ofPerson_X2_doubt : GoodIn wsX4_ofPerson wsX2_doubt := goodIn_r _ [28, 29, 30, 46, 47, 48, 49, 50, 51, 52, 53] (by decide +kernel) (by decide +kernel)
set_option maxRecDepth 20000 in
theorem gX4_ofPerson_X2_doubt : GoodIn wsX4_ofPerson (wsV RX4 189 RX2 yX2_doubt wsX2_doubt) := goodIn_app (goodIn_of _ (by decide +kernel)) ggX4_ofPerson_X2_doubt
set_option maxRecDepth 20000 in
theorem ggX4_ofPerson_X1_shownOf : GoodIn wsX4_ofPerson wsX1_shownOf := goodIn_r _ [34, 35, 36, 37, 38, 39, 40, 41, 42, 43, 54, 55, 56, 57, 58, 59, 60, 61, 62, 63, 64, 65, 66, 67, 68, 69, 70, 71, 72, 73, 74, 75] (by decide +kernel) (by decide +kernel)
set_option maxRecDepth 20000 in
theorem gX4_ofPerson_X1_shownOf : GoodIn wsX4_ofPerson (wsV RX4 171 RX1 yX1_shownOf wsX1_shownOf) := goodIn_app (goodIn_of _ (by decide +kernel)) ggX4_ofPerson_X1_shownOf
theorem dX4_ofPerson_0 : decode cX4_ofPerson 0 = .ok (.aload_n 0, 1) := by decide +kernel
theorem dX4_ofPerson_1 : decode cX4_ofPerson 1 = .ok (.getfield 10, 3) := by decide +kernel
theorem dX4_ofPerson_4 : decode cX4_ofPerson 4 = .ok (.iload_n 1, 1) := by decide +kernel
theorem dX4_ofPerson_5 : decode cX4_ofPerson 5 = .ok (.invokevirtual 35, 3) := by decide +kernel
theorem dX4_ofPerson_8 : decode cX4_ofPerson 8 = .ok (.astore_n 3, 1) := by decide +kernel
theorem dX4_ofPerson_9 : decode cX4_ofPerson 9 = .ok (.iload_n 2, 1) := by decide +kernel
theorem dX4_ofPerson_10 : decode cX4_ofPerson 10 = .ok (.iconst 0, 1) := by decide +kernel
theorem dX4_ofPerson_11 : decode cX4_ofPerson 11 = .ok (.bipush 10, 2) := by decide +kernel
theorem dX4_ofPerson_13 : decode cX4_ofPerson 13 = .ok (.invokestatic 19, 3) := by decide +kernel
theorem dX4_ofPerson_16 : decode cX4_ofPerson 16 = .ok (.iload_n 2, 1) := by decide +kernel
theorem dX4_ofPerson_17 : decode cX4_ofPerson 17 = .ok (.iconst 3, 1) := by decide +kernel
theorem dX4_ofPerson_18 : decode cX4_ofPerson 18 = .ok (.if_icmp .ge 10, 3) := by decide +kernel
theorem dX4_ofPerson_21 : decode cX4_ofPerson 21 = .ok (.aload_n 3, 1) := by decide +kernel
theorem dX4_ofPerson_22 : decode cX4_ofPerson 22 = .ok (.getfield 53, 3) := by decide +kernel
theorem dX4_ofPerson_25 : decode cX4_ofPerson 25 = .ok (.iload_n 2, 1) := by decide +kernel
theorem dX4_ofPerson_26 : decode cX4_ofPerson 26 = .ok (.iaload, 1) := by decide +kernel
theorem dX4_ofPerson_27 : decode cX4_ofPerson 27 = .ok (.ireturn, 1) := by decide +kernel
theorem dX4_ofPerson_28 : decode cX4_ofPerson 28 = .ok (.iload_n 2, 1) := by decide +kernel
theorem dX4_ofPerson_29 : decode cX4_ofPerson 29 = .ok (.bipush 6, 2) := by decide +kernel
theorem dX4_ofPerson_31 : decode cX4_ofPerson 31 = .ok (.if_icmp .ge 12, 3) := by decide +kernel
theorem dX4_ofPerson_34 : decode cX4_ofPerson 34 = .ok (.aload_n 3, 1) := by decide +kernel
theorem dX4_ofPerson_35 : decode cX4_ofPerson 35 = .ok (.getfield 43, 3) := by decide +kernel
theorem dX4_ofPerson_38 : decode cX4_ofPerson 38 = .ok (.iload_n 2, 1) := by decide +kernel
theorem dX4_ofPerson_39 : decode cX4_ofPerson 39 = .ok (.iconst 3, 1) := by decide +kernel
theorem dX4_ofPerson_40 : decode cX4_ofPerson 40 = .ok (.isub, 1) := by decide +kernel
theorem dX4_ofPerson_41 : decode cX4_ofPerson 41 = .ok (.iaload, 1) := by decide +kernel
theorem dX4_ofPerson_42 : decode cX4_ofPerson 42 = .ok (.ireturn, 1) := by decide +kernel
theorem dX4_ofPerson_43 : decode cX4_ofPerson 43 = .ok (.iload_n 2, 1) := by decide +kernel
theorem dX4_ofPerson_44 : decode cX4_ofPerson 44 = .ok (.tableswitch 60 6 9 #[32, 45, 50, 55], 32) := by decide +kernel
theorem dX4_ofPerson_76 : decode cX4_ofPerson 76 = .ok (.aload_n 3, 1) := by decide +kernel
theorem dX4_ofPerson_77 : decode cX4_ofPerson 77 = .ok (.getfield 56, 3) := by decide +kernel
theorem dX4_ofPerson_80 : decode cX4_ofPerson 80 = .ok (.ifCond .eq 7, 3) := by decide +kernel
theorem dX4_ofPerson_83 : decode cX4_ofPerson 83 = .ok (.iconst 1, 1) := by decide +kernel
theorem dX4_ofPerson_84 : decode cX4_ofPerson 84 = .ok (.goto 4, 3) := by decide +kernel
theorem dX4_ofPerson_87 : decode cX4_ofPerson 87 = .ok (.iconst 0, 1) := by decide +kernel
theorem dX4_ofPerson_88 : decode cX4_ofPerson 88 = .ok (.ireturn, 1) := by decide +kernel
theorem dX4_ofPerson_89 : decode cX4_ofPerson 89 = .ok (.aload_n 3, 1) := by decide +kernel
theorem dX4_ofPerson_90 : decode cX4_ofPerson 90 = .ok (.getfield 82, 3) := by decide +kernel
theorem dX4_ofPerson_93 : decode cX4_ofPerson 93 = .ok (.ireturn, 1) := by decide +kernel
theorem dX4_ofPerson_94 : decode cX4_ofPerson 94 = .ok (.aload_n 3, 1) := by decide +kernel
theorem dX4_ofPerson_95 : decode cX4_ofPerson 95 = .ok (.invokevirtual 189, 3) := by decide +kernel
theorem dX4_ofPerson_98 : decode cX4_ofPerson 98 = .ok (.ireturn, 1) := by decide +kernel
theorem dX4_ofPerson_99 : decode cX4_ofPerson 99 = .ok (.aload_n 3, 1) := by decide +kernel
theorem dX4_ofPerson_100 : decode cX4_ofPerson 100 = .ok (.getfield 192, 3) := by decide +kernel
theorem dX4_ofPerson_103 : decode cX4_ofPerson 103 = .ok (.ireturn, 1) := by decide +kernel
theorem dX4_ofPerson_104 : decode cX4_ofPerson 104 = .ok (.aload_n 0, 1) := by decide +kernel
theorem dX4_ofPerson_105 : decode cX4_ofPerson 105 = .ok (.getfield 10, 3) := by decide +kernel
theorem dX4_ofPerson_108 : decode cX4_ofPerson 108 = .ok (.aload_n 3, 1) := by decide +kernel
theorem dX4_ofPerson_109 : decode cX4_ofPerson 109 = .ok (.invokevirtual 171, 3) := by decide +kernel
theorem dX4_ofPerson_112 : decode cX4_ofPerson 112 = .ok (.ireturn, 1) := by decide +kernel
set_option maxRecDepth 20000 in
theorem ggX4_known_X1_personAt : GoodIn wsX4_known wsX1_personAt := goodIn_ca (goodIn_r _ [8, 9, 10, 11, 12, 13, 14, 15, 27, 28, 29, 30, 31, 32, 33, 34, 35, 36, 37] (by decide +kernel) (by decide +kernel)) (goodIn_sub (fun _ h => List.mem_cons_of_mem _ (List.mem_append_right _ h)) (by decide +kernel))
set_option maxRecDepth 20000 in
theorem gX4_known_X1_personAt : GoodIn wsX4_known (wsV RX4 35 RX1 yX1_personAt wsX1_personAt) := goodIn_app (goodIn_of _ (by decide +kernel)) ggX4_known_X1_personAt
set_option maxRecDepth 20000 in
theorem ggX4_known_X4_checkIndex : GoodIn wsX4_known wsX4_checkIndex := goodIn_ca (goodIn_r _ [13, 14, 15] (by decide +kernel) (by decide +kernel)) (goodIn_sub (fun _ h => List.mem_cons_of_mem _ (List.mem_append_right _ h)) (by decide +kernel))
set_option maxRecDepth 20000 in
theorem gX4_known_X4_checkIndex : GoodIn wsX4_known (va_wsS RX4 39 yX4_checkIndex wsX4_checkIndex) := goodIn_app (goodIn_of _ (by decide +kernel)) ggX4_known_X4_checkIndex
theorem dX4_known_0 : decode cX4_known 0 = .ok (.aload_n 0, 1) := by decide +kernel
theorem dX4_known_1 : decode cX4_known 1 = .ok (.getfield 10, 3) := by decide +kernel
theorem dX4_known_4 : decode cX4_known 4 = .ok (.iload_n 1, 1) := by decide +kernel
theorem dX4_known_5 : decode cX4_known 5 = .ok (.invokevirtual 35, 3) := by decide +kernel
theorem dX4_known_8 : decode cX4_known 8 = .ok (.astore 4, 2) := by decide +kernel
theorem dX4_known_10 : decode cX4_known 10 = .ok (.iload_n 2, 1) := by decide +kernel
theorem dX4_known_11 : decode cX4_known 11 = .ok (.bipush 6, 2) := by decide +kernel
theorem dX4_known_13 : decode cX4_known 13 = .ok (.invokestatic 39, 3) := by decide +kernel
theorem dX4_known_16 : decode cX4_known 16 = .ok (.iload_n 3, 1) := by decide +kernel
theorem dX4_known_17 : decode cX4_known 17 = .ok (.ifCond .eq 13, 3) := by decide +kernel
theorem dX4_known_20 : decode cX4_known 20 = .ok (.aload 4, 2) := by decide +kernel
theorem dX4_known_22 : decode cX4_known 22 = .ok (.getfield 76, 3) := by decide +kernel
theorem dX4_known_25 : decode cX4_known 25 = .ok (.iload_n 2, 1) := by decide +kernel
theorem dX4_known_26 : decode cX4_known 26 = .ok (.iaload, 1) := by decide +kernel
theorem dX4_known_27 : decode cX4_known 27 = .ok (.goto 10, 3) := by decide +kernel
theorem dX4_known_30 : decode cX4_known 30 = .ok (.aload 4, 2) := by decide +kernel
theorem dX4_known_32 : decode cX4_known 32 = .ok (.getfield 79, 3) := by decide +kernel
theorem dX4_known_35 : decode cX4_known 35 = .ok (.iload_n 2, 1) := by decide +kernel
theorem dX4_known_36 : decode cX4_known 36 = .ok (.iaload, 1) := by decide +kernel
theorem dX4_known_37 : decode cX4_known 37 = .ok (.ireturn, 1) := by decide +kernel
set_option maxRecDepth 20000 in
theorem ggX4_ofFigure_X1_figureAt : GoodIn wsX4_ofFigure wsX1_figureAt := goodIn_ca (goodIn_r _ [16, 17, 18, 19, 20, 21, 22, 23, 87, 88, 89, 90, 91, 92, 93, 94, 95, 96, 97] (by decide +kernel) (by decide +kernel)) (goodIn_sub (fun _ h => List.mem_cons_of_mem _ (List.mem_append_left _ (List.mem_append_right _ h))) (by decide +kernel))
set_option maxRecDepth 20000 in
theorem gX4_ofFigure_X1_figureAt : GoodIn wsX4_ofFigure (wsV RX4 94 RX1 yX1_figureAt wsX1_figureAt) := goodIn_app (goodIn_of _ (by decide +kernel)) ggX4_ofFigure_X1_figureAt
set_option maxRecDepth 20000 in
theorem ggX4_ofFigure_X4_checkArgument : GoodIn wsX4_ofFigure wsX4_checkArgument := goodIn_ca (goodIn_r _ [26, 27, 28] (by decide +kernel) (by decide +kernel)) (goodIn_sub (fun _ h => List.mem_cons_of_mem _ (List.mem_append_right _ h)) (by decide +kernel))
set_option maxRecDepth 20000 in
theorem gX4_ofFigure_X4_checkArgument : GoodIn wsX4_ofFigure (va_wsS RX4 19 yX4_checkArgument wsX4_checkArgument) := goodIn_app (goodIn_of _ (by decide +kernel)) ggX4_ofFigure_X4_checkArgument
set_option maxRecDepth 20000 in
theorem ggX4_ofFigure_X0_workLeftInStep : GoodIn wsX4_ofFigure wsX0_workLeftInStep := goodIn_r _ [33, 34, 35, 68, 69, 70, 71, 72, 73, 74, 75, 76, 77, 78] (by decide +kernel) (by decide +kernel)
set_option maxRecDepth 20000 in
theorem gX4_ofFigure_X0_workLeftInStep : GoodIn wsX4_ofFigure (wsV RX4 201 RX0 yX0_workLeftInStep wsX0_workLeftInStep) := goodIn_app (goodIn_of _ (by decide +kernel)) ggX4_ofFigure_X0_workLeftInStep
set_option maxRecDepth 20000 in
theorem ggX4_ofFigure_X0_likeness : GoodIn wsX4_ofFigure wsX0_likeness := goodIn_r _ [39, 40, 41, 42, 43, 44, 45, 46, 32, 47, 34, 48, 49, 50, 51, 52, 53, 54, 55, 68, 69, 70, 71, 72, 73, 74, 75, 76, 77, 78, 79, 80, 81, 82, 83, 84, 85, 86] (by decide +kernel) (by decide +kernel)
set_option maxRecDepth 20000 in
theorem gX4_ofFigure_X0_likeness : GoodIn wsX4_ofFigure (wsV RX4 128 RX0 yX0_likeness wsX0_likeness) := goodIn_app (goodIn_of _ (by decide +kernel)) ggX4_ofFigure_X0_likeness
set_option maxRecDepth 20000 in
theorem ggX4_ofFigure_X0_draw : GoodIn wsX4_ofFigure wsX0_draw := goodIn_r _ [59, 42, 60, 61, 62, 63, 32, 64, 48, 65, 37, 38, 39, 40, 41, 43, 44, 45, 46, 47, 34, 49, 50, 51, 52, 53, 54, 55, 68, 69, 70, 71, 72, 73, 74, 75, 76, 77, 78, 79, 80, 81, 82, 83, 84, 85, 86] (by decide +kernel) (by decide +kernel)
set_option maxRecDepth 20000 in
theorem gX4_ofFigure_X0_draw : GoodIn wsX4_ofFigure (wsV RX4 174 RX0 yX0_draw wsX0_draw) := goodIn_app (goodIn_of _ (by decide +kernel)) ggX4_ofFigure_X0_draw
theorem dX4_ofFigure_0 : decode cX4_ofFigure 0 = .ok (.aload_n 0, 1) := by decide +kernel
theorem dX4_ofFigure_1 : decode cX4_ofFigure 1 = .ok (.getfield 10, 3) := by decide +kernel
theorem dX4_ofFigure_4 : decode cX4_ofFigure 4 = .ok (.iload_n 1, 1) := by decide +kernel
theorem dX4_ofFigure_5 : decode cX4_ofFigure 5 = .ok (.invokevirtual 94, 3) := by decide +kernel
theorem dX4_ofFigure_8 : decode cX4_ofFigure 8 = .ok (.astore_n 3, 1) := by decide +kernel
theorem dX4_ofFigure_9 : decode cX4_ofFigure 9 = .ok (.iload_n 2, 1) := by decide +kernel
theorem dX4_ofFigure_10 : decode cX4_ofFigure 10 = .ok (.iconst 0, 1) := by decide +kernel
theorem dX4_ofFigure_11 : decode cX4_ofFigure 11 = .ok (.bipush 11, 2) := by decide +kernel
theorem dX4_ofFigure_13 : decode cX4_ofFigure 13 = .ok (.invokestatic 19, 3) := by decide +kernel
theorem dX4_ofFigure_16 : decode cX4_ofFigure 16 = .ok (.iload_n 2, 1) := by decide +kernel
theorem dX4_ofFigure_17 : decode cX4_ofFigure 17 = .ok (.tableswitch 120 0 10 #[59, 67, 75, 80, 85, 90, 95, 100, 105, 110, 115], 59) := by decide +kernel
theorem dX4_ofFigure_76 : decode cX4_ofFigure 76 = .ok (.aload_n 3, 1) := by decide +kernel
theorem dX4_ofFigure_77 : decode cX4_ofFigure 77 = .ok (.getfield 140, 3) := by decide +kernel
theorem dX4_ofFigure_80 : decode cX4_ofFigure 80 = .ok (.getfield 195, 3) := by decide +kernel
theorem dX4_ofFigure_83 : decode cX4_ofFigure 83 = .ok (.ireturn, 1) := by decide +kernel
theorem dX4_ofFigure_84 : decode cX4_ofFigure 84 = .ok (.aload_n 3, 1) := by decide +kernel
theorem dX4_ofFigure_85 : decode cX4_ofFigure 85 = .ok (.getfield 198, 3) := by decide +kernel
theorem dX4_ofFigure_88 : decode cX4_ofFigure 88 = .ok (.getfield 195, 3) := by decide +kernel
theorem dX4_ofFigure_91 : decode cX4_ofFigure 91 = .ok (.ireturn, 1) := by decide +kernel
theorem dX4_ofFigure_92 : decode cX4_ofFigure 92 = .ok (.aload_n 3, 1) := by decide +kernel
theorem dX4_ofFigure_93 : decode cX4_ofFigure 93 = .ok (.getfield 107, 3) := by decide +kernel
theorem dX4_ofFigure_96 : decode cX4_ofFigure 96 = .ok (.ireturn, 1) := by decide +kernel
theorem dX4_ofFigure_97 : decode cX4_ofFigure 97 = .ok (.aload_n 3, 1) := by decide +kernel
theorem dX4_ofFigure_98 : decode cX4_ofFigure 98 = .ok (.invokevirtual 201, 3) := by decide +kernel
theorem dX4_ofFigure_101 : decode cX4_ofFigure 101 = .ok (.ireturn, 1) := by decide +kernel
theorem dX4_ofFigure_102 : decode cX4_ofFigure 102 = .ok (.aload_n 3, 1) := by decide +kernel
theorem dX4_ofFigure_103 : decode cX4_ofFigure 103 = .ok (.getfield 102, 3) := by decide +kernel
theorem dX4_ofFigure_106 : decode cX4_ofFigure 106 = .ok (.ireturn, 1) := by decide +kernel
theorem dX4_ofFigure_107 : decode cX4_ofFigure 107 = .ok (.aload_n 3, 1) := by decide +kernel
theorem dX4_ofFigure_108 : decode cX4_ofFigure 108 = .ok (.getfield 204, 3) := by decide +kernel
theorem dX4_ofFigure_111 : decode cX4_ofFigure 111 = .ok (.ireturn, 1) := by decide +kernel
theorem dX4_ofFigure_112 : decode cX4_ofFigure 112 = .ok (.aload_n 3, 1) := by decide +kernel
theorem dX4_ofFigure_113 : decode cX4_ofFigure 113 = .ok (.getfield 131, 3) := by decide +kernel
theorem dX4_ofFigure_116 : decode cX4_ofFigure 116 = .ok (.ireturn, 1) := by decide +kernel
theorem dX4_ofFigure_117 : decode cX4_ofFigure 117 = .ok (.aload_n 3, 1) := by decide +kernel
theorem dX4_ofFigure_118 : decode cX4_ofFigure 118 = .ok (.invokevirtual 128, 3) := by decide +kernel
theorem dX4_ofFigure_121 : decode cX4_ofFigure 121 = .ok (.ireturn, 1) := by decide +kernel
theorem dX4_ofFigure_122 : decode cX4_ofFigure 122 = .ok (.aload_n 3, 1) := by decide +kernel
theorem dX4_ofFigure_123 : decode cX4_ofFigure 123 = .ok (.getfield 110, 3) := by decide +kernel
theorem dX4_ofFigure_126 : decode cX4_ofFigure 126 = .ok (.ireturn, 1) := by decide +kernel
theorem dX4_ofFigure_127 : decode cX4_ofFigure 127 = .ok (.aload_n 3, 1) := by decide +kernel
theorem dX4_ofFigure_128 : decode cX4_ofFigure 128 = .ok (.getfield 147, 3) := by decide +kernel
theorem dX4_ofFigure_131 : decode cX4_ofFigure 131 = .ok (.ireturn, 1) := by decide +kernel
theorem dX4_ofFigure_132 : decode cX4_ofFigure 132 = .ok (.aload_n 3, 1) := by decide +kernel
theorem dX4_ofFigure_133 : decode cX4_ofFigure 133 = .ok (.invokevirtual 174, 3) := by decide +kernel
theorem dX4_ofFigure_136 : decode cX4_ofFigure 136 = .ok (.ireturn, 1) := by decide +kernel
theorem dX4_ofFigure_137 : decode cX4_ofFigure 137 = .ok (.aload_n 3, 1) := by decide +kernel
theorem dX4_ofFigure_138 : decode cX4_ofFigure 138 = .ok (.getfield 207, 3) := by decide +kernel
theorem dX4_ofFigure_141 : decode cX4_ofFigure 141 = .ok (.ireturn, 1) := by decide +kernel
set_option maxRecDepth 20000 in
theorem ggX4_ofRoom_X1_roomAt : GoodIn wsX4_ofRoom wsX1_roomAt := goodIn_ca (goodIn_r _ [8, 9, 10, 11, 12, 13, 14, 15, 67, 68, 69, 70, 71, 72, 73, 74, 75, 76, 77] (by decide +kernel) (by decide +kernel)) (goodIn_sub (fun _ h => List.mem_cons_of_mem _ (List.mem_append_left _ (List.mem_append_right _ h))) (by decide +kernel))
set_option maxRecDepth 20000 in
theorem gX4_ofRoom_X1_roomAt : GoodIn wsX4_ofRoom (wsV RX4 156 RX1 yX1_roomAt wsX1_roomAt) := goodIn_app (goodIn_of _ (by decide +kernel)) ggX4_ofRoom_X1_roomAt
set_option maxRecDepth 20000 in
theorem ggX4_ofRoom_X4_checkArgument : GoodIn wsX4_ofRoom wsX4_checkArgument := goodIn_ca (goodIn_r _ [18, 19, 20] (by decide +kernel) (by decide +kernel)) (goodIn_sub (fun _ h => List.mem_cons_of_mem _ (List.mem_append_right _ h)) (by decide +kernel))
set_option maxRecDepth 20000 in
theorem gX4_ofRoom_X4_checkArgument : GoodIn wsX4_ofRoom (va_wsS RX4 19 yX4_checkArgument wsX4_checkArgument) := goodIn_app (goodIn_of _ (by decide +kernel)) ggX4_ofRoom_X4_checkArgument
set_option maxRecDepth 20000 in
theorem ggX4_ofRoom_X1_figuresIn : GoodIn wsX4_ofRoom wsX1_figuresIn := goodIn_r _ [24, 25, 26, 27, 67, 68, 69, 70, 71, 72, 73, 74, 75, 76, 77, 78, 79, 80, 81, 82, 83, 84, 85, 86, 87, 88] (by decide +kernel) (by decide +kernel)
set_option maxRecDepth 20000 in
theorem gX4_ofRoom_X1_figuresIn : GoodIn wsX4_ofRoom (wsV RX4 165 RX1 yX1_figuresIn wsX1_figuresIn) := goodIn_app (goodIn_of _ (by decide +kernel)) ggX4_ofRoom_X1_figuresIn
set_option maxRecDepth 20000 in
theorem ggX4_ofRoom_X1_drawsIn : GoodIn wsX4_ofRoom wsX1_drawsIn := goodIn_r _ [31, 25, 26, 27, 32, 33, 34, 35, 36, 37, 38, 39, 40, 41, 42, 43, 44, 45, 46, 47, 48, 49, 50, 51, 52, 53, 54, 55, 56, 57, 58, 59, 60, 61, 62, 67, 68, 69, 70, 71, 72, 73, 74, 75, 76, 77, 78, 79, 80, 81, 82, 83, 84, 85, 86, 87, 88, 89, 90, 91, 92, 93, 94, 95, 96] (by decide +kernel) (by decide +kernel)
set_option maxRecDepth 20000 in
theorem gX4_ofRoom_X1_drawsIn : GoodIn wsX4_ofRoom (wsV RX4 210 RX1 yX1_drawsIn wsX1_drawsIn) := goodIn_app (goodIn_of _ (by decide +kernel)) ggX4_ofRoom_X1_drawsIn
theorem dX4_ofRoom_0 : decode cX4_ofRoom 0 = .ok (.aload_n 0, 1) := by decide +kernel
theorem dX4_ofRoom_1 : decode cX4_ofRoom 1 = .ok (.getfield 10, 3) := by decide +kernel
theorem dX4_ofRoom_4 : decode cX4_ofRoom 4 = .ok (.iload_n 1, 1) := by decide +kernel
theorem dX4_ofRoom_5 : decode cX4_ofRoom 5 = .ok (.invokevirtual 156, 3) := by decide +kernel
theorem dX4_ofRoom_8 : decode cX4_ofRoom 8 = .ok (.astore_n 3, 1) := by decide +kernel
theorem dX4_ofRoom_9 : decode cX4_ofRoom 9 = .ok (.iload_n 2, 1) := by decide +kernel
theorem dX4_ofRoom_10 : decode cX4_ofRoom 10 = .ok (.iconst 0, 1) := by decide +kernel
theorem dX4_ofRoom_11 : decode cX4_ofRoom 11 = .ok (.iconst 3, 1) := by decide +kernel
theorem dX4_ofRoom_12 : decode cX4_ofRoom 12 = .ok (.invokestatic 19, 3) := by decide +kernel
theorem dX4_ofRoom_15 : decode cX4_ofRoom 15 = .ok (.iload_n 2, 1) := by decide +kernel
theorem dX4_ofRoom_16 : decode cX4_ofRoom 16 = .ok (.tableswitch 53 0 2 #[28, 33, 38], 28) := by decide +kernel
theorem dX4_ofRoom_44 : decode cX4_ofRoom 44 = .ok (.aload_n 3, 1) := by decide +kernel
theorem dX4_ofRoom_45 : decode cX4_ofRoom 45 = .ok (.getfield 160, 3) := by decide +kernel
theorem dX4_ofRoom_48 : decode cX4_ofRoom 48 = .ok (.ireturn, 1) := by decide +kernel
theorem dX4_ofRoom_49 : decode cX4_ofRoom 49 = .ok (.aload_n 3, 1) := by decide +kernel
theorem dX4_ofRoom_50 : decode cX4_ofRoom 50 = .ok (.getfield 168, 3) := by decide +kernel
theorem dX4_ofRoom_53 : decode cX4_ofRoom 53 = .ok (.ireturn, 1) := by decide +kernel
theorem dX4_ofRoom_54 : decode cX4_ofRoom 54 = .ok (.aload_n 3, 1) := by decide +kernel
theorem dX4_ofRoom_55 : decode cX4_ofRoom 55 = .ok (.getfield 168, 3) := by decide +kernel
theorem dX4_ofRoom_58 : decode cX4_ofRoom 58 = .ok (.aload_n 0, 1) := by decide +kernel
theorem dX4_ofRoom_59 : decode cX4_ofRoom 59 = .ok (.getfield 10, 3) := by decide +kernel
theorem dX4_ofRoom_62 : decode cX4_ofRoom 62 = .ok (.iload_n 1, 1) := by decide +kernel
theorem dX4_ofRoom_63 : decode cX4_ofRoom 63 = .ok (.iload_n 1, 1) := by decide +kernel
theorem dX4_ofRoom_64 : decode cX4_ofRoom 64 = .ok (.invokevirtual 165, 3) := by decide +kernel
theorem dX4_ofRoom_67 : decode cX4_ofRoom 67 = .ok (.isub, 1) := by decide +kernel
theorem dX4_ofRoom_68 : decode cX4_ofRoom 68 = .ok (.ireturn, 1) := by decide +kernel
theorem dX4_ofRoom_69 : decode cX4_ofRoom 69 = .ok (.aload_n 0, 1) := by decide +kernel
theorem dX4_ofRoom_70 : decode cX4_ofRoom 70 = .ok (.getfield 10, 3) := by decide +kernel
theorem dX4_ofRoom_73 : decode cX4_ofRoom 73 = .ok (.iload_n 1, 1) := by decide +kernel
theorem dX4_ofRoom_74 : decode cX4_ofRoom 74 = .ok (.iload_n 1, 1) := by decide +kernel
theorem dX4_ofRoom_75 : decode cX4_ofRoom 75 = .ok (.invokevirtual 210, 3) := by decide +kernel
theorem dX4_ofRoom_78 : decode cX4_ofRoom 78 = .ok (.ireturn, 1) := by decide +kernel
set_option maxRecDepth 20000 in
theorem ggX4_many_X4_checkArgument : GoodIn wsX4_many wsX4_checkArgument := goodIn_ca (goodIn_r _ [13, 14, 15] (by decide +kernel) (by decide +kernel)) (goodIn_sub (fun _ h => List.mem_cons_of_mem _ (List.mem_append_right _ h)) (by decide +kernel))
end
section
set_option maxRecDepth 20000 in
theorem gX4_many_X4_checkArgument : GoodIn wsX4_many (va_wsS RX4 19 yX4_checkArgument wsX4_checkArgument) := goodIn_app (goodIn_of _ (by decide +kernel)) ggX4_many_X4_checkArgument
set_option maxRecDepth 20000 in
theorem ggX4_many_X1_figuresDone : GoodIn wsX4_many wsX1_figuresDone := goodIn_r _ [20, 21, 22, 23, 24, 25, 26, 27, 28, 29, 78, 79, 80, 81, 82, 83, 84, 85, 86, 87, 88, 89, 90, 91, 92, 93, 94, 95, 96, 97, 98, 99] (by decide +kernel) (by decide +kernel)
set_option maxRecDepth 20000 in
theorem gX4_many_X1_figuresDone : GoodIn wsX4_many (wsV RX4 216 RX1 yX1_figuresDone wsX1_figuresDone) := goodIn_app (goodIn_of _ (by decide +kernel)) ggX4_many_X1_figuresDone
set_option maxRecDepth 20000 in
theorem ggX4_many_X1_figuresIn : GoodIn wsX4_many wsX1_figuresIn := goodIn_r _ [33, 21, 22, 34, 78, 79, 80, 81, 82, 83, 84, 85, 86, 87, 88, 89, 90, 91, 92, 93, 94, 95, 96, 97, 98, 99] (by decide +kernel) (by decide +kernel)
set_option maxRecDepth 20000 in
theorem gX4_many_X1_figuresIn : GoodIn wsX4_many (wsV RX4 165 RX1 yX1_figuresIn wsX1_figuresIn) := goodIn_app (goodIn_of _ (by decide +kernel)) ggX4_many_X1_figuresIn
set_option maxRecDepth 20000 in
theorem ggX4_many_X1_allDue : GoodIn wsX4_many wsX1_allDue := goodIn_r _ [38, 39, 40, 41, 78, 79, 80, 81, 82, 83, 84, 85, 86, 87, 88, 100, 101, 102, 103, 104, 105, 106, 107] (by decide +kernel) (by decide +kernel)
set_option maxRecDepth 20000 in
theorem gX4_many_X1_allDue : GoodIn wsX4_many (wsV RX4 219 RX1 yX1_allDue wsX1_allDue) := goodIn_app (goodIn_of _ (by decide +kernel)) ggX4_many_X1_allDue
set_option maxRecDepth 20000 in
theorem ggX4_many_X1_allHands : GoodIn wsX4_many wsX1_allHands := goodIn_r _ [45, 21, 22, 46, 78, 79, 80, 81, 82, 83, 84, 85, 86, 87, 88, 89, 90, 91, 92, 93, 94, 95, 96, 97, 98, 99] (by decide +kernel) (by decide +kernel)
set_option maxRecDepth 20000 in
theorem gX4_many_X1_allHands : GoodIn wsX4_many (wsV RX4 98 RX1 yX1_allHands wsX1_allHands) := goodIn_app (goodIn_of _ (by decide +kernel)) ggX4_many_X1_allHands
set_option maxRecDepth 20000 in
theorem ggX4_many_X1_drawsIn : GoodIn wsX4_many wsX1_drawsIn := goodIn_r _ [50, 21, 22, 34, 51, 52, 53, 26, 54, 55, 56, 57, 58, 59, 60, 29, 61, 62, 63, 64, 65, 66, 67, 68, 24, 25, 27, 28, 69, 70, 71, 72, 73, 74, 75, 78, 79, 80, 81, 82, 83, 84, 85, 86, 87, 88, 89, 90, 91, 92, 93, 94, 95, 96, 97, 98, 99, 100, 101, 102, 103, 104, 105, 106, 107] (by decide +kernel) (by decide +kernel)
set_option maxRecDepth 20000 in
theorem gX4_many_X1_drawsIn : GoodIn wsX4_many (wsV RX4 210 RX1 yX1_drawsIn wsX1_drawsIn) := goodIn_app (goodIn_of _ (by decide +kernel)) ggX4_many_X1_drawsIn
theorem dX4_many_0 : decode cX4_many 0 = .ok (.iload_n 1, 1) := by decide +kernel
theorem dX4_many_1 : decode cX4_many 1 = .ok (.iconst 0, 1) := by decide +kernel
theorem dX4_many_2 : decode cX4_many 2 = .ok (.bipush 14, 2) := by decide +kernel
theorem dX4_many_4 : decode cX4_many 4 = .ok (.invokestatic 19, 3) := by decide +kernel
theorem dX4_many_7 : decode cX4_many 7 = .ok (.iload_n 1, 1) := by decide +kernel
theorem dX4_many_8 : decode cX4_many 8 = .ok (.tableswitch 194 0 13 #[72, 80, 88, 96, 104, 114, 126, 138, 146, 154, 162, 170, 178, 186], 72) := by decide +kernel
theorem dX4_many_80 : decode cX4_many 80 = .ok (.aload_n 0, 1) := by decide +kernel
theorem dX4_many_81 : decode cX4_many 81 = .ok (.getfield 10, 3) := by decide +kernel
theorem dX4_many_84 : decode cX4_many 84 = .ok (.getfield 213, 3) := by decide +kernel
theorem dX4_many_87 : decode cX4_many 87 = .ok (.ireturn, 1) := by decide +kernel
theorem dX4_many_88 : decode cX4_many 88 = .ok (.aload_n 0, 1) := by decide +kernel
theorem dX4_many_89 : decode cX4_many 89 = .ok (.getfield 10, 3) := by decide +kernel
theorem dX4_many_92 : decode cX4_many 92 = .ok (.getfield 23, 3) := by decide +kernel
theorem dX4_many_95 : decode cX4_many 95 = .ok (.ireturn, 1) := by decide +kernel
theorem dX4_many_96 : decode cX4_many 96 = .ok (.aload_n 0, 1) := by decide +kernel
theorem dX4_many_97 : decode cX4_many 97 = .ok (.getfield 10, 3) := by decide +kernel
theorem dX4_many_100 : decode cX4_many 100 = .ok (.getfield 88, 3) := by decide +kernel
theorem dX4_many_103 : decode cX4_many 103 = .ok (.ireturn, 1) := by decide +kernel
theorem dX4_many_104 : decode cX4_many 104 = .ok (.aload_n 0, 1) := by decide +kernel
theorem dX4_many_105 : decode cX4_many 105 = .ok (.getfield 10, 3) := by decide +kernel
theorem dX4_many_108 : decode cX4_many 108 = .ok (.invokevirtual 216, 3) := by decide +kernel
theorem dX4_many_111 : decode cX4_many 111 = .ok (.ireturn, 1) := by decide +kernel
theorem dX4_many_112 : decode cX4_many 112 = .ok (.aload_n 0, 1) := by decide +kernel
theorem dX4_many_113 : decode cX4_many 113 = .ok (.getfield 10, 3) := by decide +kernel
theorem dX4_many_116 : decode cX4_many 116 = .ok (.iconst 0, 1) := by decide +kernel
theorem dX4_many_117 : decode cX4_many 117 = .ok (.iconst 4, 1) := by decide +kernel
theorem dX4_many_118 : decode cX4_many 118 = .ok (.invokevirtual 165, 3) := by decide +kernel
theorem dX4_many_121 : decode cX4_many 121 = .ok (.ireturn, 1) := by decide +kernel
theorem dX4_many_122 : decode cX4_many 122 = .ok (.aload_n 0, 1) := by decide +kernel
theorem dX4_many_123 : decode cX4_many 123 = .ok (.getfield 10, 3) := by decide +kernel
theorem dX4_many_126 : decode cX4_many 126 = .ok (.bipush 6, 2) := by decide +kernel
theorem dX4_many_128 : decode cX4_many 128 = .ok (.bipush 6, 2) := by decide +kernel
theorem dX4_many_130 : decode cX4_many 130 = .ok (.invokevirtual 165, 3) := by decide +kernel
theorem dX4_many_133 : decode cX4_many 133 = .ok (.ireturn, 1) := by decide +kernel
theorem dX4_many_134 : decode cX4_many 134 = .ok (.aload_n 0, 1) := by decide +kernel
theorem dX4_many_135 : decode cX4_many 135 = .ok (.getfield 10, 3) := by decide +kernel
theorem dX4_many_138 : decode cX4_many 138 = .ok (.bipush 7, 2) := by decide +kernel
theorem dX4_many_140 : decode cX4_many 140 = .ok (.bipush 7, 2) := by decide +kernel
theorem dX4_many_142 : decode cX4_many 142 = .ok (.invokevirtual 165, 3) := by decide +kernel
theorem dX4_many_145 : decode cX4_many 145 = .ok (.ireturn, 1) := by decide +kernel
theorem dX4_many_146 : decode cX4_many 146 = .ok (.aload_n 0, 1) := by decide +kernel
theorem dX4_many_147 : decode cX4_many 147 = .ok (.getfield 10, 3) := by decide +kernel
theorem dX4_many_150 : decode cX4_many 150 = .ok (.getfield 150, 3) := by decide +kernel
theorem dX4_many_153 : decode cX4_many 153 = .ok (.ireturn, 1) := by decide +kernel
theorem dX4_many_154 : decode cX4_many 154 = .ok (.aload_n 0, 1) := by decide +kernel
theorem dX4_many_155 : decode cX4_many 155 = .ok (.getfield 10, 3) := by decide +kernel
theorem dX4_many_158 : decode cX4_many 158 = .ok (.getfield 85, 3) := by decide +kernel
theorem dX4_many_161 : decode cX4_many 161 = .ok (.ireturn, 1) := by decide +kernel
theorem dX4_many_162 : decode cX4_many 162 = .ok (.aload_n 0, 1) := by decide +kernel
theorem dX4_many_163 : decode cX4_many 163 = .ok (.getfield 10, 3) := by decide +kernel
theorem dX4_many_166 : decode cX4_many 166 = .ok (.getfield 134, 3) := by decide +kernel
theorem dX4_many_169 : decode cX4_many 169 = .ok (.ireturn, 1) := by decide +kernel
theorem dX4_many_170 : decode cX4_many 170 = .ok (.aload_n 0, 1) := by decide +kernel
theorem dX4_many_171 : decode cX4_many 171 = .ok (.getfield 10, 3) := by decide +kernel
theorem dX4_many_174 : decode cX4_many 174 = .ok (.invokevirtual 219, 3) := by decide +kernel
theorem dX4_many_177 : decode cX4_many 177 = .ok (.ireturn, 1) := by decide +kernel
theorem dX4_many_178 : decode cX4_many 178 = .ok (.aload_n 0, 1) := by decide +kernel
theorem dX4_many_179 : decode cX4_many 179 = .ok (.getfield 10, 3) := by decide +kernel
theorem dX4_many_182 : decode cX4_many 182 = .ok (.getfield 222, 3) := by decide +kernel
theorem dX4_many_185 : decode cX4_many 185 = .ok (.ireturn, 1) := by decide +kernel
theorem dX4_many_186 : decode cX4_many 186 = .ok (.aload_n 0, 1) := by decide +kernel
theorem dX4_many_187 : decode cX4_many 187 = .ok (.getfield 10, 3) := by decide +kernel
theorem dX4_many_190 : decode cX4_many 190 = .ok (.invokevirtual 98, 3) := by decide +kernel
theorem dX4_many_193 : decode cX4_many 193 = .ok (.ireturn, 1) := by decide +kernel
theorem dX4_many_194 : decode cX4_many 194 = .ok (.aload_n 0, 1) := by decide +kernel
theorem dX4_many_195 : decode cX4_many 195 = .ok (.getfield 10, 3) := by decide +kernel
theorem dX4_many_198 : decode cX4_many 198 = .ok (.getfield 183, 3) := by decide +kernel
theorem dX4_many_201 : decode cX4_many 201 = .ok (.ireturn, 1) := by decide +kernel
theorem dX4_many_202 : decode cX4_many 202 = .ok (.aload_n 0, 1) := by decide +kernel
theorem dX4_many_203 : decode cX4_many 203 = .ok (.getfield 10, 3) := by decide +kernel
theorem dX4_many_206 : decode cX4_many 206 = .ok (.iconst 0, 1) := by decide +kernel
theorem dX4_many_207 : decode cX4_many 207 = .ok (.iconst 4, 1) := by decide +kernel
theorem dX4_many_208 : decode cX4_many 208 = .ok (.invokevirtual 210, 3) := by decide +kernel
theorem dX4_many_211 : decode cX4_many 211 = .ok (.ireturn, 1) := by decide +kernel
set_option maxRecDepth 20000 in
theorem ggX4_meanLikeness_X1_figuresIn : GoodIn wsX4_meanLikeness wsX1_figuresIn := goodIn_r _ [6, 7, 8, 9, 42, 43, 44, 45, 46, 47, 48, 49, 50, 51, 52, 53, 54, 55, 56, 57, 58, 59, 60, 61, 62, 63] (by decide +kernel) (by decide +kernel)
set_option maxRecDepth 20000 in
theorem gX4_meanLikeness_X1_figuresIn : GoodIn wsX4_meanLikeness (wsV RX4 165 RX1 yX1_figuresIn wsX1_figuresIn) := goodIn_app (goodIn_of _ (by decide +kernel)) ggX4_meanLikeness_X1_figuresIn
set_option maxRecDepth 20000 in
theorem ggX4_meanLikeness_X1_likenessShown : GoodIn wsX4_meanLikeness wsX1_likenessShown := goodIn_r _ [13, 7, 8, 14, 15, 16, 17, 18, 19, 20, 21, 22, 23, 24, 25, 26, 27, 28, 29, 30, 31, 32, 33, 34, 35, 36, 37, 38, 39, 42, 43, 44, 45, 46, 47, 48, 49, 50, 51, 52, 53, 54, 55, 56, 57, 58, 59, 60, 61, 62, 63, 64, 65, 66, 67, 68, 69, 70, 71] (by decide +kernel) (by decide +kernel)
set_option maxRecDepth 20000 in
theorem gX4_meanLikeness_X1_likenessShown : GoodIn wsX4_meanLikeness (wsV RX4 225 RX1 yX1_likenessShown wsX1_likenessShown) := goodIn_app (goodIn_of _ (by decide +kernel)) ggX4_meanLikeness_X1_likenessShown
theorem dX4_meanLikeness_0 : decode cX4_meanLikeness 0 = .ok (.aload_n 0, 1) := by decide +kernel
theorem dX4_meanLikeness_1 : decode cX4_meanLikeness 1 = .ok (.getfield 10, 3) := by decide +kernel
theorem dX4_meanLikeness_4 : decode cX4_meanLikeness 4 = .ok (.iconst 0, 1) := by decide +kernel
theorem dX4_meanLikeness_5 : decode cX4_meanLikeness 5 = .ok (.iconst 4, 1) := by decide +kernel
theorem dX4_meanLikeness_6 : decode cX4_meanLikeness 6 = .ok (.invokevirtual 165, 3) := by decide +kernel
theorem dX4_meanLikeness_9 : decode cX4_meanLikeness 9 = .ok (.istore_n 1, 1) := by decide +kernel
theorem dX4_meanLikeness_10 : decode cX4_meanLikeness 10 = .ok (.iload_n 1, 1) := by decide +kernel
theorem dX4_meanLikeness_11 : decode cX4_meanLikeness 11 = .ok (.ifCond .ne 5, 3) := by decide +kernel
theorem dX4_meanLikeness_14 : decode cX4_meanLikeness 14 = .ok (.dconst 0, 1) := by decide +kernel
theorem dX4_meanLikeness_15 : decode cX4_meanLikeness 15 = .ok (.dreturn, 1) := by decide +kernel
theorem dX4_meanLikeness_16 : decode cX4_meanLikeness 16 = .ok (.aload_n 0, 1) := by decide +kernel
theorem dX4_meanLikeness_17 : decode cX4_meanLikeness 17 = .ok (.getfield 10, 3) := by decide +kernel
theorem dX4_meanLikeness_20 : decode cX4_meanLikeness 20 = .ok (.invokevirtual 225, 3) := by decide +kernel
theorem dX4_meanLikeness_23 : decode cX4_meanLikeness 23 = .ok (.i2d, 1) := by decide +kernel
theorem dX4_meanLikeness_24 : decode cX4_meanLikeness 24 = .ok (.iload_n 1, 1) := by decide +kernel
theorem dX4_meanLikeness_25 : decode cX4_meanLikeness 25 = .ok (.i2d, 1) := by decide +kernel
theorem dX4_meanLikeness_26 : decode cX4_meanLikeness 26 = .ok (.ddiv, 1) := by decide +kernel
theorem dX4_meanLikeness_27 : decode cX4_meanLikeness 27 = .ok (.dreturn, 1) := by decide +kernel
set_option maxRecDepth 20000 in
theorem ggX4_wouldFame_X1_personAt : GoodIn wsX4_wouldFame wsX1_personAt := goodIn_ca (goodIn_r _ [6, 7, 8, 9, 10, 11, 12, 13, 35, 36, 37, 38, 39, 40, 41, 42, 43, 44, 45] (by decide +kernel) (by decide +kernel)) (goodIn_sub (fun _ h => List.mem_cons_of_mem _ (List.mem_append_left _ (List.mem_append_right _ h))) (by decide +kernel))
set_option maxRecDepth 20000 in
theorem gX4_wouldFame_X1_personAt : GoodIn wsX4_wouldFame (wsV RX4 35 RX1 yX1_personAt wsX1_personAt) := goodIn_app (goodIn_of _ (by decide +kernel)) ggX4_wouldFame_X1_personAt
set_option maxRecDepth 20000 in
theorem ggX4_wouldFame_X4_checkIndex : GoodIn wsX4_wouldFame wsX4_checkIndex := goodIn_ca (goodIn_r _ [11, 12, 13] (by decide +kernel) (by decide +kernel)) (goodIn_sub (fun _ h => List.mem_cons_of_mem _ (List.mem_append_left _ (List.mem_append_right _ h))) (by decide +kernel))
set_option maxRecDepth 20000 in
theorem gX4_wouldFame_X4_checkIndex : GoodIn wsX4_wouldFame (va_wsS RX4 39 yX4_checkIndex wsX4_checkIndex) := goodIn_app (goodIn_of _ (by decide +kernel)) ggX4_wouldFame_X4_checkIndex
set_option maxRecDepth 20000 in
theorem ggX4_wouldFame_X4_checkArgument : GoodIn wsX4_wouldFame wsX4_checkArgument := goodIn_ca (goodIn_r _ [17, 18, 19] (by decide +kernel) (by decide +kernel)) (goodIn_sub (fun _ h => List.mem_cons_of_mem _ (List.mem_append_right _ h)) (by decide +kernel))
set_option maxRecDepth 20000 in
theorem gX4_wouldFame_X4_checkArgument : GoodIn wsX4_wouldFame (va_wsS RX4 19 yX4_checkArgument wsX4_checkArgument) := goodIn_app (goodIn_of _ (by decide +kernel)) ggX4_wouldFame_X4_checkArgument
set_option maxRecDepth 20000 in
theorem ggX4_wouldFame_X2_fameBehind : GoodIn wsX4_wouldFame wsX2_fameBehind := goodIn_r _ [24, 25, 26, 27, 28, 23, 29, 30, 31, 32, 46, 47, 48, 49, 50, 51, 52, 53] (by decide +kernel) (by decide +kernel)
set_option maxRecDepth 20000 in
theorem gX4_wouldFame_X2_fameBehind : GoodIn wsX4_wouldFame (wsV RX4 228 RX2 yX2_fameBehind wsX2_fameBehind) := goodIn_app (goodIn_of _ (by decide +kernel)) ggX4_wouldFame_X2_fameBehind
theorem dX4_wouldFame_0 : decode cX4_wouldFame 0 = .ok (.aload_n 0, 1) := by decide +kernel
theorem dX4_wouldFame_1 : decode cX4_wouldFame 1 = .ok (.getfield 10, 3) := by decide +kernel
theorem dX4_wouldFame_4 : decode cX4_wouldFame 4 = .ok (.iload_n 1, 1) := by decide +kernel
theorem dX4_wouldFame_5 : decode cX4_wouldFame 5 = .ok (.invokevirtual 35, 3) := by decide +kernel
theorem dX4_wouldFame_8 : decode cX4_wouldFame 8 = .ok (.astore 4, 2) := by decide +kernel
theorem dX4_wouldFame_10 : decode cX4_wouldFame 10 = .ok (.iload_n 2, 1) := by decide +kernel
theorem dX4_wouldFame_11 : decode cX4_wouldFame 11 = .ok (.iconst 3, 1) := by decide +kernel
theorem dX4_wouldFame_12 : decode cX4_wouldFame 12 = .ok (.invokestatic 39, 3) := by decide +kernel
theorem dX4_wouldFame_15 : decode cX4_wouldFame 15 = .ok (.iload_n 3, 1) := by decide +kernel
theorem dX4_wouldFame_16 : decode cX4_wouldFame 16 = .ok (.iconst 0, 1) := by decide +kernel
theorem dX4_wouldFame_17 : decode cX4_wouldFame 17 = .ok (.bipush 60, 2) := by decide +kernel
theorem dX4_wouldFame_19 : decode cX4_wouldFame 19 = .ok (.invokestatic 19, 3) := by decide +kernel
theorem dX4_wouldFame_22 : decode cX4_wouldFame 22 = .ok (.aload 4, 2) := by decide +kernel
theorem dX4_wouldFame_24 : decode cX4_wouldFame 24 = .ok (.iload_n 2, 1) := by decide +kernel
theorem dX4_wouldFame_25 : decode cX4_wouldFame 25 = .ok (.iload_n 3, 1) := by decide +kernel
theorem dX4_wouldFame_26 : decode cX4_wouldFame 26 = .ok (.invokevirtual 228, 3) := by decide +kernel
theorem dX4_wouldFame_29 : decode cX4_wouldFame 29 = .ok (.ireturn, 1) := by decide +kernel
set_option maxRecDepth 20000 in
theorem ggX4_readyIn_X1_figureAt : GoodIn wsX4_readyIn wsX1_figureAt := goodIn_ca (goodIn_r _ [6, 7, 8, 9, 10, 11, 12, 13, 29, 30, 31, 32, 33, 34, 35, 36, 37, 38, 39] (by decide +kernel) (by decide +kernel)) (goodIn_sub (fun _ h => List.mem_cons_of_mem _ (List.mem_append_right _ h)) (by decide +kernel))
set_option maxRecDepth 20000 in
theorem gX4_readyIn_X1_figureAt : GoodIn wsX4_readyIn (wsV RX4 94 RX1 yX1_figureAt wsX1_figureAt) := goodIn_app (goodIn_of _ (by decide +kernel)) ggX4_readyIn_X1_figureAt
set_option maxRecDepth 20000 in
theorem ggX4_readyIn_X0_daysTillDone : GoodIn wsX4_readyIn wsX0_daysTillDone := goodIn_r _ [18, 19, 20, 21, 22, 23, 24, 25, 17, 26, 40, 41, 42, 43, 44, 45, 46, 47, 48, 49, 50] (by decide +kernel) (by decide +kernel)
set_option maxRecDepth 20000 in
theorem gX4_readyIn_X0_daysTillDone : GoodIn wsX4_readyIn (wsV RX4 231 RX0 yX0_daysTillDone wsX0_daysTillDone) := goodIn_app (goodIn_of _ (by decide +kernel)) ggX4_readyIn_X0_daysTillDone
theorem dX4_readyIn_0 : decode cX4_readyIn 0 = .ok (.aload_n 0, 1) := by decide +kernel
theorem dX4_readyIn_1 : decode cX4_readyIn 1 = .ok (.getfield 10, 3) := by decide +kernel
theorem dX4_readyIn_4 : decode cX4_readyIn 4 = .ok (.iload_n 1, 1) := by decide +kernel
theorem dX4_readyIn_5 : decode cX4_readyIn 5 = .ok (.invokevirtual 94, 3) := by decide +kernel
theorem dX4_readyIn_8 : decode cX4_readyIn 8 = .ok (.invokevirtual 231, 3) := by decide +kernel
theorem dX4_readyIn_11 : decode cX4_readyIn 11 = .ok (.ireturn, 1) := by decide +kernel
set_option maxRecDepth 20000 in
theorem ggX4_meltsIn_X1_figureAt : GoodIn wsX4_meltsIn wsX1_figureAt := goodIn_ca (goodIn_r _ [8, 9, 10, 11, 12, 13, 14, 15, 171, 172, 173, 174, 175, 176, 177, 178, 179, 180, 181] (by decide +kernel) (by decide +kernel)) (goodIn_sub (fun _ h => List.mem_cons_of_mem _ (List.mem_append_left _ (List.mem_append_right _ h))) (by decide +kernel))
set_option maxRecDepth 20000 in
theorem gX4_meltsIn_X1_figureAt : GoodIn wsX4_meltsIn (wsV RX4 94 RX1 yX1_figureAt wsX1_figureAt) := goodIn_app (goodIn_of _ (by decide +kernel)) ggX4_meltsIn_X1_figureAt
set_option maxRecDepth 20000 in
theorem ggX4_meltsIn_X4_checkArgument : GoodIn wsX4_meltsIn wsX4_checkArgument := goodIn_ca (goodIn_r _ [18, 19, 20] (by decide +kernel) (by decide +kernel)) (goodIn_sub (fun _ h => List.mem_cons_of_mem _ (List.mem_append_right _ h)) (by decide +kernel))
set_option maxRecDepth 20000 in
theorem gX4_meltsIn_X4_checkArgument : GoodIn wsX4_meltsIn (va_wsS RX4 19 yX4_checkArgument wsX4_checkArgument) := goodIn_app (goodIn_of _ (by decide +kernel)) ggX4_meltsIn_X4_checkArgument
set_option maxRecDepth 20000 in
theorem ggX4_meltsIn_X0_isShown : GoodIn wsX4_meltsIn wsX0_isShown := goodIn_r _ [25, 26, 160, 161, 162, 163, 164, 165, 166, 167, 168, 169, 170] (by decide +kernel) (by decide +kernel)
set_option maxRecDepth 20000 in
theorem gX4_meltsIn_X0_isShown : GoodIn wsX4_meltsIn (wsV RX4 177 RX0 yX0_isShown wsX0_isShown) := goodIn_app (goodIn_of _ (by decide +kernel)) ggX4_meltsIn_X0_isShown
set_option maxRecDepth 20000 in
theorem ggX4_meltsIn_X1_copyFrom : GoodIn wsX4_meltsIn wsX1_copyFrom := goodIn_ca (goodIn_r _ [30, 31, 9, 32, 33, 34, 35, 36, 37, 38, 10, 39, 40, 41, 42, 43, 44, 45, 46, 47, 48, 49, 50, 51, 52, 53, 54, 55, 56, 57, 58, 59, 7, 60, 11, 12, 13, 14, 15, 61, 62, 63, 24, 64, 65, 66, 67, 68, 69, 70, 71, 26, 72, 73, 74, 171, 172, 173, 174, 175, 176, 177, 178, 179, 180, 181, 160, 161, 162, 163, 164, 165, 166, 167, 168, 169, 170, 182, 183, 184, 185, 186, 187, 188, 189, 190, 191] (by decide +kernel) (by decide +kernel)) (goodIn_sub (fun _ h => List.mem_cons_of_mem _ (List.mem_append_left _ (List.mem_append_right _ h))) (by decide +kernel))
set_option maxRecDepth 20000 in
theorem gX4_meltsIn_X1_copyFrom : GoodIn wsX4_meltsIn (wsV RX4 234 RX1 yX1_copyFrom wsX1_copyFrom) := goodIn_app (goodIn_of _ (by decide +kernel)) ggX4_meltsIn_X1_copyFrom
set_option maxRecDepth 20000 in
theorem ggX4_meltsIn_X1_passDay : GoodIn wsX4_meltsIn wsX1_passDay := goodIn_ca (goodIn_r _ [78, 33, 36, 37, 34, 79, 80, 81, 7, 82, 31, 38, 83, 84, 85, 48, 86, 50, 51, 87, 88, 89, 90, 91, 92, 93, 94, 95, 96, 9, 10, 97, 98, 99, 24, 100, 67, 26, 68, 69, 65, 70, 101, 102, 103, 104, 53, 52, 105, 106, 107, 108, 109, 110, 111, 112, 113, 114, 115, 22, 23, 25, 116, 117, 118, 119, 71, 66, 120, 121, 122, 123, 124, 125, 126, 127, 128, 129, 130, 131, 43, 132, 133, 134, 135, 136, 32, 42, 11, 12, 13, 14, 15, 137, 138, 139, 140, 74, 141, 142, 143, 144, 145, 146, 147, 148, 149, 150, 151, 152, 153, 154, 155, 156, 157, 72, 73, 171, 172, 173, 174, 175, 176, 177, 178, 179, 180, 181, 182, 183, 184, 185, 186, 187, 188, 189, 160, 161, 162, 163, 164, 165, 166, 167, 168, 169, 170, 190, 191] (by decide +kernel) (by decide +kernel)) (goodIn_sub (fun _ h => List.mem_cons_of_mem _ (List.mem_append_left _ (List.mem_append_right _ h))) (by decide +kernel))
set_option maxRecDepth 20000 in
theorem gX4_meltsIn_X1_passDay : GoodIn wsX4_meltsIn (wsV RX4 186 RX1 yX1_passDay wsX1_passDay) := goodIn_app (goodIn_of _ (by decide +kernel)) ggX4_meltsIn_X1_passDay
theorem dX4_meltsIn_0 : decode cX4_meltsIn 0 = .ok (.aload_n 0, 1) := by decide +kernel
theorem dX4_meltsIn_1 : decode cX4_meltsIn 1 = .ok (.getfield 10, 3) := by decide +kernel
theorem dX4_meltsIn_4 : decode cX4_meltsIn 4 = .ok (.iload_n 1, 1) := by decide +kernel
theorem dX4_meltsIn_5 : decode cX4_meltsIn 5 = .ok (.invokevirtual 94, 3) := by decide +kernel
theorem dX4_meltsIn_8 : decode cX4_meltsIn 8 = .ok (.astore 4, 2) := by decide +kernel
theorem dX4_meltsIn_10 : decode cX4_meltsIn 10 = .ok (.iload_n 2, 1) := by decide +kernel
theorem dX4_meltsIn_11 : decode cX4_meltsIn 11 = .ok (.iconst 0, 1) := by decide +kernel
theorem dX4_meltsIn_12 : decode cX4_meltsIn 12 = .ok (.sipush 2000, 3) := by decide +kernel
theorem dX4_meltsIn_15 : decode cX4_meltsIn 15 = .ok (.invokestatic 19, 3) := by decide +kernel
theorem dX4_meltsIn_18 : decode cX4_meltsIn 18 = .ok (.iload_n 3, 1) := by decide +kernel
theorem dX4_meltsIn_19 : decode cX4_meltsIn 19 = .ok (.iconst 0, 1) := by decide +kernel
theorem dX4_meltsIn_20 : decode cX4_meltsIn 20 = .ok (.bipush 40, 2) := by decide +kernel
theorem dX4_meltsIn_22 : decode cX4_meltsIn 22 = .ok (.invokestatic 19, 3) := by decide +kernel
theorem dX4_meltsIn_25 : decode cX4_meltsIn 25 = .ok (.aload 4, 2) := by decide +kernel
theorem dX4_meltsIn_27 : decode cX4_meltsIn 27 = .ok (.invokevirtual 177, 3) := by decide +kernel
theorem dX4_meltsIn_30 : decode cX4_meltsIn 30 = .ok (.ifCond .ne 5, 3) := by decide +kernel
theorem dX4_meltsIn_33 : decode cX4_meltsIn 33 = .ok (.iconst (-1), 1) := by decide +kernel
theorem dX4_meltsIn_34 : decode cX4_meltsIn 34 = .ok (.ireturn, 1) := by decide +kernel
theorem dX4_meltsIn_35 : decode cX4_meltsIn 35 = .ok (.aload_n 0, 1) := by decide +kernel
theorem dX4_meltsIn_36 : decode cX4_meltsIn 36 = .ok (.getfield 16, 3) := by decide +kernel
theorem dX4_meltsIn_39 : decode cX4_meltsIn 39 = .ok (.aload_n 0, 1) := by decide +kernel
theorem dX4_meltsIn_40 : decode cX4_meltsIn 40 = .ok (.getfield 10, 3) := by decide +kernel
theorem dX4_meltsIn_43 : decode cX4_meltsIn 43 = .ok (.invokevirtual 234, 3) := by decide +kernel
theorem dX4_meltsIn_46 : decode cX4_meltsIn 46 = .ok (.aload_n 0, 1) := by decide +kernel
theorem dX4_meltsIn_47 : decode cX4_meltsIn 47 = .ok (.getfield 16, 3) := by decide +kernel
theorem dX4_meltsIn_50 : decode cX4_meltsIn 50 = .ok (.iload_n 1, 1) := by decide +kernel
theorem dX4_meltsIn_51 : decode cX4_meltsIn 51 = .ok (.invokevirtual 94, 3) := by decide +kernel
theorem dX4_meltsIn_54 : decode cX4_meltsIn 54 = .ok (.astore 5, 2) := by decide +kernel
theorem dX4_meltsIn_56 : decode cX4_meltsIn 56 = .ok (.iconst 1, 1) := by decide +kernel
theorem dX4_meltsIn_57 : decode cX4_meltsIn 57 = .ok (.istore 6, 2) := by decide +kernel
theorem dX4_meltsIn_59 : decode cX4_meltsIn 59 = .ok (.iload 6, 2) := by decide +kernel
theorem dX4_meltsIn_61 : decode cX4_meltsIn 61 = .ok (.bipush 60, 2) := by decide +kernel
theorem dX4_meltsIn_63 : decode cX4_meltsIn 63 = .ok (.if_icmp .gt 32, 3) := by decide +kernel
theorem dX4_meltsIn_66 : decode cX4_meltsIn 66 = .ok (.aload_n 0, 1) := by decide +kernel
theorem dX4_meltsIn_67 : decode cX4_meltsIn 67 = .ok (.getfield 16, 3) := by decide +kernel
theorem dX4_meltsIn_70 : decode cX4_meltsIn 70 = .ok (.iload_n 2, 1) := by decide +kernel
theorem dX4_meltsIn_71 : decode cX4_meltsIn 71 = .ok (.iload_n 3, 1) := by decide +kernel
theorem dX4_meltsIn_72 : decode cX4_meltsIn 72 = .ok (.invokevirtual 186, 3) := by decide +kernel
theorem dX4_meltsIn_75 : decode cX4_meltsIn 75 = .ok (.pop, 1) := by decide +kernel
theorem dX4_meltsIn_76 : decode cX4_meltsIn 76 = .ok (.aload 5, 2) := by decide +kernel
theorem dX4_meltsIn_78 : decode cX4_meltsIn 78 = .ok (.getfield 110, 3) := by decide +kernel
theorem dX4_meltsIn_81 : decode cX4_meltsIn 81 = .ok (.bipush 7, 2) := by decide +kernel
theorem dX4_meltsIn_83 : decode cX4_meltsIn 83 = .ok (.if_icmp .ne 6, 3) := by decide +kernel
theorem dX4_meltsIn_86 : decode cX4_meltsIn 86 = .ok (.iload 6, 2) := by decide +kernel
theorem dX4_meltsIn_88 : decode cX4_meltsIn 88 = .ok (.ireturn, 1) := by decide +kernel
theorem dX4_meltsIn_89 : decode cX4_meltsIn 89 = .ok (.iinc 6 1, 3) := by decide +kernel
theorem dX4_meltsIn_92 : decode cX4_meltsIn 92 = .ok (.goto (-33), 3) := by decide +kernel
theorem dX4_meltsIn_95 : decode cX4_meltsIn 95 = .ok (.iconst (-1), 1) := by decide +kernel
theorem dX4_meltsIn_96 : decode cX4_meltsIn 96 = .ok (.ireturn, 1) := by decide +kernel
set_option maxRecDepth 20000 in
theorem ggX4_bestNext_X1_personAt : GoodIn wsX4_bestNext wsX1_personAt := goodIn_ca (goodIn_r _ [8, 9, 10, 11, 12, 13, 14, 15, 45, 46, 47, 48, 49, 50, 51, 52, 53, 54, 55] (by decide +kernel) (by decide +kernel)) (goodIn_sub (fun _ h => List.mem_cons_of_mem _ (List.mem_append_right _ h)) (by decide +kernel))
set_option maxRecDepth 20000 in
theorem gX4_bestNext_X1_personAt : GoodIn wsX4_bestNext (wsV RX4 35 RX1 yX1_personAt wsX1_personAt) := goodIn_app (goodIn_of _ (by decide +kernel)) ggX4_bestNext_X1_personAt
set_option maxRecDepth 20000 in
theorem ggX4_bestNext_X1_hasFigureOf : GoodIn wsX4_bestNext wsX1_hasFigureOf := goodIn_r _ [19, 20, 21, 22, 23, 45, 46, 47, 48, 49, 50, 51, 52, 53, 54, 55, 64, 65, 66, 67, 68, 69, 70, 71, 72, 73, 74] (by decide +kernel) (by decide +kernel)
set_option maxRecDepth 20000 in
theorem gX4_bestNext_X1_hasFigureOf : GoodIn wsX4_bestNext (wsV RX4 238 RX1 yX1_hasFigureOf wsX1_hasFigureOf) := goodIn_app (goodIn_of _ (by decide +kernel)) ggX4_bestNext_X1_hasFigureOf
set_option maxRecDepth 20000 in
theorem ggX4_bestNext_X2_fameBehind : GoodIn wsX4_bestNext wsX2_fameBehind := goodIn_r _ [28, 29, 30, 31, 32, 27, 33, 34, 35, 36, 56, 57, 58, 59, 60, 61, 62, 63] (by decide +kernel) (by decide +kernel)
set_option maxRecDepth 20000 in
theorem gX4_bestNext_X2_fameBehind : GoodIn wsX4_bestNext (wsV RX4 228 RX2 yX2_fameBehind wsX2_fameBehind) := goodIn_app (goodIn_of _ (by decide +kernel)) ggX4_bestNext_X2_fameBehind
set_option maxRecDepth 20000 in
theorem ggX4_bestNext_X2_doubt : GoodIn wsX4_bestNext wsX2_doubt := goodIn_r _ [40, 41, 42, 56, 57, 58, 59, 60, 61, 62, 63] (by decide +kernel) (by decide +kernel)
set_option maxRecDepth 20000 in
theorem gX4_bestNext_X2_doubt : GoodIn wsX4_bestNext (wsV RX4 189 RX2 yX2_doubt wsX2_doubt) := goodIn_app (goodIn_of _ (by decide +kernel)) ggX4_bestNext_X2_doubt
theorem dX4_bestNext_0 : decode cX4_bestNext 0 = .ok (.iconst (-1), 1) := by decide +kernel
theorem dX4_bestNext_1 : decode cX4_bestNext 1 = .ok (.istore_n 1, 1) := by decide +kernel
theorem dX4_bestNext_2 : decode cX4_bestNext 2 = .ok (.iconst 0, 1) := by decide +kernel
theorem dX4_bestNext_3 : decode cX4_bestNext 3 = .ok (.istore_n 2, 1) := by decide +kernel
theorem dX4_bestNext_4 : decode cX4_bestNext 4 = .ok (.iconst 0, 1) := by decide +kernel
theorem dX4_bestNext_5 : decode cX4_bestNext 5 = .ok (.istore_n 3, 1) := by decide +kernel
theorem dX4_bestNext_6 : decode cX4_bestNext 6 = .ok (.iconst 0, 1) := by decide +kernel
theorem dX4_bestNext_7 : decode cX4_bestNext 7 = .ok (.istore 4, 2) := by decide +kernel
theorem dX4_bestNext_9 : decode cX4_bestNext 9 = .ok (.iload 4, 2) := by decide +kernel
theorem dX4_bestNext_11 : decode cX4_bestNext 11 = .ok (.aload_n 0, 1) := by decide +kernel
theorem dX4_bestNext_12 : decode cX4_bestNext 12 = .ok (.getfield 10, 3) := by decide +kernel
theorem dX4_bestNext_15 : decode cX4_bestNext 15 = .ok (.getfield 23, 3) := by decide +kernel
theorem dX4_bestNext_18 : decode cX4_bestNext 18 = .ok (.if_icmp .ge 92, 3) := by decide +kernel
theorem dX4_bestNext_21 : decode cX4_bestNext 21 = .ok (.aload_n 0, 1) := by decide +kernel
theorem dX4_bestNext_22 : decode cX4_bestNext 22 = .ok (.getfield 10, 3) := by decide +kernel
theorem dX4_bestNext_25 : decode cX4_bestNext 25 = .ok (.iload 4, 2) := by decide +kernel
theorem dX4_bestNext_27 : decode cX4_bestNext 27 = .ok (.invokevirtual 35, 3) := by decide +kernel
theorem dX4_bestNext_30 : decode cX4_bestNext 30 = .ok (.astore 5, 2) := by decide +kernel
theorem dX4_bestNext_32 : decode cX4_bestNext 32 = .ok (.aload 5, 2) := by decide +kernel
theorem dX4_bestNext_34 : decode cX4_bestNext 34 = .ok (.getfield 56, 3) := by decide +kernel
theorem dX4_bestNext_37 : decode cX4_bestNext 37 = .ok (.ifCond .eq 67, 3) := by decide +kernel
theorem dX4_bestNext_40 : decode cX4_bestNext 40 = .ok (.aload_n 0, 1) := by decide +kernel
theorem dX4_bestNext_41 : decode cX4_bestNext 41 = .ok (.getfield 10, 3) := by decide +kernel
theorem dX4_bestNext_44 : decode cX4_bestNext 44 = .ok (.aload 5, 2) := by decide +kernel
theorem dX4_bestNext_46 : decode cX4_bestNext 46 = .ok (.invokevirtual 238, 3) := by decide +kernel
theorem dX4_bestNext_49 : decode cX4_bestNext 49 = .ok (.ifCond .eq 6, 3) := by decide +kernel
theorem dX4_bestNext_52 : decode cX4_bestNext 52 = .ok (.goto 52, 3) := by decide +kernel
theorem dX4_bestNext_55 : decode cX4_bestNext 55 = .ok (.aload 5, 2) := by decide +kernel
theorem dX4_bestNext_57 : decode cX4_bestNext 57 = .ok (.iconst 0, 1) := by decide +kernel
theorem dX4_bestNext_58 : decode cX4_bestNext 58 = .ok (.bipush 6, 2) := by decide +kernel
theorem dX4_bestNext_60 : decode cX4_bestNext 60 = .ok (.invokevirtual 228, 3) := by decide +kernel
theorem dX4_bestNext_63 : decode cX4_bestNext 63 = .ok (.istore 6, 2) := by decide +kernel
theorem dX4_bestNext_65 : decode cX4_bestNext 65 = .ok (.aload 5, 2) := by decide +kernel
theorem dX4_bestNext_67 : decode cX4_bestNext 67 = .ok (.invokevirtual 189, 3) := by decide +kernel
theorem dX4_bestNext_70 : decode cX4_bestNext 70 = .ok (.istore 7, 2) := by decide +kernel
theorem dX4_bestNext_72 : decode cX4_bestNext 72 = .ok (.iload_n 1, 1) := by decide +kernel
theorem dX4_bestNext_73 : decode cX4_bestNext 73 = .ok (.iconst (-1), 1) := by decide +kernel
theorem dX4_bestNext_74 : decode cX4_bestNext 74 = .ok (.if_icmp .eq 21, 3) := by decide +kernel
theorem dX4_bestNext_77 : decode cX4_bestNext 77 = .ok (.iload 6, 2) := by decide +kernel
theorem dX4_bestNext_79 : decode cX4_bestNext 79 = .ok (.iload_n 2, 1) := by decide +kernel
theorem dX4_bestNext_80 : decode cX4_bestNext 80 = .ok (.if_icmp .gt 15, 3) := by decide +kernel
theorem dX4_bestNext_83 : decode cX4_bestNext 83 = .ok (.iload 6, 2) := by decide +kernel
theorem dX4_bestNext_85 : decode cX4_bestNext 85 = .ok (.iload_n 2, 1) := by decide +kernel
theorem dX4_bestNext_86 : decode cX4_bestNext 86 = .ok (.if_icmp .ne 18, 3) := by decide +kernel
theorem dX4_bestNext_89 : decode cX4_bestNext 89 = .ok (.iload 7, 2) := by decide +kernel
theorem dX4_bestNext_91 : decode cX4_bestNext 91 = .ok (.iload_n 3, 1) := by decide +kernel
theorem dX4_bestNext_92 : decode cX4_bestNext 92 = .ok (.if_icmp .ge 12, 3) := by decide +kernel
theorem dX4_bestNext_95 : decode cX4_bestNext 95 = .ok (.iload 4, 2) := by decide +kernel
theorem dX4_bestNext_97 : decode cX4_bestNext 97 = .ok (.istore_n 1, 1) := by decide +kernel
theorem dX4_bestNext_98 : decode cX4_bestNext 98 = .ok (.iload 6, 2) := by decide +kernel
theorem dX4_bestNext_100 : decode cX4_bestNext 100 = .ok (.istore_n 2, 1) := by decide +kernel
theorem dX4_bestNext_101 : decode cX4_bestNext 101 = .ok (.iload 7, 2) := by decide +kernel
theorem dX4_bestNext_103 : decode cX4_bestNext 103 = .ok (.istore_n 3, 1) := by decide +kernel
theorem dX4_bestNext_104 : decode cX4_bestNext 104 = .ok (.iinc 4 1, 3) := by decide +kernel
theorem dX4_bestNext_107 : decode cX4_bestNext 107 = .ok (.goto (-98), 3) := by decide +kernel
theorem dX4_bestNext_110 : decode cX4_bestNext 110 = .ok (.iload_n 1, 1) := by decide +kernel
theorem dX4_bestNext_111 : decode cX4_bestNext 111 = .ok (.ireturn, 1) := by decide +kernel
set_option maxRecDepth 20000 in
theorem ggX4_digest_X4_many : GoodIn wsX4_digest wsX4_many := goodIn_ca (goodIn_r _ [11, 3, 12, 4, 5, 6, 13, 14, 15, 16, 17, 18, 10, 19, 20, 21, 22, 23, 24, 25, 26, 27, 28, 29, 30, 31, 32, 33, 34, 35, 36, 37, 38, 39, 40, 41, 42, 43, 44, 45, 46, 47, 48, 49, 50, 51, 52, 53, 54, 55, 56, 57, 58, 59, 60, 61, 62, 63, 64, 65, 66, 67, 68, 69, 70, 71, 72, 73, 74, 75, 76, 77, 78, 79, 80, 81, 272, 273, 274, 275, 276, 277, 278, 279, 280, 281, 282, 283, 284, 285, 286, 287, 288, 289, 290, 291, 292, 293, 294, 295, 296, 297, 298, 299, 300, 301, 302, 303] (by decide +kernel) (by decide +kernel)) (goodIn_sub (fun _ h => List.mem_cons_of_mem _ (List.mem_append_left _ (List.mem_append_right _ h))) (by decide +kernel))
set_option maxRecDepth 20000 in
theorem gX4_digest_X4_many : GoodIn wsX4_digest (wsV RX4 246 RX4 yX4_many wsX4_many) := goodIn_app (goodIn_of _ (by decide +kernel)) ggX4_digest_X4_many
set_option maxRecDepth 20000 in
theorem ggX4_digest_X4_digestWithPerson : GoodIn wsX4_digest wsX4_digestWithPerson := goodIn_ca (goodIn_ca (goodIn_r _ [85, 2, 86, 87, 88, 10, 89, 3, 90, 91, 92, 93, 94, 95, 96, 97, 25, 98, 45, 46, 99, 100, 101, 102, 17, 18, 19, 20, 21, 103, 104, 105, 78, 106, 81, 80, 107, 108, 109, 110, 27, 28, 111, 112, 64, 65, 32, 66, 35, 113, 114, 115, 116, 117, 118, 119, 120, 121, 122, 123, 124, 125, 126, 127, 128, 129, 130, 131, 132, 133, 134, 135, 272, 273, 296, 297, 298, 299, 300, 301, 302, 303, 274, 275, 276, 277, 278, 279, 280, 281, 282, 283, 284, 285, 286, 287, 288, 289, 290, 291, 292, 293, 294, 295] (by decide +kernel) (by decide +kernel)) (goodIn_sub (fun _ h => List.mem_cons_of_mem _ (List.mem_append_right _ h)) (by decide +kernel))) (goodIn_sub (fun _ h => List.mem_cons_of_mem _ (List.mem_append_left _ (List.mem_append_right _ h))) (by decide +kernel))
set_option maxRecDepth 20000 in
theorem gX4_digest_X4_digestWithPerson : GoodIn wsX4_digest (wsV RX4 250 RX4 yX4_digestWithPerson wsX4_digestWithPerson) := goodIn_app (goodIn_of _ (by decide +kernel)) ggX4_digest_X4_digestWithPerson
set_option maxRecDepth 20000 in
theorem ggX4_digest_X4_ofFigure : GoodIn wsX4_digest wsX4_ofFigure := goodIn_ca (goodIn_ca (goodIn_r _ [139, 3, 140, 141, 142, 143, 144, 145, 146, 147, 148, 149, 150, 151, 152, 25, 153, 27, 28, 99, 10, 100, 101, 102, 17, 18, 19, 20, 21, 154, 155, 156, 32, 157, 34, 158, 159, 68, 69, 70, 71, 72, 61, 73, 74, 30, 31, 33, 35, 75, 76, 77, 78, 79, 80, 81, 160, 58, 59, 60, 62, 63, 64, 65, 66, 67, 272, 273, 285, 286, 287, 288, 289, 290, 291, 292, 293, 294, 295, 296, 297, 298, 299, 300, 301, 302, 303, 274, 275, 276, 277, 278, 279, 280, 281, 282, 283, 284] (by decide +kernel) (by decide +kernel)) (goodIn_sub (fun _ h => List.mem_cons_of_mem _ (List.mem_append_right _ h)) (by decide +kernel))) (goodIn_sub (fun _ h => List.mem_cons_of_mem _ (List.mem_append_left _ (List.mem_append_right _ h))) (by decide +kernel))
set_option maxRecDepth 20000 in
theorem gX4_digest_X4_ofFigure : GoodIn wsX4_digest (wsV RX4 254 RX4 yX4_ofFigure wsX4_ofFigure) := goodIn_app (goodIn_of _ (by decide +kernel)) ggX4_digest_X4_ofFigure
set_option maxRecDepth 20000 in
theorem ggX4_digest_X4_readyIn : GoodIn wsX4_digest wsX4_readyIn := goodIn_ca (goodIn_r _ [164, 3, 150, 151, 152, 25, 153, 27, 28, 99, 10, 100, 101, 102, 165, 166, 167, 32, 168, 35, 169, 158, 34, 74, 30, 31, 33, 272, 273, 274, 275, 276, 277, 278, 279, 280, 281, 282, 283, 284, 285, 286, 287, 288, 289, 290, 291, 292, 293, 294, 295] (by decide +kernel) (by decide +kernel)) (goodIn_sub (fun _ h => List.mem_cons_of_mem _ (List.mem_append_right _ h)) (by decide +kernel))
set_option maxRecDepth 20000 in
theorem gX4_digest_X4_readyIn : GoodIn wsX4_digest (wsV RX4 257 RX4 yX4_readyIn wsX4_readyIn) := goodIn_app (goodIn_of _ (by decide +kernel)) ggX4_digest_X4_readyIn
set_option maxRecDepth 20000 in
theorem ggX4_digest_X4_meltsIn : GoodIn wsX4_digest wsX4_meltsIn := goodIn_ca (goodIn_ca (goodIn_r _ [173, 3, 174, 147, 150, 151, 152, 25, 153, 27, 28, 99, 10, 100, 101, 102, 17, 18, 19, 20, 21, 175, 64, 65, 32, 66, 35, 176, 177, 178, 179, 45, 180, 181, 182, 183, 184, 185, 46, 111, 186, 187, 188, 189, 190, 191, 192, 193, 78, 194, 128, 129, 80, 81, 195, 196, 197, 198, 96, 97, 98, 199, 200, 201, 202, 61, 73, 34, 158, 169, 71, 72, 203, 204, 205, 206, 207, 208, 209, 210, 211, 212, 213, 214, 215, 216, 217, 130, 131, 132, 133, 134, 135, 218, 219, 220, 221, 222, 223, 224, 225, 226, 104, 105, 106, 227, 54, 55, 56, 40, 57, 58, 59, 60, 62, 63, 67, 68, 69, 70, 74, 30, 31, 33, 75, 76, 77, 79, 228, 229, 230, 231, 112, 232, 233, 234, 235, 236, 237, 238, 239, 240, 241, 242, 243, 244, 245, 246, 247, 248, 249, 250, 251, 252, 253, 254, 255, 256, 272, 273, 285, 286, 287, 288, 289, 290, 291, 292, 293, 294, 295, 274, 275, 276, 277, 278, 279, 280, 281, 282, 283, 284, 296, 297, 298, 299, 300, 301, 302, 303, 304, 305] (by decide +kernel) (by decide +kernel)) (goodIn_sub (fun _ h => List.mem_cons_of_mem _ (List.mem_append_right _ h)) (by decide +kernel))) (goodIn_sub (fun _ h => List.mem_cons_of_mem _ (List.mem_append_left _ (List.mem_append_right _ h))) (by decide +kernel))
set_option maxRecDepth 20000 in
theorem gX4_digest_X4_meltsIn : GoodIn wsX4_digest (wsV RX4 260 RX4 yX4_meltsIn wsX4_meltsIn) := goodIn_app (goodIn_of _ (by decide +kernel)) ggX4_digest_X4_meltsIn
set_option maxRecDepth 20000 in
theorem ggX4_digest_X4_ofRoom : GoodIn wsX4_digest wsX4_ofRoom := goodIn_ca (goodIn_ca (goodIn_r _ [260, 3, 261, 262, 263, 233, 234, 25, 235, 180, 188, 99, 10, 100, 101, 102, 17, 18, 19, 20, 21, 36, 37, 38, 39, 27, 28, 40, 53, 54, 55, 56, 57, 58, 59, 32, 60, 61, 62, 63, 64, 65, 66, 35, 67, 68, 69, 70, 71, 72, 73, 74, 30, 31, 33, 34, 75, 76, 77, 78, 79, 80, 81, 272, 273, 304, 305, 274, 275, 276, 277, 278, 279, 280, 281, 282, 283, 284, 285, 286, 287, 288, 289, 290, 291, 292, 293, 294, 295, 296, 297, 298, 299, 300, 301, 302, 303] (by decide +kernel) (by decide +kernel)) (goodIn_sub (fun _ h => List.mem_cons_of_mem _ (List.mem_append_right _ h)) (by decide +kernel))) (goodIn_sub (fun _ h => List.mem_cons_of_mem _ (List.mem_append_left _ (List.mem_append_right _ h))) (by decide +kernel))
set_option maxRecDepth 20000 in
theorem gX4_digest_X4_ofRoom : GoodIn wsX4_digest (wsV RX4 263 RX4 yX4_ofRoom wsX4_ofRoom) := goodIn_app (goodIn_of _ (by decide +kernel)) ggX4_digest_X4_ofRoom
set_option maxRecDepth 20000 in
theorem ggX4_digest_X4_bestNext : GoodIn wsX4_digest wsX4_bestNext := goodIn_ca (goodIn_r _ [267, 3, 4, 92, 95, 96, 97, 25, 98, 45, 46, 99, 10, 100, 101, 102, 268, 269, 270, 271, 27, 28, 111, 40, 124, 125, 126, 78, 127, 128, 129, 130, 131, 132, 133, 134, 135, 103, 104, 105, 106, 81, 80, 272, 273, 274, 275, 276, 277, 278, 279, 280, 281, 282, 283, 284, 296, 297, 298, 299, 300, 301, 302, 303, 285, 286, 287, 288, 289, 290, 291, 292, 293, 294, 295] (by decide +kernel) (by decide +kernel)) (goodIn_sub (fun _ h => List.mem_cons_of_mem _ (List.mem_append_right _ h)) (by decide +kernel))
set_option maxRecDepth 20000 in
theorem gX4_digest_X4_bestNext : GoodIn wsX4_digest (wsV RX4 266 RX4 yX4_bestNext wsX4_bestNext) := goodIn_app (goodIn_of _ (by decide +kernel)) ggX4_digest_X4_bestNext
theorem dX4_digest_0 : decode cX4_digest 0 = .ok (.ldc2_w 242, 3) := by decide +kernel
theorem dX4_digest_3 : decode cX4_digest 3 = .ok (.lstore_n 1, 1) := by decide +kernel
theorem dX4_digest_4 : decode cX4_digest 4 = .ok (.iconst 0, 1) := by decide +kernel
theorem dX4_digest_5 : decode cX4_digest 5 = .ok (.istore_n 3, 1) := by decide +kernel
theorem dX4_digest_6 : decode cX4_digest 6 = .ok (.iload_n 3, 1) := by decide +kernel
theorem dX4_digest_7 : decode cX4_digest 7 = .ok (.bipush 14, 2) := by decide +kernel
theorem dX4_digest_9 : decode cX4_digest 9 = .ok (.if_icmp .gt 22, 3) := by decide +kernel
theorem dX4_digest_12 : decode cX4_digest 12 = .ok (.lload_n 1, 1) := by decide +kernel
theorem dX4_digest_13 : decode cX4_digest 13 = .ok (.ldc2_w 244, 3) := by decide +kernel
theorem dX4_digest_16 : decode cX4_digest 16 = .ok (.lmul, 1) := by decide +kernel
theorem dX4_digest_17 : decode cX4_digest 17 = .ok (.aload_n 0, 1) := by decide +kernel
theorem dX4_digest_18 : decode cX4_digest 18 = .ok (.iload_n 3, 1) := by decide +kernel
theorem dX4_digest_19 : decode cX4_digest 19 = .ok (.invokevirtual 246, 3) := by decide +kernel
theorem dX4_digest_22 : decode cX4_digest 22 = .ok (.i2l, 1) := by decide +kernel
theorem dX4_digest_23 : decode cX4_digest 23 = .ok (.ladd, 1) := by decide +kernel
theorem dX4_digest_24 : decode cX4_digest 24 = .ok (.lstore_n 1, 1) := by decide +kernel
theorem dX4_digest_25 : decode cX4_digest 25 = .ok (.iinc 3 1, 3) := by decide +kernel
theorem dX4_digest_28 : decode cX4_digest 28 = .ok (.goto (-22), 3) := by decide +kernel
theorem dX4_digest_31 : decode cX4_digest 31 = .ok (.iconst 0, 1) := by decide +kernel
theorem dX4_digest_32 : decode cX4_digest 32 = .ok (.istore_n 3, 1) := by decide +kernel
theorem dX4_digest_33 : decode cX4_digest 33 = .ok (.iload_n 3, 1) := by decide +kernel
theorem dX4_digest_34 : decode cX4_digest 34 = .ok (.aload_n 0, 1) := by decide +kernel
theorem dX4_digest_35 : decode cX4_digest 35 = .ok (.getfield 10, 3) := by decide +kernel
theorem dX4_digest_38 : decode cX4_digest 38 = .ok (.getfield 23, 3) := by decide +kernel
theorem dX4_digest_41 : decode cX4_digest 41 = .ok (.if_icmp .ge 16, 3) := by decide +kernel
theorem dX4_digest_44 : decode cX4_digest 44 = .ok (.aload_n 0, 1) := by decide +kernel
theorem dX4_digest_45 : decode cX4_digest 45 = .ok (.lload_n 1, 1) := by decide +kernel
theorem dX4_digest_46 : decode cX4_digest 46 = .ok (.iload_n 3, 1) := by decide +kernel
theorem dX4_digest_47 : decode cX4_digest 47 = .ok (.invokevirtual 250, 3) := by decide +kernel
theorem dX4_digest_50 : decode cX4_digest 50 = .ok (.lstore_n 1, 1) := by decide +kernel
theorem dX4_digest_51 : decode cX4_digest 51 = .ok (.iinc 3 1, 3) := by decide +kernel
theorem dX4_digest_54 : decode cX4_digest 54 = .ok (.goto (-21), 3) := by decide +kernel
theorem dX4_digest_57 : decode cX4_digest 57 = .ok (.iconst 0, 1) := by decide +kernel
theorem dX4_digest_58 : decode cX4_digest 58 = .ok (.istore_n 3, 1) := by decide +kernel
theorem dX4_digest_59 : decode cX4_digest 59 = .ok (.iload_n 3, 1) := by decide +kernel
theorem dX4_digest_60 : decode cX4_digest 60 = .ok (.aload_n 0, 1) := by decide +kernel
theorem dX4_digest_61 : decode cX4_digest 61 = .ok (.getfield 10, 3) := by decide +kernel
theorem dX4_digest_64 : decode cX4_digest 64 = .ok (.getfield 88, 3) := by decide +kernel
theorem dX4_digest_67 : decode cX4_digest 67 = .ok (.if_icmp .ge 71, 3) := by decide +kernel
theorem dX4_digest_70 : decode cX4_digest 70 = .ok (.iconst 0, 1) := by decide +kernel
theorem dX4_digest_71 : decode cX4_digest 71 = .ok (.istore 4, 2) := by decide +kernel
theorem dX4_digest_73 : decode cX4_digest 73 = .ok (.iload 4, 2) := by decide +kernel
theorem dX4_digest_75 : decode cX4_digest 75 = .ok (.bipush 11, 2) := by decide +kernel
theorem dX4_digest_77 : decode cX4_digest 77 = .ok (.if_icmp .gt 24, 3) := by decide +kernel
theorem dX4_digest_80 : decode cX4_digest 80 = .ok (.lload_n 1, 1) := by decide +kernel
theorem dX4_digest_81 : decode cX4_digest 81 = .ok (.ldc2_w 244, 3) := by decide +kernel
theorem dX4_digest_84 : decode cX4_digest 84 = .ok (.lmul, 1) := by decide +kernel
theorem dX4_digest_85 : decode cX4_digest 85 = .ok (.aload_n 0, 1) := by decide +kernel
theorem dX4_digest_86 : decode cX4_digest 86 = .ok (.iload_n 3, 1) := by decide +kernel
theorem dX4_digest_87 : decode cX4_digest 87 = .ok (.iload 4, 2) := by decide +kernel
theorem dX4_digest_89 : decode cX4_digest 89 = .ok (.invokevirtual 254, 3) := by decide +kernel
theorem dX4_digest_92 : decode cX4_digest 92 = .ok (.i2l, 1) := by decide +kernel
theorem dX4_digest_93 : decode cX4_digest 93 = .ok (.ladd, 1) := by decide +kernel
theorem dX4_digest_94 : decode cX4_digest 94 = .ok (.lstore_n 1, 1) := by decide +kernel
theorem dX4_digest_95 : decode cX4_digest 95 = .ok (.iinc 4 1, 3) := by decide +kernel
theorem dX4_digest_98 : decode cX4_digest 98 = .ok (.goto (-25), 3) := by decide +kernel
theorem dX4_digest_101 : decode cX4_digest 101 = .ok (.lload_n 1, 1) := by decide +kernel
theorem dX4_digest_102 : decode cX4_digest 102 = .ok (.ldc2_w 244, 3) := by decide +kernel
theorem dX4_digest_105 : decode cX4_digest 105 = .ok (.lmul, 1) := by decide +kernel
theorem dX4_digest_106 : decode cX4_digest 106 = .ok (.aload_n 0, 1) := by decide +kernel
theorem dX4_digest_107 : decode cX4_digest 107 = .ok (.iload_n 3, 1) := by decide +kernel
theorem dX4_digest_108 : decode cX4_digest 108 = .ok (.invokevirtual 257, 3) := by decide +kernel
theorem dX4_digest_111 : decode cX4_digest 111 = .ok (.i2l, 1) := by decide +kernel
theorem dX4_digest_112 : decode cX4_digest 112 = .ok (.ladd, 1) := by decide +kernel
theorem dX4_digest_113 : decode cX4_digest 113 = .ok (.lstore_n 1, 1) := by decide +kernel
theorem dX4_digest_114 : decode cX4_digest 114 = .ok (.lload_n 1, 1) := by decide +kernel
theorem dX4_digest_115 : decode cX4_digest 115 = .ok (.ldc2_w 244, 3) := by decide +kernel
theorem dX4_digest_118 : decode cX4_digest 118 = .ok (.lmul, 1) := by decide +kernel
theorem dX4_digest_119 : decode cX4_digest 119 = .ok (.aload_n 0, 1) := by decide +kernel
theorem dX4_digest_120 : decode cX4_digest 120 = .ok (.iload_n 3, 1) := by decide +kernel
theorem dX4_digest_121 : decode cX4_digest 121 = .ok (.sipush 900, 3) := by decide +kernel
theorem dX4_digest_124 : decode cX4_digest 124 = .ok (.bipush 30, 2) := by decide +kernel
theorem dX4_digest_126 : decode cX4_digest 126 = .ok (.invokevirtual 260, 3) := by decide +kernel
theorem dX4_digest_129 : decode cX4_digest 129 = .ok (.i2l, 1) := by decide +kernel
theorem dX4_digest_130 : decode cX4_digest 130 = .ok (.ladd, 1) := by decide +kernel
theorem dX4_digest_131 : decode cX4_digest 131 = .ok (.lstore_n 1, 1) := by decide +kernel
theorem dX4_digest_132 : decode cX4_digest 132 = .ok (.iinc 3 1, 3) := by decide +kernel
theorem dX4_digest_135 : decode cX4_digest 135 = .ok (.goto (-76), 3) := by decide +kernel
theorem dX4_digest_138 : decode cX4_digest 138 = .ok (.iconst 0, 1) := by decide +kernel
theorem dX4_digest_139 : decode cX4_digest 139 = .ok (.istore_n 3, 1) := by decide +kernel
theorem dX4_digest_140 : decode cX4_digest 140 = .ok (.iload_n 3, 1) := by decide +kernel
theorem dX4_digest_141 : decode cX4_digest 141 = .ok (.aload_n 0, 1) := by decide +kernel
theorem dX4_digest_142 : decode cX4_digest 142 = .ok (.getfield 10, 3) := by decide +kernel
theorem dX4_digest_145 : decode cX4_digest 145 = .ok (.getfield 150, 3) := by decide +kernel
theorem dX4_digest_148 : decode cX4_digest 148 = .ok (.if_icmp .ge 39, 3) := by decide +kernel
theorem dX4_digest_151 : decode cX4_digest 151 = .ok (.iconst 0, 1) := by decide +kernel
theorem dX4_digest_152 : decode cX4_digest 152 = .ok (.istore 4, 2) := by decide +kernel
theorem dX4_digest_154 : decode cX4_digest 154 = .ok (.iload 4, 2) := by decide +kernel
theorem dX4_digest_156 : decode cX4_digest 156 = .ok (.iconst 3, 1) := by decide +kernel
theorem dX4_digest_157 : decode cX4_digest 157 = .ok (.if_icmp .gt 24, 3) := by decide +kernel
theorem dX4_digest_160 : decode cX4_digest 160 = .ok (.lload_n 1, 1) := by decide +kernel
theorem dX4_digest_161 : decode cX4_digest 161 = .ok (.ldc2_w 244, 3) := by decide +kernel
theorem dX4_digest_164 : decode cX4_digest 164 = .ok (.lmul, 1) := by decide +kernel
theorem dX4_digest_165 : decode cX4_digest 165 = .ok (.aload_n 0, 1) := by decide +kernel
theorem dX4_digest_166 : decode cX4_digest 166 = .ok (.iload_n 3, 1) := by decide +kernel
theorem dX4_digest_167 : decode cX4_digest 167 = .ok (.iload 4, 2) := by decide +kernel
theorem dX4_digest_169 : decode cX4_digest 169 = .ok (.invokevirtual 263, 3) := by decide +kernel
theorem dX4_digest_172 : decode cX4_digest 172 = .ok (.i2l, 1) := by decide +kernel
theorem dX4_digest_173 : decode cX4_digest 173 = .ok (.ladd, 1) := by decide +kernel
theorem dX4_digest_174 : decode cX4_digest 174 = .ok (.lstore_n 1, 1) := by decide +kernel
theorem dX4_digest_175 : decode cX4_digest 175 = .ok (.iinc 4 1, 3) := by decide +kernel
theorem dX4_digest_178 : decode cX4_digest 178 = .ok (.goto (-24), 3) := by decide +kernel
theorem dX4_digest_181 : decode cX4_digest 181 = .ok (.iinc 3 1, 3) := by decide +kernel
theorem dX4_digest_184 : decode cX4_digest 184 = .ok (.goto (-44), 3) := by decide +kernel
theorem dX4_digest_187 : decode cX4_digest 187 = .ok (.lload_n 1, 1) := by decide +kernel
theorem dX4_digest_188 : decode cX4_digest 188 = .ok (.ldc2_w 244, 3) := by decide +kernel
theorem dX4_digest_191 : decode cX4_digest 191 = .ok (.lmul, 1) := by decide +kernel
theorem dX4_digest_192 : decode cX4_digest 192 = .ok (.aload_n 0, 1) := by decide +kernel
theorem dX4_digest_193 : decode cX4_digest 193 = .ok (.invokevirtual 266, 3) := by decide +kernel
theorem dX4_digest_196 : decode cX4_digest 196 = .ok (.i2l, 1) := by decide +kernel
theorem dX4_digest_197 : decode cX4_digest 197 = .ok (.ladd, 1) := by decide +kernel
theorem dX4_digest_198 : decode cX4_digest 198 = .ok (.lreturn, 1) := by decide +kernel
set_option maxRecDepth 20000 in
theorem ggX4_digestWithPerson_X4_ofPerson : GoodIn wsX4_digestWithPerson wsX4_ofPerson := goodIn_ca (goodIn_ca (goodIn_r _ [6, 7, 8, 9, 10, 11, 12, 13, 14, 15, 16, 17, 18, 19, 20, 5, 21, 22, 23, 24, 25, 26, 27, 28, 29, 30, 31, 32, 33, 34, 35, 36, 37, 38, 39, 40, 41, 42, 43, 44, 45, 46, 47, 48, 72, 73, 74, 75, 76, 77, 78, 79, 80, 81, 82, 83, 84, 85, 86, 87, 88, 89, 90, 91, 92, 93, 94, 95, 96, 97, 98, 99, 100, 101, 102, 103] (by decide +kernel) (by decide +kernel)) (goodIn_sub (fun _ h => List.mem_cons_of_mem _ (List.mem_append_left _ (List.mem_append_right _ h))) (by decide +kernel))) (goodIn_sub (fun _ h => List.mem_cons_of_mem _ (List.mem_append_right _ h)) (by decide +kernel))
set_option maxRecDepth 20000 in
theorem gX4_digestWithPerson_X4_ofPerson : GoodIn wsX4_digestWithPerson (wsV RX4 269 RX4 yX4_ofPerson wsX4_ofPerson) := goodIn_app (goodIn_of _ (by decide +kernel)) ggX4_digestWithPerson_X4_ofPerson
set_option maxRecDepth 20000 in
theorem ggX4_digestWithPerson_X4_known : GoodIn wsX4_digestWithPerson wsX4_known := goodIn_ca (goodIn_r _ [52, 7, 53, 54, 13, 14, 15, 16, 17, 18, 19, 20, 5, 21, 22, 23, 55, 72, 73, 74, 75, 76, 77, 78, 79, 80, 81, 82, 83, 84, 85, 86, 87, 88, 89, 90, 91, 92] (by decide +kernel) (by decide +kernel)) (goodIn_sub (fun _ h => List.mem_cons_of_mem _ (List.mem_append_left _ (List.mem_append_right _ h))) (by decide +kernel))
set_option maxRecDepth 20000 in
theorem gX4_digestWithPerson_X4_known : GoodIn wsX4_digestWithPerson (wsV RX4 272 RX4 yX4_known wsX4_known) := goodIn_app (goodIn_of _ (by decide +kernel)) ggX4_digestWithPerson_X4_known
set_option maxRecDepth 20000 in
theorem ggX4_digestWithPerson_X4_wouldFame : GoodIn wsX4_digestWithPerson wsX4_wouldFame := goodIn_ca (goodIn_ca (goodIn_r _ [59, 7, 13, 14, 15, 16, 17, 18, 19, 20, 5, 21, 22, 23, 55, 24, 25, 26, 27, 28, 60, 61, 62, 32, 63, 64, 65, 66, 67, 68, 69, 70, 71, 72, 73, 82, 83, 84, 85, 86, 87, 88, 89, 90, 91, 92, 74, 75, 76, 77, 78, 79, 80, 81] (by decide +kernel) (by decide +kernel)) (goodIn_sub (fun _ h => List.mem_cons_of_mem _ (List.mem_append_left _ (List.mem_append_right _ h))) (by decide +kernel))) (goodIn_sub (fun _ h => List.mem_cons_of_mem _ (List.mem_append_right _ h)) (by decide +kernel))
set_option maxRecDepth 20000 in
theorem gX4_digestWithPerson_X4_wouldFame : GoodIn wsX4_digestWithPerson (wsV RX4 276 RX4 yX4_wouldFame wsX4_wouldFame) := goodIn_app (goodIn_of _ (by decide +kernel)) ggX4_digestWithPerson_X4_wouldFame
theorem dX4_digestWithPerson_0 : decode cX4_digestWithPerson 0 = .ok (.lload_n 1, 1) := by decide +kernel
theorem dX4_digestWithPerson_1 : decode cX4_digestWithPerson 1 = .ok (.lstore 4, 2) := by decide +kernel
theorem dX4_digestWithPerson_3 : decode cX4_digestWithPerson 3 = .ok (.iconst 0, 1) := by decide +kernel
theorem dX4_digestWithPerson_4 : decode cX4_digestWithPerson 4 = .ok (.istore 6, 2) := by decide +kernel
theorem dX4_digestWithPerson_6 : decode cX4_digestWithPerson 6 = .ok (.iload 6, 2) := by decide +kernel
theorem dX4_digestWithPerson_8 : decode cX4_digestWithPerson 8 = .ok (.bipush 10, 2) := by decide +kernel
theorem dX4_digestWithPerson_10 : decode cX4_digestWithPerson 10 = .ok (.if_icmp .gt 26, 3) := by decide +kernel
theorem dX4_digestWithPerson_13 : decode cX4_digestWithPerson 13 = .ok (.lload 4, 2) := by decide +kernel
theorem dX4_digestWithPerson_15 : decode cX4_digestWithPerson 15 = .ok (.ldc2_w 244, 3) := by decide +kernel
theorem dX4_digestWithPerson_18 : decode cX4_digestWithPerson 18 = .ok (.lmul, 1) := by decide +kernel
theorem dX4_digestWithPerson_19 : decode cX4_digestWithPerson 19 = .ok (.aload_n 0, 1) := by decide +kernel
theorem dX4_digestWithPerson_20 : decode cX4_digestWithPerson 20 = .ok (.iload_n 3, 1) := by decide +kernel
theorem dX4_digestWithPerson_21 : decode cX4_digestWithPerson 21 = .ok (.iload 6, 2) := by decide +kernel
theorem dX4_digestWithPerson_23 : decode cX4_digestWithPerson 23 = .ok (.invokevirtual 269, 3) := by decide +kernel
theorem dX4_digestWithPerson_26 : decode cX4_digestWithPerson 26 = .ok (.i2l, 1) := by decide +kernel
theorem dX4_digestWithPerson_27 : decode cX4_digestWithPerson 27 = .ok (.ladd, 1) := by decide +kernel
theorem dX4_digestWithPerson_28 : decode cX4_digestWithPerson 28 = .ok (.lstore 4, 2) := by decide +kernel
theorem dX4_digestWithPerson_30 : decode cX4_digestWithPerson 30 = .ok (.iinc 6 1, 3) := by decide +kernel
theorem dX4_digestWithPerson_33 : decode cX4_digestWithPerson 33 = .ok (.goto (-27), 3) := by decide +kernel
theorem dX4_digestWithPerson_36 : decode cX4_digestWithPerson 36 = .ok (.iconst 0, 1) := by decide +kernel
theorem dX4_digestWithPerson_37 : decode cX4_digestWithPerson 37 = .ok (.istore 6, 2) := by decide +kernel
theorem dX4_digestWithPerson_39 : decode cX4_digestWithPerson 39 = .ok (.iload 6, 2) := by decide +kernel
theorem dX4_digestWithPerson_41 : decode cX4_digestWithPerson 41 = .ok (.bipush 6, 2) := by decide +kernel
theorem dX4_digestWithPerson_43 : decode cX4_digestWithPerson 43 = .ok (.if_icmp .ge 45, 3) := by decide +kernel
theorem dX4_digestWithPerson_46 : decode cX4_digestWithPerson 46 = .ok (.lload 4, 2) := by decide +kernel
theorem dX4_digestWithPerson_48 : decode cX4_digestWithPerson 48 = .ok (.ldc2_w 244, 3) := by decide +kernel
theorem dX4_digestWithPerson_51 : decode cX4_digestWithPerson 51 = .ok (.lmul, 1) := by decide +kernel
theorem dX4_digestWithPerson_52 : decode cX4_digestWithPerson 52 = .ok (.aload_n 0, 1) := by decide +kernel
theorem dX4_digestWithPerson_53 : decode cX4_digestWithPerson 53 = .ok (.iload_n 3, 1) := by decide +kernel
theorem dX4_digestWithPerson_54 : decode cX4_digestWithPerson 54 = .ok (.iload 6, 2) := by decide +kernel
theorem dX4_digestWithPerson_56 : decode cX4_digestWithPerson 56 = .ok (.iconst 0, 1) := by decide +kernel
theorem dX4_digestWithPerson_57 : decode cX4_digestWithPerson 57 = .ok (.invokevirtual 272, 3) := by decide +kernel
theorem dX4_digestWithPerson_60 : decode cX4_digestWithPerson 60 = .ok (.i2l, 1) := by decide +kernel
theorem dX4_digestWithPerson_61 : decode cX4_digestWithPerson 61 = .ok (.ladd, 1) := by decide +kernel
theorem dX4_digestWithPerson_62 : decode cX4_digestWithPerson 62 = .ok (.lstore 4, 2) := by decide +kernel
theorem dX4_digestWithPerson_64 : decode cX4_digestWithPerson 64 = .ok (.lload 4, 2) := by decide +kernel
theorem dX4_digestWithPerson_66 : decode cX4_digestWithPerson 66 = .ok (.ldc2_w 244, 3) := by decide +kernel
theorem dX4_digestWithPerson_69 : decode cX4_digestWithPerson 69 = .ok (.lmul, 1) := by decide +kernel
theorem dX4_digestWithPerson_70 : decode cX4_digestWithPerson 70 = .ok (.aload_n 0, 1) := by decide +kernel
theorem dX4_digestWithPerson_71 : decode cX4_digestWithPerson 71 = .ok (.iload_n 3, 1) := by decide +kernel
theorem dX4_digestWithPerson_72 : decode cX4_digestWithPerson 72 = .ok (.iload 6, 2) := by decide +kernel
theorem dX4_digestWithPerson_74 : decode cX4_digestWithPerson 74 = .ok (.iconst 1, 1) := by decide +kernel
theorem dX4_digestWithPerson_75 : decode cX4_digestWithPerson 75 = .ok (.invokevirtual 272, 3) := by decide +kernel
theorem dX4_digestWithPerson_78 : decode cX4_digestWithPerson 78 = .ok (.i2l, 1) := by decide +kernel
theorem dX4_digestWithPerson_79 : decode cX4_digestWithPerson 79 = .ok (.ladd, 1) := by decide +kernel
theorem dX4_digestWithPerson_80 : decode cX4_digestWithPerson 80 = .ok (.lstore 4, 2) := by decide +kernel
theorem dX4_digestWithPerson_82 : decode cX4_digestWithPerson 82 = .ok (.iinc 6 1, 3) := by decide +kernel
theorem dX4_digestWithPerson_85 : decode cX4_digestWithPerson 85 = .ok (.goto (-46), 3) := by decide +kernel
theorem dX4_digestWithPerson_88 : decode cX4_digestWithPerson 88 = .ok (.lload 4, 2) := by decide +kernel
theorem dX4_digestWithPerson_90 : decode cX4_digestWithPerson 90 = .ok (.ldc2_w 244, 3) := by decide +kernel
theorem dX4_digestWithPerson_93 : decode cX4_digestWithPerson 93 = .ok (.lmul, 1) := by decide +kernel
theorem dX4_digestWithPerson_94 : decode cX4_digestWithPerson 94 = .ok (.aload_n 0, 1) := by decide +kernel
theorem dX4_digestWithPerson_95 : decode cX4_digestWithPerson 95 = .ok (.iload_n 3, 1) := by decide +kernel
theorem dX4_digestWithPerson_96 : decode cX4_digestWithPerson 96 = .ok (.iconst 0, 1) := by decide +kernel
theorem dX4_digestWithPerson_97 : decode cX4_digestWithPerson 97 = .ok (.bipush 9, 2) := by decide +kernel
theorem dX4_digestWithPerson_99 : decode cX4_digestWithPerson 99 = .ok (.invokevirtual 276, 3) := by decide +kernel
theorem dX4_digestWithPerson_102 : decode cX4_digestWithPerson 102 = .ok (.i2l, 1) := by decide +kernel
theorem dX4_digestWithPerson_103 : decode cX4_digestWithPerson 103 = .ok (.ladd, 1) := by decide +kernel
theorem dX4_digestWithPerson_104 : decode cX4_digestWithPerson 104 = .ok (.lreturn, 1) := by decide +kernel
theorem dX4_checkIndex_0 : decode cX4_checkIndex 0 = .ok (.iload_n 0, 1) := by decide +kernel
theorem dX4_checkIndex_1 : decode cX4_checkIndex 1 = .ok (.ifCond .lt 8, 3) := by decide +kernel
theorem dX4_checkIndex_4 : decode cX4_checkIndex 4 = .ok (.iload_n 0, 1) := by decide +kernel
theorem dX4_checkIndex_5 : decode cX4_checkIndex 5 = .ok (.iload_n 1, 1) := by decide +kernel
theorem dX4_checkIndex_6 : decode cX4_checkIndex 6 = .ok (.if_icmp .lt 14, 3) := by decide +kernel
theorem dX4_checkIndex_9 : decode cX4_checkIndex 9 = .ok (.new 279, 3) := by decide +kernel
theorem dX4_checkIndex_12 : decode cX4_checkIndex 12 = .ok (.dup, 1) := by decide +kernel
theorem dX4_checkIndex_13 : decode cX4_checkIndex 13 = .ok (.ldc_w 281, 3) := by decide +kernel
theorem dX4_checkIndex_16 : decode cX4_checkIndex 16 = .ok (.invokespecial 283, 3) := by decide +kernel
theorem dX4_checkIndex_19 : decode cX4_checkIndex 19 = .ok (.athrow, 1) := by decide +kernel
theorem dX4_checkIndex_20 : decode cX4_checkIndex 20 = .ok (.return_, 1) := by decide +kernel
theorem dX4_checkArgument_0 : decode cX4_checkArgument 0 = .ok (.iload_n 0, 1) := by decide +kernel
theorem dX4_checkArgument_1 : decode cX4_checkArgument 1 = .ok (.iload_n 1, 1) := by decide +kernel
theorem dX4_checkArgument_2 : decode cX4_checkArgument 2 = .ok (.if_icmp .lt 8, 3) := by decide +kernel
theorem dX4_checkArgument_5 : decode cX4_checkArgument 5 = .ok (.iload_n 0, 1) := by decide +kernel
theorem dX4_checkArgument_6 : decode cX4_checkArgument 6 = .ok (.iload_n 2, 1) := by decide +kernel
theorem dX4_checkArgument_7 : decode cX4_checkArgument 7 = .ok (.if_icmp .le 14, 3) := by decide +kernel
theorem dX4_checkArgument_10 : decode cX4_checkArgument 10 = .ok (.new 113, 3) := by decide +kernel
theorem dX4_checkArgument_13 : decode cX4_checkArgument 13 = .ok (.dup, 1) := by decide +kernel
theorem dX4_checkArgument_14 : decode cX4_checkArgument 14 = .ok (.ldc_w 284, 3) := by decide +kernel
theorem dX4_checkArgument_17 : decode cX4_checkArgument 17 = .ok (.invokespecial 117, 3) := by decide +kernel
theorem dX4_checkArgument_20 : decode cX4_checkArgument 20 = .ok (.athrow, 1) := by decide +kernel
theorem dX4_checkArgument_21 : decode cX4_checkArgument 21 = .ok (.return_, 1) := by decide +kernel
theorem dX4_checkState_0 : decode cX4_checkState 0 = .ok (.iload_n 0, 1) := by decide +kernel
theorem dX4_checkState_1 : decode cX4_checkState 1 = .ok (.ifCond .ne 14, 3) := by decide +kernel
theorem dX4_checkState_4 : decode cX4_checkState 4 = .ok (.new 286, 3) := by decide +kernel
theorem dX4_checkState_7 : decode cX4_checkState 7 = .ok (.dup, 1) := by decide +kernel
theorem dX4_checkState_8 : decode cX4_checkState 8 = .ok (.ldc_w 288, 3) := by decide +kernel
theorem dX4_checkState_11 : decode cX4_checkState 11 = .ok (.invokespecial 290, 3) := by decide +kernel
theorem dX4_checkState_14 : decode cX4_checkState 14 = .ok (.athrow, 1) := by decide +kernel
theorem dX4_checkState_15 : decode cX4_checkState 15 = .ok (.return_, 1) := by decide +kernel
theorem dX5_init_0 : decode cX5_init 0 = .ok (.aload_n 0, 1) := by decide +kernel
theorem dX5_init_1 : decode cX5_init 1 = .ok (.invokespecial 3, 3) := by decide +kernel
theorem dX5_init_4 : decode cX5_init 4 = .ok (.aload_n 0, 1) := by decide +kernel
theorem dX5_init_5 : decode cX5_init 5 = .ok (.bipush 10, 2) := by decide +kernel
theorem dX5_init_7 : decode cX5_init 7 = .ok (.bipush 9, 2) := by decide +kernel
theorem dX5_init_9 : decode cX5_init 9 = .ok (.multianewarray 9 2, 4) := by decide +kernel
theorem dX5_init_13 : decode cX5_init 13 = .ok (.putfield 11, 3) := by decide +kernel
theorem dX5_init_16 : decode cX5_init 16 = .ok (.aload_n 0, 1) := by decide +kernel
theorem dX5_init_17 : decode cX5_init 17 = .ok (.bipush 10, 2) := by decide +kernel
theorem dX5_init_19 : decode cX5_init 19 = .ok (.bipush 6, 2) := by decide +kernel
theorem dX5_init_21 : decode cX5_init 21 = .ok (.multianewarray 9 2, 4) := by decide +kernel
theorem dX5_init_25 : decode cX5_init 25 = .ok (.putfield 16, 3) := by decide +kernel
theorem dX5_init_28 : decode cX5_init 28 = .ok (.aload_n 0, 1) := by decide +kernel
theorem dX5_init_29 : decode cX5_init 29 = .ok (.bipush 10, 2) := by decide +kernel
theorem dX5_init_31 : decode cX5_init 31 = .ok (.bipush 6, 2) := by decide +kernel
theorem dX5_init_33 : decode cX5_init 33 = .ok (.multianewarray 9 2, 4) := by decide +kernel
theorem dX5_init_37 : decode cX5_init 37 = .ok (.putfield 19, 3) := by decide +kernel
theorem dX5_init_40 : decode cX5_init 40 = .ok (.aload_n 0, 1) := by decide +kernel
theorem dX5_init_41 : decode cX5_init 41 = .ok (.bipush 8, 2) := by decide +kernel
theorem dX5_init_43 : decode cX5_init 43 = .ok (.bipush 11, 2) := by decide +kernel
theorem dX5_init_45 : decode cX5_init 45 = .ok (.multianewarray 9 2, 4) := by decide +kernel
theorem dX5_init_49 : decode cX5_init 49 = .ok (.putfield 22, 3) := by decide +kernel
theorem dX5_init_52 : decode cX5_init 52 = .ok (.aload_n 0, 1) := by decide +kernel
theorem dX5_init_53 : decode cX5_init 53 = .ok (.iconst 5, 1) := by decide +kernel
theorem dX5_init_54 : decode cX5_init 54 = .ok (.newarray .int, 2) := by decide +kernel
theorem dX5_init_56 : decode cX5_init 56 = .ok (.putfield 25, 3) := by decide +kernel
theorem dX5_init_59 : decode cX5_init 59 = .ok (.aload_n 0, 1) := by decide +kernel
theorem dX5_init_60 : decode cX5_init 60 = .ok (.iconst 5, 1) := by decide +kernel
theorem dX5_init_61 : decode cX5_init 61 = .ok (.newarray .int, 2) := by decide +kernel
theorem dX5_init_63 : decode cX5_init 63 = .ok (.putfield 29, 3) := by decide +kernel
theorem dX5_init_66 : decode cX5_init 66 = .ok (.aload_n 0, 1) := by decide +kernel
theorem dX5_init_67 : decode cX5_init 67 = .ok (.iconst 5, 1) := by decide +kernel
theorem dX5_init_68 : decode cX5_init 68 = .ok (.putfield 32, 3) := by decide +kernel
theorem dX5_init_71 : decode cX5_init 71 = .ok (.aload_n 0, 1) := by decide +kernel
theorem dX5_init_72 : decode cX5_init 72 = .ok (.sipush 200, 3) := by decide +kernel
theorem dX5_init_75 : decode cX5_init 75 = .ok (.putfield 36, 3) := by decide +kernel
theorem dX5_init_78 : decode cX5_init 78 = .ok (.aload_n 0, 1) := by decide +kernel
theorem dX5_init_79 : decode cX5_init 79 = .ok (.bipush 30, 2) := by decide +kernel
theorem dX5_init_81 : decode cX5_init 81 = .ok (.putfield 39, 3) := by decide +kernel
theorem dX5_init_84 : decode cX5_init 84 = .ok (.return_, 1) := by decide +kernel
set_option maxRecDepth 20000 in
theorem ggX5_copy_X5_init : GoodIn wsX5_copy wsX5_init := goodIn_r _ [24, 25, 26, 27, 28, 29, 4, 5, 6, 7, 8, 13, 19, 20, 21, 33, 34, 35, 36, 37, 38, 39, 40, 41, 42, 43, 44, 45, 46] (by decide +kernel) (by decide +kernel)
set_option maxRecDepth 20000 in
theorem gX5_copy_X5_init : GoodIn wsX5_copy (wsX5_init) := ggX5_copy_X5_init
set_option maxRecDepth 20000 in
theorem ggX5_copy_X5_rows : GoodIn wsX5_copy wsX5_rows := goodIn_r _ [32, 9, 10, 11, 12] (by decide +kernel) (by decide +kernel)
set_option maxRecDepth 20000 in
theorem gX5_copy_X5_rows : GoodIn wsX5_copy (va_wsS RX5 43 yX5_rows wsX5_rows) := goodIn_app (goodIn_of _ (by decide +kernel)) ggX5_copy_X5_rows
theorem dX5_copy_0 : decode cX5_copy 0 = .ok (.new 12, 3) := by decide +kernel
theorem dX5_copy_3 : decode cX5_copy 3 = .ok (.dup, 1) := by decide +kernel
theorem dX5_copy_4 : decode cX5_copy 4 = .ok (.invokespecial 42, 3) := by decide +kernel
theorem dX5_copy_7 : decode cX5_copy 7 = .ok (.astore_n 1, 1) := by decide +kernel
theorem dX5_copy_8 : decode cX5_copy 8 = .ok (.aload_n 0, 1) := by decide +kernel
theorem dX5_copy_9 : decode cX5_copy 9 = .ok (.getfield 11, 3) := by decide +kernel
theorem dX5_copy_12 : decode cX5_copy 12 = .ok (.aload_n 1, 1) := by decide +kernel
theorem dX5_copy_13 : decode cX5_copy 13 = .ok (.getfield 11, 3) := by decide +kernel
theorem dX5_copy_16 : decode cX5_copy 16 = .ok (.invokestatic 43, 3) := by decide +kernel
theorem dX5_copy_19 : decode cX5_copy 19 = .ok (.aload_n 0, 1) := by decide +kernel
theorem dX5_copy_20 : decode cX5_copy 20 = .ok (.getfield 16, 3) := by decide +kernel
theorem dX5_copy_23 : decode cX5_copy 23 = .ok (.aload_n 1, 1) := by decide +kernel
theorem dX5_copy_24 : decode cX5_copy 24 = .ok (.getfield 16, 3) := by decide +kernel
theorem dX5_copy_27 : decode cX5_copy 27 = .ok (.invokestatic 43, 3) := by decide +kernel
theorem dX5_copy_30 : decode cX5_copy 30 = .ok (.aload_n 0, 1) := by decide +kernel
theorem dX5_copy_31 : decode cX5_copy 31 = .ok (.getfield 19, 3) := by decide +kernel
theorem dX5_copy_34 : decode cX5_copy 34 = .ok (.aload_n 1, 1) := by decide +kernel
theorem dX5_copy_35 : decode cX5_copy 35 = .ok (.getfield 19, 3) := by decide +kernel
theorem dX5_copy_38 : decode cX5_copy 38 = .ok (.invokestatic 43, 3) := by decide +kernel
theorem dX5_copy_41 : decode cX5_copy 41 = .ok (.aload_n 0, 1) := by decide +kernel
theorem dX5_copy_42 : decode cX5_copy 42 = .ok (.getfield 22, 3) := by decide +kernel
theorem dX5_copy_45 : decode cX5_copy 45 = .ok (.aload_n 1, 1) := by decide +kernel
theorem dX5_copy_46 : decode cX5_copy 46 = .ok (.getfield 22, 3) := by decide +kernel
theorem dX5_copy_49 : decode cX5_copy 49 = .ok (.invokestatic 43, 3) := by decide +kernel
theorem dX5_copy_52 : decode cX5_copy 52 = .ok (.aload_n 0, 1) := by decide +kernel
theorem dX5_copy_53 : decode cX5_copy 53 = .ok (.getfield 25, 3) := by decide +kernel
theorem dX5_copy_56 : decode cX5_copy 56 = .ok (.iconst 0, 1) := by decide +kernel
theorem dX5_copy_57 : decode cX5_copy 57 = .ok (.aload_n 1, 1) := by decide +kernel
theorem dX5_copy_58 : decode cX5_copy 58 = .ok (.getfield 25, 3) := by decide +kernel
theorem dX5_copy_61 : decode cX5_copy 61 = .ok (.iconst 0, 1) := by decide +kernel
theorem dX5_copy_62 : decode cX5_copy 62 = .ok (.iconst 5, 1) := by decide +kernel
theorem dX5_copy_63 : decode cX5_copy 63 = .ok (.invokestatic 47, 3) := by decide +kernel
theorem dX5_copy_66 : decode cX5_copy 66 = .ok (.aload_n 0, 1) := by decide +kernel
theorem dX5_copy_67 : decode cX5_copy 67 = .ok (.getfield 29, 3) := by decide +kernel
theorem dX5_copy_70 : decode cX5_copy 70 = .ok (.iconst 0, 1) := by decide +kernel
theorem dX5_copy_71 : decode cX5_copy 71 = .ok (.aload_n 1, 1) := by decide +kernel
theorem dX5_copy_72 : decode cX5_copy 72 = .ok (.getfield 29, 3) := by decide +kernel
theorem dX5_copy_75 : decode cX5_copy 75 = .ok (.iconst 0, 1) := by decide +kernel
theorem dX5_copy_76 : decode cX5_copy 76 = .ok (.iconst 5, 1) := by decide +kernel
theorem dX5_copy_77 : decode cX5_copy 77 = .ok (.invokestatic 47, 3) := by decide +kernel
theorem dX5_copy_80 : decode cX5_copy 80 = .ok (.aload_n 1, 1) := by decide +kernel
theorem dX5_copy_81 : decode cX5_copy 81 = .ok (.aload_n 0, 1) := by decide +kernel
theorem dX5_copy_82 : decode cX5_copy 82 = .ok (.getfield 53, 3) := by decide +kernel
theorem dX5_copy_85 : decode cX5_copy 85 = .ok (.putfield 53, 3) := by decide +kernel
theorem dX5_copy_88 : decode cX5_copy 88 = .ok (.aload_n 1, 1) := by decide +kernel
theorem dX5_copy_89 : decode cX5_copy 89 = .ok (.aload_n 0, 1) := by decide +kernel
theorem dX5_copy_90 : decode cX5_copy 90 = .ok (.getfield 56, 3) := by decide +kernel
theorem dX5_copy_93 : decode cX5_copy 93 = .ok (.putfield 56, 3) := by decide +kernel
theorem dX5_copy_96 : decode cX5_copy 96 = .ok (.aload_n 1, 1) := by decide +kernel
theorem dX5_copy_97 : decode cX5_copy 97 = .ok (.aload_n 0, 1) := by decide +kernel
theorem dX5_copy_98 : decode cX5_copy 98 = .ok (.getfield 59, 3) := by decide +kernel
theorem dX5_copy_101 : decode cX5_copy 101 = .ok (.putfield 59, 3) := by decide +kernel
theorem dX5_copy_104 : decode cX5_copy 104 = .ok (.aload_n 1, 1) := by decide +kernel
theorem dX5_copy_105 : decode cX5_copy 105 = .ok (.aload_n 0, 1) := by decide +kernel
theorem dX5_copy_106 : decode cX5_copy 106 = .ok (.getfield 62, 3) := by decide +kernel
theorem dX5_copy_109 : decode cX5_copy 109 = .ok (.putfield 62, 3) := by decide +kernel
theorem dX5_copy_112 : decode cX5_copy 112 = .ok (.aload_n 1, 1) := by decide +kernel
theorem dX5_copy_113 : decode cX5_copy 113 = .ok (.aload_n 0, 1) := by decide +kernel
theorem dX5_copy_114 : decode cX5_copy 114 = .ok (.getfield 65, 3) := by decide +kernel
theorem dX5_copy_117 : decode cX5_copy 117 = .ok (.putfield 65, 3) := by decide +kernel
theorem dX5_copy_120 : decode cX5_copy 120 = .ok (.aload_n 1, 1) := by decide +kernel
theorem dX5_copy_121 : decode cX5_copy 121 = .ok (.aload_n 0, 1) := by decide +kernel
theorem dX5_copy_122 : decode cX5_copy 122 = .ok (.getfield 32, 3) := by decide +kernel
theorem dX5_copy_125 : decode cX5_copy 125 = .ok (.putfield 32, 3) := by decide +kernel
theorem dX5_copy_128 : decode cX5_copy 128 = .ok (.aload_n 1, 1) := by decide +kernel
theorem dX5_copy_129 : decode cX5_copy 129 = .ok (.aload_n 0, 1) := by decide +kernel
theorem dX5_copy_130 : decode cX5_copy 130 = .ok (.getfield 36, 3) := by decide +kernel
theorem dX5_copy_133 : decode cX5_copy 133 = .ok (.putfield 36, 3) := by decide +kernel
theorem dX5_copy_136 : decode cX5_copy 136 = .ok (.aload_n 1, 1) := by decide +kernel
theorem dX5_copy_137 : decode cX5_copy 137 = .ok (.aload_n 0, 1) := by decide +kernel
theorem dX5_copy_138 : decode cX5_copy 138 = .ok (.getfield 39, 3) := by decide +kernel
theorem dX5_copy_141 : decode cX5_copy 141 = .ok (.putfield 39, 3) := by decide +kernel
theorem dX5_copy_144 : decode cX5_copy 144 = .ok (.aload_n 1, 1) := by decide +kernel
theorem dX5_copy_145 : decode cX5_copy 145 = .ok (.areturn, 1) := by decide +kernel
theorem dX5_rows_0 : decode cX5_rows 0 = .ok (.iconst 0, 1) := by decide +kernel
theorem dX5_rows_1 : decode cX5_rows 1 = .ok (.istore_n 2, 1) := by decide +kernel
theorem dX5_rows_2 : decode cX5_rows 2 = .ok (.iload_n 2, 1) := by decide +kernel
theorem dX5_rows_3 : decode cX5_rows 3 = .ok (.aload_n 0, 1) := by decide +kernel
theorem dX5_rows_4 : decode cX5_rows 4 = .ok (.arraylength, 1) := by decide +kernel
theorem dX5_rows_5 : decode cX5_rows 5 = .ok (.if_icmp .ge 24, 3) := by decide +kernel
theorem dX5_rows_8 : decode cX5_rows 8 = .ok (.aload_n 0, 1) := by decide +kernel
theorem dX5_rows_9 : decode cX5_rows 9 = .ok (.iload_n 2, 1) := by decide +kernel
theorem dX5_rows_10 : decode cX5_rows 10 = .ok (.aaload, 1) := by decide +kernel
theorem dX5_rows_11 : decode cX5_rows 11 = .ok (.iconst 0, 1) := by decide +kernel
theorem dX5_rows_12 : decode cX5_rows 12 = .ok (.aload_n 1, 1) := by decide +kernel
theorem dX5_rows_13 : decode cX5_rows 13 = .ok (.iload_n 2, 1) := by decide +kernel
theorem dX5_rows_14 : decode cX5_rows 14 = .ok (.aaload, 1) := by decide +kernel
theorem dX5_rows_15 : decode cX5_rows 15 = .ok (.iconst 0, 1) := by decide +kernel
theorem dX5_rows_16 : decode cX5_rows 16 = .ok (.aload_n 0, 1) := by decide +kernel
theorem dX5_rows_17 : decode cX5_rows 17 = .ok (.iload_n 2, 1) := by decide +kernel
theorem dX5_rows_18 : decode cX5_rows 18 = .ok (.aaload, 1) := by decide +kernel
theorem dX5_rows_19 : decode cX5_rows 19 = .ok (.arraylength, 1) := by decide +kernel
theorem dX5_rows_20 : decode cX5_rows 20 = .ok (.invokestatic 47, 3) := by decide +kernel
theorem dX5_rows_23 : decode cX5_rows 23 = .ok (.iinc 2 1, 3) := by decide +kernel
theorem dX5_rows_26 : decode cX5_rows 26 = .ok (.goto (-24), 3) := by decide +kernel
theorem dX5_rows_29 : decode cX5_rows 29 = .ok (.return_, 1) := by decide +kernel
theorem dX5_doubt_0 : decode cX5_doubt 0 = .ok (.iconst 0, 1) := by decide +kernel
theorem dX5_doubt_1 : decode cX5_doubt 1 = .ok (.istore_n 2, 1) := by decide +kernel
theorem dX5_doubt_2 : decode cX5_doubt 2 = .ok (.iconst 0, 1) := by decide +kernel
theorem dX5_doubt_3 : decode cX5_doubt 3 = .ok (.istore_n 3, 1) := by decide +kernel
theorem dX5_doubt_4 : decode cX5_doubt 4 = .ok (.iload_n 3, 1) := by decide +kernel
theorem dX5_doubt_5 : decode cX5_doubt 5 = .ok (.bipush 6, 2) := by decide +kernel
theorem dX5_doubt_7 : decode cX5_doubt 7 = .ok (.if_icmp .ge 29, 3) := by decide +kernel
theorem dX5_doubt_10 : decode cX5_doubt 10 = .ok (.iload_n 2, 1) := by decide +kernel
theorem dX5_doubt_11 : decode cX5_doubt 11 = .ok (.aload_n 0, 1) := by decide +kernel
theorem dX5_doubt_12 : decode cX5_doubt 12 = .ok (.getfield 19, 3) := by decide +kernel
theorem dX5_doubt_15 : decode cX5_doubt 15 = .ok (.iload_n 1, 1) := by decide +kernel
theorem dX5_doubt_16 : decode cX5_doubt 16 = .ok (.aaload, 1) := by decide +kernel
theorem dX5_doubt_17 : decode cX5_doubt 17 = .ok (.iload_n 3, 1) := by decide +kernel
theorem dX5_doubt_18 : decode cX5_doubt 18 = .ok (.iaload, 1) := by decide +kernel
theorem dX5_doubt_19 : decode cX5_doubt 19 = .ok (.aload_n 0, 1) := by decide +kernel
theorem dX5_doubt_20 : decode cX5_doubt 20 = .ok (.getfield 16, 3) := by decide +kernel
theorem dX5_doubt_23 : decode cX5_doubt 23 = .ok (.iload_n 1, 1) := by decide +kernel
theorem dX5_doubt_24 : decode cX5_doubt 24 = .ok (.aaload, 1) := by decide +kernel
theorem dX5_doubt_25 : decode cX5_doubt 25 = .ok (.iload_n 3, 1) := by decide +kernel
theorem dX5_doubt_26 : decode cX5_doubt 26 = .ok (.iaload, 1) := by decide +kernel
theorem dX5_doubt_27 : decode cX5_doubt 27 = .ok (.isub, 1) := by decide +kernel
theorem dX5_doubt_28 : decode cX5_doubt 28 = .ok (.iadd, 1) := by decide +kernel
theorem dX5_doubt_29 : decode cX5_doubt 29 = .ok (.istore_n 2, 1) := by decide +kernel
theorem dX5_doubt_30 : decode cX5_doubt 30 = .ok (.iinc 3 1, 3) := by decide +kernel
theorem dX5_doubt_33 : decode cX5_doubt 33 = .ok (.goto (-29), 3) := by decide +kernel
theorem dX5_doubt_36 : decode cX5_doubt 36 = .ok (.iload_n 2, 1) := by decide +kernel
theorem dX5_doubt_37 : decode cX5_doubt 37 = .ok (.bipush 6, 2) := by decide +kernel
theorem dX5_doubt_39 : decode cX5_doubt 39 = .ok (.idiv, 1) := by decide +kernel
theorem dX5_doubt_40 : decode cX5_doubt 40 = .ok (.ireturn, 1) := by decide +kernel
theorem dX5_height_0 : decode cX5_height 0 = .ok (.aload_n 0, 1) := by decide +kernel
theorem dX5_height_1 : decode cX5_height 1 = .ok (.getfield 16, 3) := by decide +kernel
theorem dX5_height_4 : decode cX5_height 4 = .ok (.iload_n 1, 1) := by decide +kernel
theorem dX5_height_5 : decode cX5_height 5 = .ok (.aaload, 1) := by decide +kernel
theorem dX5_height_6 : decode cX5_height 6 = .ok (.iconst 5, 1) := by decide +kernel
theorem dX5_height_7 : decode cX5_height 7 = .ok (.iaload, 1) := by decide +kernel
theorem dX5_height_8 : decode cX5_height 8 = .ok (.aload_n 0, 1) := by decide +kernel
theorem dX5_height_9 : decode cX5_height 9 = .ok (.getfield 19, 3) := by decide +kernel
theorem dX5_height_12 : decode cX5_height 12 = .ok (.iload_n 1, 1) := by decide +kernel
theorem dX5_height_13 : decode cX5_height 13 = .ok (.aaload, 1) := by decide +kernel
theorem dX5_height_14 : decode cX5_height 14 = .ok (.iconst 5, 1) := by decide +kernel
theorem dX5_height_15 : decode cX5_height 15 = .ok (.iaload, 1) := by decide +kernel
theorem dX5_height_16 : decode cX5_height 16 = .ok (.iadd, 1) := by decide +kernel
theorem dX5_height_17 : decode cX5_height 17 = .ok (.ireturn, 1) := by decide +kernel
theorem dX5_isDone_0 : decode cX5_isDone 0 = .ok (.aload_n 1, 1) := by decide +kernel
theorem dX5_isDone_1 : decode cX5_isDone 1 = .ok (.iconst 2, 1) := by decide +kernel
theorem dX5_isDone_2 : decode cX5_isDone 2 = .ok (.iaload, 1) := by decide +kernel
theorem dX5_isDone_3 : decode cX5_isDone 3 = .ok (.bipush 6, 2) := by decide +kernel
theorem dX5_isDone_5 : decode cX5_isDone 5 = .ok (.if_icmp .ne 16, 3) := by decide +kernel
theorem dX5_isDone_8 : decode cX5_isDone 8 = .ok (.aload_n 1, 1) := by decide +kernel
theorem dX5_isDone_9 : decode cX5_isDone 9 = .ok (.bipush 7, 2) := by decide +kernel
theorem dX5_isDone_11 : decode cX5_isDone 11 = .ok (.iaload, 1) := by decide +kernel
theorem dX5_isDone_12 : decode cX5_isDone 12 = .ok (.bipush 7, 2) := by decide +kernel
theorem dX5_isDone_14 : decode cX5_isDone 14 = .ok (.if_icmp .eq 7, 3) := by decide +kernel
theorem dX5_isDone_17 : decode cX5_isDone 17 = .ok (.iconst 1, 1) := by decide +kernel
theorem dX5_isDone_18 : decode cX5_isDone 18 = .ok (.goto 4, 3) := by decide +kernel
theorem dX5_isDone_21 : decode cX5_isDone 21 = .ok (.iconst 0, 1) := by decide +kernel
theorem dX5_isDone_22 : decode cX5_isDone 22 = .ok (.ireturn, 1) := by decide +kernel
set_option maxRecDepth 20000 in
theorem ggX5_likeness_X5_isDone : GoodIn wsX5_likeness wsX5_isDone := goodIn_r _ [12] (by decide +kernel) (by decide +kernel)
set_option maxRecDepth 20000 in
theorem gX5_likeness_X5_isDone : GoodIn wsX5_likeness (wsV RX5 68 RX5 yX5_isDone wsX5_isDone) := goodIn_app (goodIn_of _ (by decide +kernel)) ggX5_likeness_X5_isDone
set_option maxRecDepth 20000 in
theorem ggX5_likeness_X5_height : GoodIn wsX5_likeness wsX5_height := goodIn_r _ [16, 17, 18, 19, 20, 21, 22, 23, 24, 25, 26, 27, 28, 29, 30, 31, 32] (by decide +kernel) (by decide +kernel)
set_option maxRecDepth 20000 in
theorem gX5_likeness_X5_height : GoodIn wsX5_likeness (wsV RX5 72 RX5 yX5_height wsX5_height) := goodIn_app (goodIn_of _ (by decide +kernel)) ggX5_likeness_X5_height
theorem dX5_likeness_0 : decode cX5_likeness 0 = .ok (.aload_n 0, 1) := by decide +kernel
theorem dX5_likeness_1 : decode cX5_likeness 1 = .ok (.aload_n 1, 1) := by decide +kernel
theorem dX5_likeness_2 : decode cX5_likeness 2 = .ok (.invokevirtual 68, 3) := by decide +kernel
theorem dX5_likeness_5 : decode cX5_likeness 5 = .ok (.ifCond .ne 5, 3) := by decide +kernel
theorem dX5_likeness_8 : decode cX5_likeness 8 = .ok (.iconst 0, 1) := by decide +kernel
theorem dX5_likeness_9 : decode cX5_likeness 9 = .ok (.ireturn, 1) := by decide +kernel
theorem dX5_likeness_10 : decode cX5_likeness 10 = .ok (.aload_n 1, 1) := by decide +kernel
theorem dX5_likeness_11 : decode cX5_likeness 11 = .ok (.iconst 5, 1) := by decide +kernel
theorem dX5_likeness_12 : decode cX5_likeness 12 = .ok (.iaload, 1) := by decide +kernel
theorem dX5_likeness_13 : decode cX5_likeness 13 = .ok (.aload_n 1, 1) := by decide +kernel
theorem dX5_likeness_14 : decode cX5_likeness 14 = .ok (.bipush 6, 2) := by decide +kernel
theorem dX5_likeness_16 : decode cX5_likeness 16 = .ok (.iaload, 1) := by decide +kernel
theorem dX5_likeness_17 : decode cX5_likeness 17 = .ok (.iconst 2, 1) := by decide +kernel
theorem dX5_likeness_18 : decode cX5_likeness 18 = .ok (.idiv, 1) := by decide +kernel
theorem dX5_likeness_19 : decode cX5_likeness 19 = .ok (.iadd, 1) := by decide +kernel
theorem dX5_likeness_20 : decode cX5_likeness 20 = .ok (.aload_n 1, 1) := by decide +kernel
theorem dX5_likeness_21 : decode cX5_likeness 21 = .ok (.iconst 0, 1) := by decide +kernel
theorem dX5_likeness_22 : decode cX5_likeness 22 = .ok (.iaload, 1) := by decide +kernel
theorem dX5_likeness_23 : decode cX5_likeness 23 = .ok (.aload_n 1, 1) := by decide +kernel
theorem dX5_likeness_24 : decode cX5_likeness 24 = .ok (.iconst 1, 1) := by decide +kernel
theorem dX5_likeness_25 : decode cX5_likeness 25 = .ok (.iaload, 1) := by decide +kernel
theorem dX5_likeness_26 : decode cX5_likeness 26 = .ok (.if_icmp .ne 7, 3) := by decide +kernel
theorem dX5_likeness_29 : decode cX5_likeness 29 = .ok (.iconst 0, 1) := by decide +kernel
theorem dX5_likeness_30 : decode cX5_likeness 30 = .ok (.goto 23, 3) := by decide +kernel
theorem dX5_likeness_33 : decode cX5_likeness 33 = .ok (.aload_n 0, 1) := by decide +kernel
theorem dX5_likeness_34 : decode cX5_likeness 34 = .ok (.aload_n 1, 1) := by decide +kernel
theorem dX5_likeness_35 : decode cX5_likeness 35 = .ok (.iconst 0, 1) := by decide +kernel
theorem dX5_likeness_36 : decode cX5_likeness 36 = .ok (.iaload, 1) := by decide +kernel
theorem dX5_likeness_37 : decode cX5_likeness 37 = .ok (.invokevirtual 72, 3) := by decide +kernel
theorem dX5_likeness_40 : decode cX5_likeness 40 = .ok (.aload_n 0, 1) := by decide +kernel
theorem dX5_likeness_41 : decode cX5_likeness 41 = .ok (.aload_n 1, 1) := by decide +kernel
theorem dX5_likeness_42 : decode cX5_likeness 42 = .ok (.iconst 1, 1) := by decide +kernel
theorem dX5_likeness_43 : decode cX5_likeness 43 = .ok (.iaload, 1) := by decide +kernel
theorem dX5_likeness_44 : decode cX5_likeness 44 = .ok (.invokevirtual 72, 3) := by decide +kernel
theorem dX5_likeness_47 : decode cX5_likeness 47 = .ok (.isub, 1) := by decide +kernel
theorem dX5_likeness_48 : decode cX5_likeness 48 = .ok (.invokestatic 76, 3) := by decide +kernel
theorem dX5_likeness_51 : decode cX5_likeness 51 = .ok (.iconst 4, 1) := by decide +kernel
theorem dX5_likeness_52 : decode cX5_likeness 52 = .ok (.idiv, 1) := by decide +kernel
theorem dX5_likeness_53 : decode cX5_likeness 53 = .ok (.iadd, 1) := by decide +kernel
theorem dX5_likeness_54 : decode cX5_likeness 54 = .ok (.istore_n 2, 1) := by decide +kernel
theorem dX5_likeness_55 : decode cX5_likeness 55 = .ok (.iconst 0, 1) := by decide +kernel
theorem dX5_likeness_56 : decode cX5_likeness 56 = .ok (.bipush 100, 2) := by decide +kernel
theorem dX5_likeness_58 : decode cX5_likeness 58 = .ok (.iload_n 2, 1) := by decide +kernel
theorem dX5_likeness_59 : decode cX5_likeness 59 = .ok (.isub, 1) := by decide +kernel
theorem dX5_likeness_60 : decode cX5_likeness 60 = .ok (.invokestatic 81, 3) := by decide +kernel
theorem dX5_likeness_63 : decode cX5_likeness 63 = .ok (.ireturn, 1) := by decide +kernel
theorem dX5_isShown_0 : decode cX5_isShown 0 = .ok (.aload_n 1, 1) := by decide +kernel
theorem dX5_isShown_1 : decode cX5_isShown 1 = .ok (.bipush 7, 2) := by decide +kernel
theorem dX5_isShown_3 : decode cX5_isShown 3 = .ok (.iaload, 1) := by decide +kernel
theorem dX5_isShown_4 : decode cX5_isShown 4 = .ok (.iconst 5, 1) := by decide +kernel
theorem dX5_isShown_5 : decode cX5_isShown 5 = .ok (.if_icmp .ge 7, 3) := by decide +kernel
theorem dX5_isShown_8 : decode cX5_isShown 8 = .ok (.iconst 1, 1) := by decide +kernel
theorem dX5_isShown_9 : decode cX5_isShown 9 = .ok (.goto 4, 3) := by decide +kernel
theorem dX5_isShown_12 : decode cX5_isShown 12 = .ok (.iconst 0, 1) := by decide +kernel
theorem dX5_isShown_13 : decode cX5_isShown 13 = .ok (.ireturn, 1) := by decide +kernel
set_option maxRecDepth 20000 in
theorem ggX5_draw_X5_isShown : GoodIn wsX5_draw wsX5_isShown := goodIn_r _ [6] (by decide +kernel) (by decide +kernel)
set_option maxRecDepth 20000 in
theorem gX5_draw_X5_isShown : GoodIn wsX5_draw (wsV RX5 85 RX5 yX5_isShown wsX5_isShown) := goodIn_app (goodIn_of _ (by decide +kernel)) ggX5_draw_X5_isShown
set_option maxRecDepth 20000 in
theorem ggX5_draw_X5_likeness : GoodIn wsX5_draw wsX5_likeness := goodIn_r _ [10, 11, 12, 13, 14, 15, 16, 17, 18, 19, 20, 5, 21, 22, 23, 24, 25, 26, 27, 28, 29, 30, 31, 32, 33, 34, 35, 36, 37, 38, 39, 40, 41] (by decide +kernel) (by decide +kernel)
set_option maxRecDepth 20000 in
theorem gX5_draw_X5_likeness : GoodIn wsX5_draw (wsV RX5 88 RX5 yX5_likeness wsX5_likeness) := goodIn_app (goodIn_of _ (by decide +kernel)) ggX5_draw_X5_likeness
theorem dX5_draw_0 : decode cX5_draw 0 = .ok (.aload_n 0, 1) := by decide +kernel
theorem dX5_draw_1 : decode cX5_draw 1 = .ok (.aload_n 1, 1) := by decide +kernel
theorem dX5_draw_2 : decode cX5_draw 2 = .ok (.invokevirtual 85, 3) := by decide +kernel
theorem dX5_draw_5 : decode cX5_draw 5 = .ok (.ifCond .eq 25, 3) := by decide +kernel
theorem dX5_draw_8 : decode cX5_draw 8 = .ok (.aload_n 0, 1) := by decide +kernel
theorem dX5_draw_9 : decode cX5_draw 9 = .ok (.getfield 11, 3) := by decide +kernel
theorem dX5_draw_12 : decode cX5_draw 12 = .ok (.aload_n 1, 1) := by decide +kernel
theorem dX5_draw_13 : decode cX5_draw 13 = .ok (.iconst 0, 1) := by decide +kernel
theorem dX5_draw_14 : decode cX5_draw 14 = .ok (.iaload, 1) := by decide +kernel
theorem dX5_draw_15 : decode cX5_draw 15 = .ok (.aaload, 1) := by decide +kernel
theorem dX5_draw_16 : decode cX5_draw 16 = .ok (.iconst 0, 1) := by decide +kernel
theorem dX5_draw_17 : decode cX5_draw 17 = .ok (.iaload, 1) := by decide +kernel
theorem dX5_draw_18 : decode cX5_draw 18 = .ok (.aload_n 0, 1) := by decide +kernel
theorem dX5_draw_19 : decode cX5_draw 19 = .ok (.aload_n 1, 1) := by decide +kernel
theorem dX5_draw_20 : decode cX5_draw 20 = .ok (.invokevirtual 88, 3) := by decide +kernel
theorem dX5_draw_23 : decode cX5_draw 23 = .ok (.imul, 1) := by decide +kernel
theorem dX5_draw_24 : decode cX5_draw 24 = .ok (.bipush 100, 2) := by decide +kernel
theorem dX5_draw_26 : decode cX5_draw 26 = .ok (.idiv, 1) := by decide +kernel
theorem dX5_draw_27 : decode cX5_draw 27 = .ok (.goto 4, 3) := by decide +kernel
theorem dX5_draw_30 : decode cX5_draw 30 = .ok (.iconst 0, 1) := by decide +kernel
theorem dX5_draw_31 : decode cX5_draw 31 = .ok (.ireturn, 1) := by decide +kernel
set_option maxRecDepth 20000 in
theorem ggX5_drawsIn_X6_in : GoodIn wsX5_drawsIn wsX6_in := goodIn_r _ [5] (by decide +kernel) (by decide +kernel)
set_option maxRecDepth 20000 in
theorem gX5_drawsIn_X6_in_n92 : GoodIn wsX5_drawsIn (wsX6_in) := ggX5_drawsIn_X6_in
set_option maxRecDepth 20000 in
theorem ggX5_drawsIn_X5_draw : GoodIn wsX5_drawsIn wsX5_draw := goodIn_r _ [10, 11, 12, 13, 14, 9, 15, 16, 17, 18, 19, 20, 21, 22, 23, 24, 25, 26, 27, 28, 29, 30, 31, 32, 33, 34, 35, 36, 37, 38, 39, 40, 41, 42, 43, 44, 45, 46, 47, 48, 49, 50] (by decide +kernel) (by decide +kernel)
set_option maxRecDepth 20000 in
theorem gX5_drawsIn_X5_draw : GoodIn wsX5_drawsIn (wsV RX5 96 RX5 yX5_draw wsX5_draw) := goodIn_app (goodIn_of _ (by decide +kernel)) ggX5_drawsIn_X5_draw
theorem dX5_drawsIn_0 : decode cX5_drawsIn 0 = .ok (.iconst 0, 1) := by decide +kernel
theorem dX5_drawsIn_1 : decode cX5_drawsIn 1 = .ok (.istore_n 3, 1) := by decide +kernel
theorem dX5_drawsIn_2 : decode cX5_drawsIn 2 = .ok (.iconst 0, 1) := by decide +kernel
theorem dX5_drawsIn_3 : decode cX5_drawsIn 3 = .ok (.istore 4, 2) := by decide +kernel
theorem dX5_drawsIn_5 : decode cX5_drawsIn 5 = .ok (.iload 4, 2) := by decide +kernel
theorem dX5_drawsIn_7 : decode cX5_drawsIn 7 = .ok (.aload_n 0, 1) := by decide +kernel
theorem dX5_drawsIn_8 : decode cX5_drawsIn 8 = .ok (.getfield 56, 3) := by decide +kernel
theorem dX5_drawsIn_11 : decode cX5_drawsIn 11 = .ok (.if_icmp .ge 45, 3) := by decide +kernel
theorem dX5_drawsIn_14 : decode cX5_drawsIn 14 = .ok (.iload_n 3, 1) := by decide +kernel
theorem dX5_drawsIn_15 : decode cX5_drawsIn 15 = .ok (.aload_n 0, 1) := by decide +kernel
theorem dX5_drawsIn_16 : decode cX5_drawsIn 16 = .ok (.getfield 22, 3) := by decide +kernel
theorem dX5_drawsIn_19 : decode cX5_drawsIn 19 = .ok (.iload 4, 2) := by decide +kernel
theorem dX5_drawsIn_21 : decode cX5_drawsIn 21 = .ok (.aaload, 1) := by decide +kernel
theorem dX5_drawsIn_22 : decode cX5_drawsIn 22 = .ok (.bipush 7, 2) := by decide +kernel
theorem dX5_drawsIn_24 : decode cX5_drawsIn 24 = .ok (.iaload, 1) := by decide +kernel
theorem dX5_drawsIn_25 : decode cX5_drawsIn 25 = .ok (.iload_n 1, 1) := by decide +kernel
theorem dX5_drawsIn_26 : decode cX5_drawsIn 26 = .ok (.iload_n 2, 1) := by decide +kernel
theorem dX5_drawsIn_27 : decode cX5_drawsIn 27 = .ok (.invokestatic 92, 3) := by decide +kernel
theorem dX5_drawsIn_30 : decode cX5_drawsIn 30 = .ok (.ifCond .eq 17, 3) := by decide +kernel
theorem dX5_drawsIn_33 : decode cX5_drawsIn 33 = .ok (.aload_n 0, 1) := by decide +kernel
theorem dX5_drawsIn_34 : decode cX5_drawsIn 34 = .ok (.aload_n 0, 1) := by decide +kernel
theorem dX5_drawsIn_35 : decode cX5_drawsIn 35 = .ok (.getfield 22, 3) := by decide +kernel
theorem dX5_drawsIn_38 : decode cX5_drawsIn 38 = .ok (.iload 4, 2) := by decide +kernel
theorem dX5_drawsIn_40 : decode cX5_drawsIn 40 = .ok (.aaload, 1) := by decide +kernel
theorem dX5_drawsIn_41 : decode cX5_drawsIn 41 = .ok (.invokevirtual 96, 3) := by decide +kernel
theorem dX5_drawsIn_44 : decode cX5_drawsIn 44 = .ok (.goto 4, 3) := by decide +kernel
theorem dX5_drawsIn_47 : decode cX5_drawsIn 47 = .ok (.iconst 0, 1) := by decide +kernel
theorem dX5_drawsIn_48 : decode cX5_drawsIn 48 = .ok (.iadd, 1) := by decide +kernel
theorem dX5_drawsIn_49 : decode cX5_drawsIn 49 = .ok (.istore_n 3, 1) := by decide +kernel
theorem dX5_drawsIn_50 : decode cX5_drawsIn 50 = .ok (.iinc 4 1, 3) := by decide +kernel
theorem dX5_drawsIn_53 : decode cX5_drawsIn 53 = .ok (.goto (-48), 3) := by decide +kernel
theorem dX5_drawsIn_56 : decode cX5_drawsIn 56 = .ok (.iload_n 3, 1) := by decide +kernel
theorem dX5_drawsIn_57 : decode cX5_drawsIn 57 = .ok (.ireturn, 1) := by decide +kernel
theorem dX5_shownIn_0 : decode cX5_shownIn 0 = .ok (.iconst 0, 1) := by decide +kernel
theorem dX5_shownIn_1 : decode cX5_shownIn 1 = .ok (.istore_n 2, 1) := by decide +kernel
theorem dX5_shownIn_2 : decode cX5_shownIn 2 = .ok (.iconst 0, 1) := by decide +kernel
theorem dX5_shownIn_3 : decode cX5_shownIn 3 = .ok (.istore_n 3, 1) := by decide +kernel
theorem dX5_shownIn_4 : decode cX5_shownIn 4 = .ok (.iload_n 3, 1) := by decide +kernel
theorem dX5_shownIn_5 : decode cX5_shownIn 5 = .ok (.aload_n 0, 1) := by decide +kernel
theorem dX5_shownIn_6 : decode cX5_shownIn 6 = .ok (.getfield 56, 3) := by decide +kernel
theorem dX5_shownIn_9 : decode cX5_shownIn 9 = .ok (.if_icmp .ge 30, 3) := by decide +kernel
theorem dX5_shownIn_12 : decode cX5_shownIn 12 = .ok (.iload_n 2, 1) := by decide +kernel
theorem dX5_shownIn_13 : decode cX5_shownIn 13 = .ok (.aload_n 0, 1) := by decide +kernel
theorem dX5_shownIn_14 : decode cX5_shownIn 14 = .ok (.getfield 22, 3) := by decide +kernel
theorem dX5_shownIn_17 : decode cX5_shownIn 17 = .ok (.iload_n 3, 1) := by decide +kernel
theorem dX5_shownIn_18 : decode cX5_shownIn 18 = .ok (.aaload, 1) := by decide +kernel
theorem dX5_shownIn_19 : decode cX5_shownIn 19 = .ok (.bipush 7, 2) := by decide +kernel
theorem dX5_shownIn_21 : decode cX5_shownIn 21 = .ok (.iaload, 1) := by decide +kernel
theorem dX5_shownIn_22 : decode cX5_shownIn 22 = .ok (.iload_n 1, 1) := by decide +kernel
theorem dX5_shownIn_23 : decode cX5_shownIn 23 = .ok (.if_icmp .ne 7, 3) := by decide +kernel
theorem dX5_shownIn_26 : decode cX5_shownIn 26 = .ok (.iconst 1, 1) := by decide +kernel
theorem dX5_shownIn_27 : decode cX5_shownIn 27 = .ok (.goto 4, 3) := by decide +kernel
theorem dX5_shownIn_30 : decode cX5_shownIn 30 = .ok (.iconst 0, 1) := by decide +kernel
theorem dX5_shownIn_31 : decode cX5_shownIn 31 = .ok (.iadd, 1) := by decide +kernel
theorem dX5_shownIn_32 : decode cX5_shownIn 32 = .ok (.istore_n 2, 1) := by decide +kernel
theorem dX5_shownIn_33 : decode cX5_shownIn 33 = .ok (.iinc 3 1, 3) := by decide +kernel
theorem dX5_shownIn_36 : decode cX5_shownIn 36 = .ok (.goto (-32), 3) := by decide +kernel
theorem dX5_shownIn_39 : decode cX5_shownIn 39 = .ok (.iload_n 2, 1) := by decide +kernel
theorem dX5_shownIn_40 : decode cX5_shownIn 40 = .ok (.ireturn, 1) := by decide +kernel
set_option maxRecDepth 20000 in
theorem ggX5_shownOf_X5_isShown : GoodIn wsX5_shownOf wsX5_isShown := goodIn_r _ [7] (by decide +kernel) (by decide +kernel)
set_option maxRecDepth 20000 in
theorem gX5_shownOf_X5_isShown : GoodIn wsX5_shownOf (wsV RX5 85 RX5 yX5_isShown wsX5_isShown) := goodIn_app (goodIn_of _ (by decide +kernel)) ggX5_shownOf_X5_isShown
theorem dX5_shownOf_0 : decode cX5_shownOf 0 = .ok (.iconst 0, 1) := by decide +kernel
theorem dX5_shownOf_1 : decode cX5_shownOf 1 = .ok (.istore_n 2, 1) := by decide +kernel
theorem dX5_shownOf_2 : decode cX5_shownOf 2 = .ok (.iload_n 2, 1) := by decide +kernel
theorem dX5_shownOf_3 : decode cX5_shownOf 3 = .ok (.aload_n 0, 1) := by decide +kernel
theorem dX5_shownOf_4 : decode cX5_shownOf 4 = .ok (.getfield 56, 3) := by decide +kernel
theorem dX5_shownOf_7 : decode cX5_shownOf 7 = .ok (.if_icmp .ge 36, 3) := by decide +kernel
theorem dX5_shownOf_10 : decode cX5_shownOf 10 = .ok (.aload_n 0, 1) := by decide +kernel
theorem dX5_shownOf_11 : decode cX5_shownOf 11 = .ok (.aload_n 0, 1) := by decide +kernel
theorem dX5_shownOf_12 : decode cX5_shownOf 12 = .ok (.getfield 22, 3) := by decide +kernel
theorem dX5_shownOf_15 : decode cX5_shownOf 15 = .ok (.iload_n 2, 1) := by decide +kernel
theorem dX5_shownOf_16 : decode cX5_shownOf 16 = .ok (.aaload, 1) := by decide +kernel
theorem dX5_shownOf_17 : decode cX5_shownOf 17 = .ok (.invokevirtual 85, 3) := by decide +kernel
theorem dX5_shownOf_20 : decode cX5_shownOf 20 = .ok (.ifCond .eq 17, 3) := by decide +kernel
theorem dX5_shownOf_23 : decode cX5_shownOf 23 = .ok (.aload_n 0, 1) := by decide +kernel
theorem dX5_shownOf_24 : decode cX5_shownOf 24 = .ok (.getfield 22, 3) := by decide +kernel
theorem dX5_shownOf_27 : decode cX5_shownOf 27 = .ok (.iload_n 2, 1) := by decide +kernel
theorem dX5_shownOf_28 : decode cX5_shownOf 28 = .ok (.aaload, 1) := by decide +kernel
theorem dX5_shownOf_29 : decode cX5_shownOf 29 = .ok (.iconst 0, 1) := by decide +kernel
theorem dX5_shownOf_30 : decode cX5_shownOf 30 = .ok (.iaload, 1) := by decide +kernel
theorem dX5_shownOf_31 : decode cX5_shownOf 31 = .ok (.iload_n 1, 1) := by decide +kernel
theorem dX5_shownOf_32 : decode cX5_shownOf 32 = .ok (.if_icmp .ne 5, 3) := by decide +kernel
theorem dX5_shownOf_35 : decode cX5_shownOf 35 = .ok (.iload_n 2, 1) := by decide +kernel
theorem dX5_shownOf_36 : decode cX5_shownOf 36 = .ok (.ireturn, 1) := by decide +kernel
theorem dX5_shownOf_37 : decode cX5_shownOf 37 = .ok (.iinc 2 1, 3) := by decide +kernel
theorem dX5_shownOf_40 : decode cX5_shownOf 40 = .ok (.goto (-38), 3) := by decide +kernel
theorem dX5_shownOf_43 : decode cX5_shownOf 43 = .ok (.iconst (-1), 1) := by decide +kernel
theorem dX5_shownOf_44 : decode cX5_shownOf 44 = .ok (.ireturn, 1) := by decide +kernel
theorem dX5_hands_0 : decode cX5_hands 0 = .ok (.iconst 0, 1) := by decide +kernel
theorem dX5_hands_1 : decode cX5_hands 1 = .ok (.istore_n 1, 1) := by decide +kernel
theorem dX5_hands_2 : decode cX5_hands 2 = .ok (.iconst 0, 1) := by decide +kernel
theorem dX5_hands_3 : decode cX5_hands 3 = .ok (.istore_n 2, 1) := by decide +kernel
theorem dX5_hands_4 : decode cX5_hands 4 = .ok (.iload_n 2, 1) := by decide +kernel
theorem dX5_hands_5 : decode cX5_hands 5 = .ok (.aload_n 0, 1) := by decide +kernel
theorem dX5_hands_6 : decode cX5_hands 6 = .ok (.getfield 56, 3) := by decide +kernel
theorem dX5_hands_9 : decode cX5_hands 9 = .ok (.if_icmp .ge 20, 3) := by decide +kernel
theorem dX5_hands_12 : decode cX5_hands 12 = .ok (.iload_n 1, 1) := by decide +kernel
theorem dX5_hands_13 : decode cX5_hands 13 = .ok (.aload_n 0, 1) := by decide +kernel
theorem dX5_hands_14 : decode cX5_hands 14 = .ok (.getfield 22, 3) := by decide +kernel
theorem dX5_hands_17 : decode cX5_hands 17 = .ok (.iload_n 2, 1) := by decide +kernel
theorem dX5_hands_18 : decode cX5_hands 18 = .ok (.aaload, 1) := by decide +kernel
theorem dX5_hands_19 : decode cX5_hands 19 = .ok (.iconst 4, 1) := by decide +kernel
theorem dX5_hands_20 : decode cX5_hands 20 = .ok (.iaload, 1) := by decide +kernel
theorem dX5_hands_21 : decode cX5_hands 21 = .ok (.iadd, 1) := by decide +kernel
theorem dX5_hands_22 : decode cX5_hands 22 = .ok (.istore_n 1, 1) := by decide +kernel
theorem dX5_hands_23 : decode cX5_hands 23 = .ok (.iinc 2 1, 3) := by decide +kernel
theorem dX5_hands_26 : decode cX5_hands 26 = .ok (.goto (-22), 3) := by decide +kernel
theorem dX5_hands_29 : decode cX5_hands 29 = .ok (.iload_n 1, 1) := by decide +kernel
theorem dX5_hands_30 : decode cX5_hands 30 = .ok (.ireturn, 1) := by decide +kernel
set_option maxRecDepth 20000 in
theorem ggX5_month_X6_held : GoodIn wsX5_month wsX6_held := goodIn_r _ [3, 4, 5, 6, 7, 8, 9, 10] (by decide +kernel) (by decide +kernel)
set_option maxRecDepth 20000 in
theorem gX5_month_X6_held_n99 : GoodIn wsX5_month (wsX6_held) := ggX5_month_X6_held
set_option maxRecDepth 20000 in
theorem ggX5_month_J6_signum_0f7a4 : GoodIn wsX5_month wsJ6_signum_0f7a4 := goodIn_r _ [14] (by decide +kernel) (by decide +kernel)
set_option maxRecDepth 20000 in
theorem gX5_month_J6_signum_0f7a4 : GoodIn wsX5_month (va_wsS RX5 102 yJ6_signum_0f7a4 wsJ6_signum_0f7a4) := goodIn_app (goodIn_of _ (by decide +kernel)) ggX5_month_J6_signum_0f7a4
theorem dX5_month_0 : decode cX5_month 0 = .ok (.aload_n 0, 1) := by decide +kernel
theorem dX5_month_1 : decode cX5_month 1 = .ok (.iload_n 1, 1) := by decide +kernel
theorem dX5_month_2 : decode cX5_month 2 = .ok (.aload_n 0, 1) := by decide +kernel
theorem dX5_month_3 : decode cX5_month 3 = .ok (.iload_n 1, 1) := by decide +kernel
theorem dX5_month_4 : decode cX5_month 4 = .ok (.iaload, 1) := by decide +kernel
theorem dX5_month_5 : decode cX5_month 5 = .ok (.aload_n 0, 1) := by decide +kernel
theorem dX5_month_6 : decode cX5_month 6 = .ok (.iconst 3, 1) := by decide +kernel
theorem dX5_month_7 : decode cX5_month 7 = .ok (.iload_n 1, 1) := by decide +kernel
theorem dX5_month_8 : decode cX5_month 8 = .ok (.iadd, 1) := by decide +kernel
theorem dX5_month_9 : decode cX5_month 9 = .ok (.iaload, 1) := by decide +kernel
theorem dX5_month_10 : decode cX5_month 10 = .ok (.iadd, 1) := by decide +kernel
theorem dX5_month_11 : decode cX5_month 11 = .ok (.sipush 999, 3) := by decide +kernel
theorem dX5_month_14 : decode cX5_month 14 = .ok (.invokestatic 99, 3) := by decide +kernel
theorem dX5_month_17 : decode cX5_month 17 = .ok (.iastore, 1) := by decide +kernel
theorem dX5_month_18 : decode cX5_month 18 = .ok (.aload_n 0, 1) := by decide +kernel
theorem dX5_month_19 : decode cX5_month 19 = .ok (.iconst 3, 1) := by decide +kernel
theorem dX5_month_20 : decode cX5_month 20 = .ok (.iload_n 1, 1) := by decide +kernel
theorem dX5_month_21 : decode cX5_month 21 = .ok (.iadd, 1) := by decide +kernel
theorem dX5_month_22 : decode cX5_month 22 = .ok (.dup2, 1) := by decide +kernel
theorem dX5_month_23 : decode cX5_month 23 = .ok (.iaload, 1) := by decide +kernel
theorem dX5_month_24 : decode cX5_month 24 = .ok (.aload_n 0, 1) := by decide +kernel
theorem dX5_month_25 : decode cX5_month 25 = .ok (.iconst 3, 1) := by decide +kernel
theorem dX5_month_26 : decode cX5_month 26 = .ok (.iload_n 1, 1) := by decide +kernel
theorem dX5_month_27 : decode cX5_month 27 = .ok (.iadd, 1) := by decide +kernel
theorem dX5_month_28 : decode cX5_month 28 = .ok (.iaload, 1) := by decide +kernel
theorem dX5_month_29 : decode cX5_month 29 = .ok (.invokestatic 102, 3) := by decide +kernel
theorem dX5_month_32 : decode cX5_month 32 = .ok (.isub, 1) := by decide +kernel
theorem dX5_month_33 : decode cX5_month 33 = .ok (.iastore, 1) := by decide +kernel
theorem dX5_month_34 : decode cX5_month 34 = .ok (.return_, 1) := by decide +kernel
set_option maxRecDepth 20000 in
theorem ggX5_work_X6_needs : GoodIn wsX5_work wsX6_needs := goodIn_r _ [3, 4] (by decide +kernel) (by decide +kernel)
set_option maxRecDepth 20000 in
theorem gX5_work_X6_needs_n107 : GoodIn wsX5_work (wsX6_needs) := ggX5_work_X6_needs
set_option maxRecDepth 20000 in
theorem ggX5_work_X5_doubt : GoodIn wsX5_work wsX5_doubt := goodIn_r _ [9, 10, 11, 12, 13, 14, 15, 16, 17, 18, 19, 20, 21, 22, 23, 24, 25] (by decide +kernel) (by decide +kernel)
set_option maxRecDepth 20000 in
theorem gX5_work_X5_doubt : GoodIn wsX5_work (wsV RX5 110 RX5 yX5_doubt wsX5_doubt) := goodIn_app (goodIn_of _ (by decide +kernel)) ggX5_work_X5_doubt
theorem dX5_work_0 : decode cX5_work 0 = .ok (.aload_n 1, 1) := by decide +kernel
theorem dX5_work_1 : decode cX5_work 1 = .ok (.iconst 4, 1) := by decide +kernel
theorem dX5_work_2 : decode cX5_work 2 = .ok (.iaload, 1) := by decide +kernel
theorem dX5_work_3 : decode cX5_work 3 = .ok (.istore_n 2, 1) := by decide +kernel
theorem dX5_work_4 : decode cX5_work 4 = .ok (.iload_n 2, 1) := by decide +kernel
theorem dX5_work_5 : decode cX5_work 5 = .ok (.aload_n 1, 1) := by decide +kernel
theorem dX5_work_6 : decode cX5_work 6 = .ok (.iconst 3, 1) := by decide +kernel
theorem dX5_work_7 : decode cX5_work 7 = .ok (.iaload, 1) := by decide +kernel
theorem dX5_work_8 : decode cX5_work 8 = .ok (.if_icmp .lt 53, 3) := by decide +kernel
theorem dX5_work_11 : decode cX5_work 11 = .ok (.aload_n 1, 1) := by decide +kernel
theorem dX5_work_12 : decode cX5_work 12 = .ok (.iconst 2, 1) := by decide +kernel
theorem dX5_work_13 : decode cX5_work 13 = .ok (.iaload, 1) := by decide +kernel
theorem dX5_work_14 : decode cX5_work 14 = .ok (.bipush 6, 2) := by decide +kernel
theorem dX5_work_16 : decode cX5_work 16 = .ok (.if_icmp .ge 45, 3) := by decide +kernel
theorem dX5_work_19 : decode cX5_work 19 = .ok (.iload_n 2, 1) := by decide +kernel
theorem dX5_work_20 : decode cX5_work 20 = .ok (.aload_n 1, 1) := by decide +kernel
theorem dX5_work_21 : decode cX5_work 21 = .ok (.iconst 3, 1) := by decide +kernel
theorem dX5_work_22 : decode cX5_work 22 = .ok (.iaload, 1) := by decide +kernel
theorem dX5_work_23 : decode cX5_work 23 = .ok (.isub, 1) := by decide +kernel
theorem dX5_work_24 : decode cX5_work 24 = .ok (.istore_n 2, 1) := by decide +kernel
theorem dX5_work_25 : decode cX5_work 25 = .ok (.aload_n 1, 1) := by decide +kernel
theorem dX5_work_26 : decode cX5_work 26 = .ok (.iconst 2, 1) := by decide +kernel
theorem dX5_work_27 : decode cX5_work 27 = .ok (.dup2, 1) := by decide +kernel
theorem dX5_work_28 : decode cX5_work 28 = .ok (.iaload, 1) := by decide +kernel
theorem dX5_work_29 : decode cX5_work 29 = .ok (.iconst 1, 1) := by decide +kernel
theorem dX5_work_30 : decode cX5_work 30 = .ok (.iadd, 1) := by decide +kernel
theorem dX5_work_31 : decode cX5_work 31 = .ok (.iastore, 1) := by decide +kernel
theorem dX5_work_32 : decode cX5_work 32 = .ok (.aload_n 1, 1) := by decide +kernel
theorem dX5_work_33 : decode cX5_work 33 = .ok (.iconst 3, 1) := by decide +kernel
theorem dX5_work_34 : decode cX5_work 34 = .ok (.aload_n 1, 1) := by decide +kernel
theorem dX5_work_35 : decode cX5_work 35 = .ok (.iconst 2, 1) := by decide +kernel
theorem dX5_work_36 : decode cX5_work 36 = .ok (.iaload, 1) := by decide +kernel
theorem dX5_work_37 : decode cX5_work 37 = .ok (.invokestatic 107, 3) := by decide +kernel
theorem dX5_work_40 : decode cX5_work 40 = .ok (.iastore, 1) := by decide +kernel
theorem dX5_work_41 : decode cX5_work 41 = .ok (.aload_n 1, 1) := by decide +kernel
theorem dX5_work_42 : decode cX5_work 42 = .ok (.iconst 2, 1) := by decide +kernel
theorem dX5_work_43 : decode cX5_work 43 = .ok (.iaload, 1) := by decide +kernel
theorem dX5_work_44 : decode cX5_work 44 = .ok (.iconst 1, 1) := by decide +kernel
theorem dX5_work_45 : decode cX5_work 45 = .ok (.if_icmp .ne (-41), 3) := by decide +kernel
theorem dX5_work_48 : decode cX5_work 48 = .ok (.aload_n 1, 1) := by decide +kernel
theorem dX5_work_49 : decode cX5_work 49 = .ok (.iconst 5, 1) := by decide +kernel
theorem dX5_work_50 : decode cX5_work 50 = .ok (.aload_n 0, 1) := by decide +kernel
theorem dX5_work_51 : decode cX5_work 51 = .ok (.aload_n 1, 1) := by decide +kernel
theorem dX5_work_52 : decode cX5_work 52 = .ok (.iconst 0, 1) := by decide +kernel
theorem dX5_work_53 : decode cX5_work 53 = .ok (.iaload, 1) := by decide +kernel
theorem dX5_work_54 : decode cX5_work 54 = .ok (.invokevirtual 110, 3) := by decide +kernel
theorem dX5_work_57 : decode cX5_work 57 = .ok (.iastore, 1) := by decide +kernel
theorem dX5_work_58 : decode cX5_work 58 = .ok (.goto (-54), 3) := by decide +kernel
theorem dX5_work_61 : decode cX5_work 61 = .ok (.aload_n 1, 1) := by decide +kernel
theorem dX5_work_62 : decode cX5_work 62 = .ok (.iconst 2, 1) := by decide +kernel
theorem dX5_work_63 : decode cX5_work 63 = .ok (.iaload, 1) := by decide +kernel
theorem dX5_work_64 : decode cX5_work 64 = .ok (.bipush 6, 2) := by decide +kernel
theorem dX5_work_66 : decode cX5_work 66 = .ok (.if_icmp .ge 12, 3) := by decide +kernel
theorem dX5_work_69 : decode cX5_work 69 = .ok (.aload_n 1, 1) := by decide +kernel
theorem dX5_work_70 : decode cX5_work 70 = .ok (.iconst 3, 1) := by decide +kernel
theorem dX5_work_71 : decode cX5_work 71 = .ok (.dup2, 1) := by decide +kernel
theorem dX5_work_72 : decode cX5_work 72 = .ok (.iaload, 1) := by decide +kernel
theorem dX5_work_73 : decode cX5_work 73 = .ok (.iload_n 2, 1) := by decide +kernel
theorem dX5_work_74 : decode cX5_work 74 = .ok (.isub, 1) := by decide +kernel
theorem dX5_work_75 : decode cX5_work 75 = .ok (.iastore, 1) := by decide +kernel
theorem dX5_work_76 : decode cX5_work 76 = .ok (.iconst 0, 1) := by decide +kernel
theorem dX5_work_77 : decode cX5_work 77 = .ok (.ireturn, 1) := by decide +kernel
theorem dX5_work_78 : decode cX5_work 78 = .ok (.aload_n 1, 1) := by decide +kernel
theorem dX5_work_79 : decode cX5_work 79 = .ok (.iconst 4, 1) := by decide +kernel
theorem dX5_work_80 : decode cX5_work 80 = .ok (.iconst 0, 1) := by decide +kernel
theorem dX5_work_81 : decode cX5_work 81 = .ok (.iastore, 1) := by decide +kernel
theorem dX5_work_82 : decode cX5_work 82 = .ok (.iconst 1, 1) := by decide +kernel
theorem dX5_work_83 : decode cX5_work 83 = .ok (.ireturn, 1) := by decide +kernel
set_option maxRecDepth 20000 in
theorem ggX5_go_X5_month : GoodIn wsX5_go wsX5_month := goodIn_r _ [13, 14, 15, 16, 17, 18, 19, 20, 21, 22, 23, 24, 25, 26, 27] (by decide +kernel) (by decide +kernel)
set_option maxRecDepth 20000 in
theorem gX5_go_X5_month : GoodIn wsX5_go (va_wsS RX5 113 yX5_month wsX5_month) := goodIn_app (goodIn_of _ (by decide +kernel)) ggX5_go_X5_month
set_option maxRecDepth 20000 in
theorem ggX5_go_X5_work : GoodIn wsX5_go wsX5_work := goodIn_r _ [31, 32, 15, 33, 9, 34, 35, 36, 12, 37, 38, 39, 80, 81, 82, 83, 84, 85, 86, 87, 88, 89, 90, 91, 92, 93] (by decide +kernel) (by decide +kernel)
set_option maxRecDepth 20000 in
theorem gX5_go_X5_work : GoodIn wsX5_go (wsV RX5 117 RX5 yX5_work wsX5_work) := goodIn_app (goodIn_of _ (by decide +kernel)) ggX5_go_X5_work
set_option maxRecDepth 20000 in
theorem ggX5_go_X5_drawsIn : GoodIn wsX5_go wsX5_drawsIn := goodIn_r _ [43, 4, 5, 44, 15, 45, 46, 47, 48, 12, 49, 3, 50, 51, 52, 53, 54, 55, 56, 57, 58, 59, 19, 60, 61, 22, 23, 62, 63, 64, 65, 66, 67, 68, 69, 39, 38, 80, 81, 82, 83, 84, 85, 86, 87, 88, 89, 90, 91, 92, 93] (by decide +kernel) (by decide +kernel)
set_option maxRecDepth 20000 in
theorem gX5_go_X5_drawsIn : GoodIn wsX5_go (wsV RX5 120 RX5 yX5_drawsIn wsX5_drawsIn) := goodIn_app (goodIn_of _ (by decide +kernel)) ggX5_go_X5_drawsIn
set_option maxRecDepth 20000 in
theorem ggX5_go_X5_draw : GoodIn wsX5_go wsX5_draw := goodIn_r _ [49, 3, 50, 51, 52, 12, 53, 54, 55, 56, 57, 58, 59, 19, 60, 61, 22, 23, 62, 63, 64, 65, 66, 67, 68, 69, 39, 38, 80, 81, 82, 83, 84, 85, 86, 87, 88, 89, 90, 91, 92, 93] (by decide +kernel) (by decide +kernel)
set_option maxRecDepth 20000 in
theorem gX5_go_X5_draw : GoodIn wsX5_go (wsV RX5 96 RX5 yX5_draw wsX5_draw) := goodIn_app (goodIn_of _ (by decide +kernel)) ggX5_go_X5_draw
set_option maxRecDepth 20000 in
theorem ggX5_go_X5_isShown : GoodIn wsX5_go wsX5_isShown := goodIn_r _ [53] (by decide +kernel) (by decide +kernel)
set_option maxRecDepth 20000 in
theorem gX5_go_X5_isShown : GoodIn wsX5_go (wsV RX5 85 RX5 yX5_isShown wsX5_isShown) := goodIn_app (goodIn_of _ (by decide +kernel)) ggX5_go_X5_isShown
set_option maxRecDepth 20000 in
theorem ggX5_go_X5_wear : GoodIn wsX5_go wsX5_wear := goodIn_r _ [73, 74, 3, 61, 22, 19, 23, 14, 15, 16, 17, 18, 20, 21, 80, 81, 82, 83, 84, 85, 86, 87, 88, 89, 90, 91, 92, 93] (by decide +kernel) (by decide +kernel)
set_option maxRecDepth 20000 in
theorem gX5_go_X5_wear : GoodIn wsX5_go (wsV RX5 123 RX5 yX5_wear wsX5_wear) := goodIn_app (goodIn_of _ (by decide +kernel)) ggX5_go_X5_wear
set_option maxRecDepth 20000 in
theorem ggX5_go_X5_travel : GoodIn wsX5_go wsX5_travel := goodIn_r _ [78, 8, 3, 79, 18, 19, 20, 54, 55, 56, 12, 57, 58, 59, 60, 61, 22, 23, 62, 63, 64, 65, 66, 67, 68, 69, 39, 38, 80, 81, 82, 83, 84, 85, 86, 87, 88, 89, 90, 91, 92, 93] (by decide +kernel) (by decide +kernel)
set_option maxRecDepth 20000 in
theorem gX5_go_X5_travel : GoodIn wsX5_go (wsV RX5 127 RX5 yX5_travel wsX5_travel) := goodIn_app (goodIn_of _ (by decide +kernel)) ggX5_go_X5_travel
theorem dX5_go_0 : decode cX5_go 0 = .ok (.aload_n 0, 1) := by decide +kernel
theorem dX5_go_1 : decode cX5_go 1 = .ok (.dup, 1) := by decide +kernel
theorem dX5_go_2 : decode cX5_go 2 = .ok (.getfield 62, 3) := by decide +kernel
theorem dX5_go_5 : decode cX5_go 5 = .ok (.iconst 1, 1) := by decide +kernel
theorem dX5_go_6 : decode cX5_go 6 = .ok (.iadd, 1) := by decide +kernel
theorem dX5_go_7 : decode cX5_go 7 = .ok (.putfield 62, 3) := by decide +kernel
theorem dX5_go_10 : decode cX5_go 10 = .ok (.iconst 0, 1) := by decide +kernel
theorem dX5_go_11 : decode cX5_go 11 = .ok (.istore_n 3, 1) := by decide +kernel
theorem dX5_go_12 : decode cX5_go 12 = .ok (.aload_n 0, 1) := by decide +kernel
theorem dX5_go_13 : decode cX5_go 13 = .ok (.getfield 62, 3) := by decide +kernel
theorem dX5_go_16 : decode cX5_go 16 = .ok (.bipush 30, 2) := by decide +kernel
theorem dX5_go_18 : decode cX5_go 18 = .ok (.irem, 1) := by decide +kernel
theorem dX5_go_19 : decode cX5_go 19 = .ok (.ifCond .ne 48, 3) := by decide +kernel
theorem dX5_go_22 : decode cX5_go 22 = .ok (.iconst 0, 1) := by decide +kernel
theorem dX5_go_23 : decode cX5_go 23 = .ok (.istore 4, 2) := by decide +kernel
theorem dX5_go_25 : decode cX5_go 25 = .ok (.iload 4, 2) := by decide +kernel
theorem dX5_go_27 : decode cX5_go 27 = .ok (.aload_n 0, 1) := by decide +kernel
theorem dX5_go_28 : decode cX5_go 28 = .ok (.getfield 53, 3) := by decide +kernel
theorem dX5_go_31 : decode cX5_go 31 = .ok (.if_icmp .ge 36, 3) := by decide +kernel
theorem dX5_go_34 : decode cX5_go 34 = .ok (.iconst 0, 1) := by decide +kernel
theorem dX5_go_35 : decode cX5_go 35 = .ok (.istore 5, 2) := by decide +kernel
theorem dX5_go_37 : decode cX5_go 37 = .ok (.iload 5, 2) := by decide +kernel
theorem dX5_go_39 : decode cX5_go 39 = .ok (.iconst 3, 1) := by decide +kernel
theorem dX5_go_40 : decode cX5_go 40 = .ok (.if_icmp .ge 21, 3) := by decide +kernel
theorem dX5_go_43 : decode cX5_go 43 = .ok (.aload_n 0, 1) := by decide +kernel
theorem dX5_go_44 : decode cX5_go 44 = .ok (.getfield 11, 3) := by decide +kernel
theorem dX5_go_47 : decode cX5_go 47 = .ok (.iload 4, 2) := by decide +kernel
theorem dX5_go_49 : decode cX5_go 49 = .ok (.aaload, 1) := by decide +kernel
theorem dX5_go_50 : decode cX5_go 50 = .ok (.iload 5, 2) := by decide +kernel
theorem dX5_go_52 : decode cX5_go 52 = .ok (.invokestatic 113, 3) := by decide +kernel
theorem dX5_go_55 : decode cX5_go 55 = .ok (.iinc 5 1, 3) := by decide +kernel
theorem dX5_go_58 : decode cX5_go 58 = .ok (.goto (-21), 3) := by decide +kernel
theorem dX5_go_61 : decode cX5_go 61 = .ok (.iinc 4 1, 3) := by decide +kernel
theorem dX5_go_64 : decode cX5_go 64 = .ok (.goto (-39), 3) := by decide +kernel
theorem dX5_go_67 : decode cX5_go 67 = .ok (.iconst 0, 1) := by decide +kernel
theorem dX5_go_68 : decode cX5_go 68 = .ok (.istore 4, 2) := by decide +kernel
theorem dX5_go_70 : decode cX5_go 70 = .ok (.iload 4, 2) := by decide +kernel
theorem dX5_go_72 : decode cX5_go 72 = .ok (.aload_n 0, 1) := by decide +kernel
theorem dX5_go_73 : decode cX5_go 73 = .ok (.getfield 56, 3) := by decide +kernel
theorem dX5_go_76 : decode cX5_go 76 = .ok (.if_icmp .ge 56, 3) := by decide +kernel
theorem dX5_go_79 : decode cX5_go 79 = .ok (.iload_n 3, 1) := by decide +kernel
theorem dX5_go_80 : decode cX5_go 80 = .ok (.aload_n 0, 1) := by decide +kernel
theorem dX5_go_81 : decode cX5_go 81 = .ok (.getfield 22, 3) := by decide +kernel
theorem dX5_go_84 : decode cX5_go 84 = .ok (.iload 4, 2) := by decide +kernel
theorem dX5_go_86 : decode cX5_go 86 = .ok (.aaload, 1) := by decide +kernel
theorem dX5_go_87 : decode cX5_go 87 = .ok (.iconst 2, 1) := by decide +kernel
theorem dX5_go_88 : decode cX5_go 88 = .ok (.iaload, 1) := by decide +kernel
theorem dX5_go_89 : decode cX5_go 89 = .ok (.bipush 6, 2) := by decide +kernel
theorem dX5_go_91 : decode cX5_go 91 = .ok (.if_icmp .ge 32, 3) := by decide +kernel
theorem dX5_go_94 : decode cX5_go 94 = .ok (.aload_n 0, 1) := by decide +kernel
theorem dX5_go_95 : decode cX5_go 95 = .ok (.getfield 22, 3) := by decide +kernel
theorem dX5_go_98 : decode cX5_go 98 = .ok (.iload 4, 2) := by decide +kernel
theorem dX5_go_100 : decode cX5_go 100 = .ok (.aaload, 1) := by decide +kernel
theorem dX5_go_101 : decode cX5_go 101 = .ok (.bipush 7, 2) := by decide +kernel
theorem dX5_go_103 : decode cX5_go 103 = .ok (.iaload, 1) := by decide +kernel
theorem dX5_go_104 : decode cX5_go 104 = .ok (.bipush 7, 2) := by decide +kernel
theorem dX5_go_106 : decode cX5_go 106 = .ok (.if_icmp .eq 17, 3) := by decide +kernel
theorem dX5_go_109 : decode cX5_go 109 = .ok (.aload_n 0, 1) := by decide +kernel
theorem dX5_go_110 : decode cX5_go 110 = .ok (.aload_n 0, 1) := by decide +kernel
theorem dX5_go_111 : decode cX5_go 111 = .ok (.getfield 22, 3) := by decide +kernel
theorem dX5_go_114 : decode cX5_go 114 = .ok (.iload 4, 2) := by decide +kernel
theorem dX5_go_116 : decode cX5_go 116 = .ok (.aaload, 1) := by decide +kernel
theorem dX5_go_117 : decode cX5_go 117 = .ok (.invokevirtual 117, 3) := by decide +kernel
theorem dX5_go_120 : decode cX5_go 120 = .ok (.goto 4, 3) := by decide +kernel
theorem dX5_go_123 : decode cX5_go 123 = .ok (.iconst 0, 1) := by decide +kernel
theorem dX5_go_124 : decode cX5_go 124 = .ok (.iadd, 1) := by decide +kernel
theorem dX5_go_125 : decode cX5_go 125 = .ok (.istore_n 3, 1) := by decide +kernel
theorem dX5_go_126 : decode cX5_go 126 = .ok (.iinc 4 1, 3) := by decide +kernel
theorem dX5_go_129 : decode cX5_go 129 = .ok (.goto (-59), 3) := by decide +kernel
theorem dX5_go_132 : decode cX5_go 132 = .ok (.iload_n 1, 1) := by decide +kernel
theorem dX5_go_133 : decode cX5_go 133 = .ok (.bipush 100, 2) := by decide +kernel
theorem dX5_go_135 : decode cX5_go 135 = .ok (.iconst 5, 1) := by decide +kernel
theorem dX5_go_136 : decode cX5_go 136 = .ok (.aload_n 0, 1) := by decide +kernel
theorem dX5_go_137 : decode cX5_go 137 = .ok (.getfield 32, 3) := by decide +kernel
theorem dX5_go_140 : decode cX5_go 140 = .ok (.imul, 1) := by decide +kernel
theorem dX5_go_141 : decode cX5_go 141 = .ok (.isub, 1) := by decide +kernel
theorem dX5_go_142 : decode cX5_go 142 = .ok (.imul, 1) := by decide +kernel
theorem dX5_go_143 : decode cX5_go 143 = .ok (.bipush 100, 2) := by decide +kernel
theorem dX5_go_145 : decode cX5_go 145 = .ok (.idiv, 1) := by decide +kernel
theorem dX5_go_146 : decode cX5_go 146 = .ok (.istore 4, 2) := by decide +kernel
theorem dX5_go_148 : decode cX5_go 148 = .ok (.aload_n 0, 1) := by decide +kernel
theorem dX5_go_149 : decode cX5_go 149 = .ok (.dup, 1) := by decide +kernel
theorem dX5_go_150 : decode cX5_go 150 = .ok (.getfield 65, 3) := by decide +kernel
theorem dX5_go_153 : decode cX5_go 153 = .ok (.iload 4, 2) := by decide +kernel
theorem dX5_go_155 : decode cX5_go 155 = .ok (.iadd, 1) := by decide +kernel
theorem dX5_go_156 : decode cX5_go 156 = .ok (.putfield 65, 3) := by decide +kernel
theorem dX5_go_159 : decode cX5_go 159 = .ok (.aload_n 0, 1) := by decide +kernel
theorem dX5_go_160 : decode cX5_go 160 = .ok (.dup, 1) := by decide +kernel
theorem dX5_go_161 : decode cX5_go 161 = .ok (.getfield 36, 3) := by decide +kernel
theorem dX5_go_164 : decode cX5_go 164 = .ok (.aload_n 0, 1) := by decide +kernel
theorem dX5_go_165 : decode cX5_go 165 = .ok (.getfield 32, 3) := by decide +kernel
theorem dX5_go_168 : decode cX5_go 168 = .ok (.iload 4, 2) := by decide +kernel
theorem dX5_go_170 : decode cX5_go 170 = .ok (.imul, 1) := by decide +kernel
theorem dX5_go_171 : decode cX5_go 171 = .ok (.iadd, 1) := by decide +kernel
theorem dX5_go_172 : decode cX5_go 172 = .ok (.putfield 36, 3) := by decide +kernel
theorem dX5_go_175 : decode cX5_go 175 = .ok (.aload_n 0, 1) := by decide +kernel
theorem dX5_go_176 : decode cX5_go 176 = .ok (.iconst 0, 1) := by decide +kernel
theorem dX5_go_177 : decode cX5_go 177 = .ok (.iconst 4, 1) := by decide +kernel
theorem dX5_go_178 : decode cX5_go 178 = .ok (.invokevirtual 120, 3) := by decide +kernel
theorem dX5_go_181 : decode cX5_go 181 = .ok (.istore 5, 2) := by decide +kernel
theorem dX5_go_183 : decode cX5_go 183 = .ok (.bipush 8, 2) := by decide +kernel
theorem dX5_go_185 : decode cX5_go 185 = .ok (.newarray .int, 2) := by decide +kernel
theorem dX5_go_187 : decode cX5_go 187 = .ok (.astore 6, 2) := by decide +kernel
theorem dX5_go_189 : decode cX5_go 189 = .ok (.iconst 0, 1) := by decide +kernel
theorem dX5_go_190 : decode cX5_go 190 = .ok (.istore 7, 2) := by decide +kernel
theorem dX5_go_192 : decode cX5_go 192 = .ok (.iload 7, 2) := by decide +kernel
theorem dX5_go_194 : decode cX5_go 194 = .ok (.aload_n 0, 1) := by decide +kernel
theorem dX5_go_195 : decode cX5_go 195 = .ok (.getfield 56, 3) := by decide +kernel
theorem dX5_go_198 : decode cX5_go 198 = .ok (.if_icmp .ge 40, 3) := by decide +kernel
theorem dX5_go_201 : decode cX5_go 201 = .ok (.aload 6, 2) := by decide +kernel
theorem dX5_go_203 : decode cX5_go 203 = .ok (.iload 7, 2) := by decide +kernel
theorem dX5_go_205 : decode cX5_go 205 = .ok (.iload 5, 2) := by decide +kernel
theorem dX5_go_207 : decode cX5_go 207 = .ok (.ifCond .ne 7, 3) := by decide +kernel
theorem dX5_go_210 : decode cX5_go 210 = .ok (.iconst 0, 1) := by decide +kernel
theorem dX5_go_211 : decode cX5_go 211 = .ok (.goto 20, 3) := by decide +kernel
theorem dX5_go_214 : decode cX5_go 214 = .ok (.iload 4, 2) := by decide +kernel
theorem dX5_go_216 : decode cX5_go 216 = .ok (.aload_n 0, 1) := by decide +kernel
theorem dX5_go_217 : decode cX5_go 217 = .ok (.aload_n 0, 1) := by decide +kernel
theorem dX5_go_218 : decode cX5_go 218 = .ok (.getfield 22, 3) := by decide +kernel
theorem dX5_go_221 : decode cX5_go 221 = .ok (.iload 7, 2) := by decide +kernel
theorem dX5_go_223 : decode cX5_go 223 = .ok (.aaload, 1) := by decide +kernel
theorem dX5_go_224 : decode cX5_go 224 = .ok (.invokevirtual 96, 3) := by decide +kernel
theorem dX5_go_227 : decode cX5_go 227 = .ok (.imul, 1) := by decide +kernel
theorem dX5_go_228 : decode cX5_go 228 = .ok (.iload 5, 2) := by decide +kernel
theorem dX5_go_230 : decode cX5_go 230 = .ok (.idiv, 1) := by decide +kernel
theorem dX5_go_231 : decode cX5_go 231 = .ok (.iastore, 1) := by decide +kernel
theorem dX5_go_232 : decode cX5_go 232 = .ok (.iinc 7 1, 3) := by decide +kernel
theorem dX5_go_235 : decode cX5_go 235 = .ok (.goto (-43), 3) := by decide +kernel
theorem dX5_go_238 : decode cX5_go 238 = .ok (.iconst 0, 1) := by decide +kernel
theorem dX5_go_239 : decode cX5_go 239 = .ok (.istore 7, 2) := by decide +kernel
theorem dX5_go_241 : decode cX5_go 241 = .ok (.iload 7, 2) := by decide +kernel
theorem dX5_go_243 : decode cX5_go 243 = .ok (.aload_n 0, 1) := by decide +kernel
theorem dX5_go_244 : decode cX5_go 244 = .ok (.getfield 56, 3) := by decide +kernel
theorem dX5_go_247 : decode cX5_go 247 = .ok (.if_icmp .ge 47, 3) := by decide +kernel
theorem dX5_go_250 : decode cX5_go 250 = .ok (.iload_n 3, 1) := by decide +kernel
theorem dX5_go_251 : decode cX5_go 251 = .ok (.aload_n 0, 1) := by decide +kernel
theorem dX5_go_252 : decode cX5_go 252 = .ok (.aload_n 0, 1) := by decide +kernel
theorem dX5_go_253 : decode cX5_go 253 = .ok (.getfield 22, 3) := by decide +kernel
theorem dX5_go_256 : decode cX5_go 256 = .ok (.iload 7, 2) := by decide +kernel
theorem dX5_go_258 : decode cX5_go 258 = .ok (.aaload, 1) := by decide +kernel
theorem dX5_go_259 : decode cX5_go 259 = .ok (.invokevirtual 85, 3) := by decide +kernel
theorem dX5_go_262 : decode cX5_go 262 = .ok (.ifCond .eq 23, 3) := by decide +kernel
theorem dX5_go_265 : decode cX5_go 265 = .ok (.aload_n 0, 1) := by decide +kernel
theorem dX5_go_266 : decode cX5_go 266 = .ok (.aload_n 0, 1) := by decide +kernel
theorem dX5_go_267 : decode cX5_go 267 = .ok (.getfield 22, 3) := by decide +kernel
theorem dX5_go_270 : decode cX5_go 270 = .ok (.iload 7, 2) := by decide +kernel
theorem dX5_go_272 : decode cX5_go 272 = .ok (.aaload, 1) := by decide +kernel
theorem dX5_go_273 : decode cX5_go 273 = .ok (.aload 6, 2) := by decide +kernel
theorem dX5_go_275 : decode cX5_go 275 = .ok (.iload 7, 2) := by decide +kernel
theorem dX5_go_277 : decode cX5_go 277 = .ok (.iaload, 1) := by decide +kernel
theorem dX5_go_278 : decode cX5_go 278 = .ok (.iload_n 2, 1) := by decide +kernel
theorem dX5_go_279 : decode cX5_go 279 = .ok (.invokevirtual 123, 3) := by decide +kernel
theorem dX5_go_282 : decode cX5_go 282 = .ok (.goto 4, 3) := by decide +kernel
theorem dX5_go_285 : decode cX5_go 285 = .ok (.iconst 0, 1) := by decide +kernel
theorem dX5_go_286 : decode cX5_go 286 = .ok (.iadd, 1) := by decide +kernel
theorem dX5_go_287 : decode cX5_go 287 = .ok (.istore_n 3, 1) := by decide +kernel
theorem dX5_go_288 : decode cX5_go 288 = .ok (.iinc 7 1, 3) := by decide +kernel
theorem dX5_go_291 : decode cX5_go 291 = .ok (.goto (-50), 3) := by decide +kernel
theorem dX5_go_294 : decode cX5_go 294 = .ok (.iconst 0, 1) := by decide +kernel
theorem dX5_go_295 : decode cX5_go 295 = .ok (.istore 7, 2) := by decide +kernel
theorem dX5_go_297 : decode cX5_go 297 = .ok (.iload 7, 2) := by decide +kernel
theorem dX5_go_299 : decode cX5_go 299 = .ok (.aload_n 0, 1) := by decide +kernel
theorem dX5_go_300 : decode cX5_go 300 = .ok (.getfield 56, 3) := by decide +kernel
theorem dX5_go_303 : decode cX5_go 303 = .ok (.if_icmp .ge 35, 3) := by decide +kernel
theorem dX5_go_306 : decode cX5_go 306 = .ok (.aload_n 0, 1) := by decide +kernel
theorem dX5_go_307 : decode cX5_go 307 = .ok (.getfield 22, 3) := by decide +kernel
theorem dX5_go_310 : decode cX5_go 310 = .ok (.iload 7, 2) := by decide +kernel
theorem dX5_go_312 : decode cX5_go 312 = .ok (.aaload, 1) := by decide +kernel
theorem dX5_go_313 : decode cX5_go 313 = .ok (.bipush 7, 2) := by decide +kernel
theorem dX5_go_315 : decode cX5_go 315 = .ok (.iaload, 1) := by decide +kernel
theorem dX5_go_316 : decode cX5_go 316 = .ok (.bipush 6, 2) := by decide +kernel
theorem dX5_go_318 : decode cX5_go 318 = .ok (.if_icmp .ne 14, 3) := by decide +kernel
theorem dX5_go_321 : decode cX5_go 321 = .ok (.aload_n 0, 1) := by decide +kernel
theorem dX5_go_322 : decode cX5_go 322 = .ok (.aload_n 0, 1) := by decide +kernel
theorem dX5_go_323 : decode cX5_go 323 = .ok (.getfield 22, 3) := by decide +kernel
theorem dX5_go_326 : decode cX5_go 326 = .ok (.iload 7, 2) := by decide +kernel
theorem dX5_go_328 : decode cX5_go 328 = .ok (.aaload, 1) := by decide +kernel
theorem dX5_go_329 : decode cX5_go 329 = .ok (.invokevirtual 127, 3) := by decide +kernel
theorem dX5_go_332 : decode cX5_go 332 = .ok (.iinc 7 1, 3) := by decide +kernel
theorem dX5_go_335 : decode cX5_go 335 = .ok (.goto (-38), 3) := by decide +kernel
theorem dX5_go_338 : decode cX5_go 338 = .ok (.iload_n 3, 1) := by decide +kernel
theorem dX5_go_339 : decode cX5_go 339 = .ok (.ireturn, 1) := by decide +kernel
set_option maxRecDepth 20000 in
theorem ggX5_wear_X6_held : GoodIn wsX5_wear wsX6_held := goodIn_r _ [9, 10, 11, 5, 12, 13, 4, 6] (by decide +kernel) (by decide +kernel)
set_option maxRecDepth 20000 in
theorem gX5_wear_X6_held_n99 : GoodIn wsX5_wear (wsX6_held) := ggX5_wear_X6_held
theorem dX5_wear_0 : decode cX5_wear 0 = .ok (.aload_n 0, 1) := by decide +kernel
theorem dX5_wear_1 : decode cX5_wear 1 = .ok (.getfield 25, 3) := by decide +kernel
theorem dX5_wear_4 : decode cX5_wear 4 = .ok (.aload_n 1, 1) := by decide +kernel
theorem dX5_wear_5 : decode cX5_wear 5 = .ok (.bipush 7, 2) := by decide +kernel
theorem dX5_wear_7 : decode cX5_wear 7 = .ok (.iaload, 1) := by decide +kernel
theorem dX5_wear_8 : decode cX5_wear 8 = .ok (.iaload, 1) := by decide +kernel
theorem dX5_wear_9 : decode cX5_wear 9 = .ok (.istore 4, 2) := by decide +kernel
theorem dX5_wear_11 : decode cX5_wear 11 = .ok (.aload_n 1, 1) := by decide +kernel
theorem dX5_wear_12 : decode cX5_wear 12 = .ok (.bipush 10, 2) := by decide +kernel
theorem dX5_wear_14 : decode cX5_wear 14 = .ok (.dup2, 1) := by decide +kernel
theorem dX5_wear_15 : decode cX5_wear 15 = .ok (.iaload, 1) := by decide +kernel
theorem dX5_wear_16 : decode cX5_wear 16 = .ok (.iload_n 2, 1) := by decide +kernel
theorem dX5_wear_17 : decode cX5_wear 17 = .ok (.iadd, 1) := by decide +kernel
theorem dX5_wear_18 : decode cX5_wear 18 = .ok (.iastore, 1) := by decide +kernel
theorem dX5_wear_19 : decode cX5_wear 19 = .ok (.aload_n 0, 1) := by decide +kernel
theorem dX5_wear_20 : decode cX5_wear 20 = .ok (.getfield 11, 3) := by decide +kernel
theorem dX5_wear_23 : decode cX5_wear 23 = .ok (.aload_n 1, 1) := by decide +kernel
theorem dX5_wear_24 : decode cX5_wear 24 = .ok (.iconst 0, 1) := by decide +kernel
theorem dX5_wear_25 : decode cX5_wear 25 = .ok (.iaload, 1) := by decide +kernel
theorem dX5_wear_26 : decode cX5_wear 26 = .ok (.aaload, 1) := by decide +kernel
theorem dX5_wear_27 : decode cX5_wear 27 = .ok (.bipush 7, 2) := by decide +kernel
theorem dX5_wear_29 : decode cX5_wear 29 = .ok (.dup2, 1) := by decide +kernel
theorem dX5_wear_30 : decode cX5_wear 30 = .ok (.iaload, 1) := by decide +kernel
theorem dX5_wear_31 : decode cX5_wear 31 = .ok (.iload_n 2, 1) := by decide +kernel
theorem dX5_wear_32 : decode cX5_wear 32 = .ok (.bipush 100, 2) := by decide +kernel
theorem dX5_wear_34 : decode cX5_wear 34 = .ok (.idiv, 1) := by decide +kernel
theorem dX5_wear_35 : decode cX5_wear 35 = .ok (.iadd, 1) := by decide +kernel
theorem dX5_wear_36 : decode cX5_wear 36 = .ok (.iastore, 1) := by decide +kernel
theorem dX5_wear_37 : decode cX5_wear 37 = .ok (.aload_n 1, 1) := by decide +kernel
theorem dX5_wear_38 : decode cX5_wear 38 = .ok (.bipush 6, 2) := by decide +kernel
theorem dX5_wear_40 : decode cX5_wear 40 = .ok (.aload_n 1, 1) := by decide +kernel
theorem dX5_wear_41 : decode cX5_wear 41 = .ok (.bipush 6, 2) := by decide +kernel
theorem dX5_wear_43 : decode cX5_wear 43 = .ok (.iaload, 1) := by decide +kernel
theorem dX5_wear_44 : decode cX5_wear 44 = .ok (.iload_n 2, 1) := by decide +kernel
theorem dX5_wear_45 : decode cX5_wear 45 = .ok (.bipush 50, 2) := by decide +kernel
theorem dX5_wear_47 : decode cX5_wear 47 = .ok (.idiv, 1) := by decide +kernel
theorem dX5_wear_48 : decode cX5_wear 48 = .ok (.iadd, 1) := by decide +kernel
theorem dX5_wear_49 : decode cX5_wear 49 = .ok (.iload 4, 2) := by decide +kernel
theorem dX5_wear_51 : decode cX5_wear 51 = .ok (.iconst 3, 1) := by decide +kernel
theorem dX5_wear_52 : decode cX5_wear 52 = .ok (.idiv, 1) := by decide +kernel
theorem dX5_wear_53 : decode cX5_wear 53 = .ok (.iadd, 1) := by decide +kernel
theorem dX5_wear_54 : decode cX5_wear 54 = .ok (.iconst 0, 1) := by decide +kernel
theorem dX5_wear_55 : decode cX5_wear 55 = .ok (.iload_n 3, 1) := by decide +kernel
theorem dX5_wear_56 : decode cX5_wear 56 = .ok (.bipush 25, 2) := by decide +kernel
theorem dX5_wear_58 : decode cX5_wear 58 = .ok (.isub, 1) := by decide +kernel
theorem dX5_wear_59 : decode cX5_wear 59 = .ok (.invokestatic 81, 3) := by decide +kernel
theorem dX5_wear_62 : decode cX5_wear 62 = .ok (.iload 4, 2) := by decide +kernel
theorem dX5_wear_64 : decode cX5_wear 64 = .ok (.imul, 1) := by decide +kernel
theorem dX5_wear_65 : decode cX5_wear 65 = .ok (.bipush 10, 2) := by decide +kernel
theorem dX5_wear_67 : decode cX5_wear 67 = .ok (.idiv, 1) := by decide +kernel
theorem dX5_wear_68 : decode cX5_wear 68 = .ok (.iadd, 1) := by decide +kernel
theorem dX5_wear_69 : decode cX5_wear 69 = .ok (.bipush 100, 2) := by decide +kernel
theorem dX5_wear_71 : decode cX5_wear 71 = .ok (.invokestatic 99, 3) := by decide +kernel
theorem dX5_wear_74 : decode cX5_wear 74 = .ok (.iastore, 1) := by decide +kernel
theorem dX5_wear_75 : decode cX5_wear 75 = .ok (.aload_n 1, 1) := by decide +kernel
theorem dX5_wear_76 : decode cX5_wear 76 = .ok (.bipush 6, 2) := by decide +kernel
theorem dX5_wear_78 : decode cX5_wear 78 = .ok (.iaload, 1) := by decide +kernel
theorem dX5_wear_79 : decode cX5_wear 79 = .ok (.bipush 100, 2) := by decide +kernel
theorem dX5_wear_81 : decode cX5_wear 81 = .ok (.if_icmp .ge 5, 3) := by decide +kernel
theorem dX5_wear_84 : decode cX5_wear 84 = .ok (.iconst 0, 1) := by decide +kernel
theorem dX5_wear_85 : decode cX5_wear 85 = .ok (.ireturn, 1) := by decide +kernel
theorem dX5_wear_86 : decode cX5_wear 86 = .ok (.aload_n 1, 1) := by decide +kernel
theorem dX5_wear_87 : decode cX5_wear 87 = .ok (.bipush 7, 2) := by decide +kernel
theorem dX5_wear_89 : decode cX5_wear 89 = .ok (.bipush 7, 2) := by decide +kernel
theorem dX5_wear_91 : decode cX5_wear 91 = .ok (.iastore, 1) := by decide +kernel
theorem dX5_wear_92 : decode cX5_wear 92 = .ok (.iconst 1, 1) := by decide +kernel
theorem dX5_wear_93 : decode cX5_wear 93 = .ok (.ireturn, 1) := by decide +kernel
set_option maxRecDepth 20000 in
theorem ggX5_travel_X5_likeness : GoodIn wsX5_travel wsX5_likeness := goodIn_r _ [11, 12, 13, 5, 14, 15, 16, 17, 18, 19, 20, 10, 21, 22, 23, 24, 25, 26, 27, 28, 29, 30, 31, 32, 33, 34, 35, 36, 37, 38, 39, 40, 41] (by decide +kernel) (by decide +kernel)
set_option maxRecDepth 20000 in
theorem gX5_travel_X5_likeness : GoodIn wsX5_travel (wsV RX5 88 RX5 yX5_likeness wsX5_likeness) := goodIn_app (goodIn_of _ (by decide +kernel)) ggX5_travel_X5_likeness
theorem dX5_travel_0 : decode cX5_travel 0 = .ok (.aload_n 0, 1) := by decide +kernel
theorem dX5_travel_1 : decode cX5_travel 1 = .ok (.dup, 1) := by decide +kernel
theorem dX5_travel_2 : decode cX5_travel 2 = .ok (.getfield 36, 3) := by decide +kernel
theorem dX5_travel_5 : decode cX5_travel 5 = .ok (.aload_n 0, 1) := by decide +kernel
theorem dX5_travel_6 : decode cX5_travel 6 = .ok (.getfield 11, 3) := by decide +kernel
theorem dX5_travel_9 : decode cX5_travel 9 = .ok (.aload_n 1, 1) := by decide +kernel
theorem dX5_travel_10 : decode cX5_travel 10 = .ok (.iconst 0, 1) := by decide +kernel
theorem dX5_travel_11 : decode cX5_travel 11 = .ok (.iaload, 1) := by decide +kernel
theorem dX5_travel_12 : decode cX5_travel 12 = .ok (.aaload, 1) := by decide +kernel
theorem dX5_travel_13 : decode cX5_travel 13 = .ok (.aload_n 1, 1) := by decide +kernel
theorem dX5_travel_14 : decode cX5_travel 14 = .ok (.bipush 9, 2) := by decide +kernel
theorem dX5_travel_16 : decode cX5_travel 16 = .ok (.iaload, 1) := by decide +kernel
theorem dX5_travel_17 : decode cX5_travel 17 = .ok (.iaload, 1) := by decide +kernel
theorem dX5_travel_18 : decode cX5_travel 18 = .ok (.aload_n 0, 1) := by decide +kernel
theorem dX5_travel_19 : decode cX5_travel 19 = .ok (.aload_n 1, 1) := by decide +kernel
theorem dX5_travel_20 : decode cX5_travel 20 = .ok (.invokevirtual 88, 3) := by decide +kernel
theorem dX5_travel_23 : decode cX5_travel 23 = .ok (.imul, 1) := by decide +kernel
theorem dX5_travel_24 : decode cX5_travel 24 = .ok (.sipush 1000, 3) := by decide +kernel
theorem dX5_travel_27 : decode cX5_travel 27 = .ok (.idiv, 1) := by decide +kernel
theorem dX5_travel_28 : decode cX5_travel 28 = .ok (.iadd, 1) := by decide +kernel
theorem dX5_travel_29 : decode cX5_travel 29 = .ok (.putfield 36, 3) := by decide +kernel
theorem dX5_travel_32 : decode cX5_travel 32 = .ok (.aload_n 1, 1) := by decide +kernel
theorem dX5_travel_33 : decode cX5_travel 33 = .ok (.bipush 6, 2) := by decide +kernel
theorem dX5_travel_35 : decode cX5_travel 35 = .ok (.bipush 99, 2) := by decide +kernel
theorem dX5_travel_37 : decode cX5_travel 37 = .ok (.aload_n 1, 1) := by decide +kernel
theorem dX5_travel_38 : decode cX5_travel 38 = .ok (.bipush 6, 2) := by decide +kernel
theorem dX5_travel_40 : decode cX5_travel 40 = .ok (.iaload, 1) := by decide +kernel
theorem dX5_travel_41 : decode cX5_travel 41 = .ok (.iconst 2, 1) := by decide +kernel
theorem dX5_travel_42 : decode cX5_travel 42 = .ok (.iadd, 1) := by decide +kernel
theorem dX5_travel_43 : decode cX5_travel 43 = .ok (.invokestatic 131, 3) := by decide +kernel
theorem dX5_travel_46 : decode cX5_travel 46 = .ok (.iastore, 1) := by decide +kernel
theorem dX5_travel_47 : decode cX5_travel 47 = .ok (.aload_n 1, 1) := by decide +kernel
theorem dX5_travel_48 : decode cX5_travel 48 = .ok (.bipush 8, 2) := by decide +kernel
theorem dX5_travel_50 : decode cX5_travel 50 = .ok (.dup2, 1) := by decide +kernel
theorem dX5_travel_51 : decode cX5_travel 51 = .ok (.iaload, 1) := by decide +kernel
theorem dX5_travel_52 : decode cX5_travel 52 = .ok (.iconst 1, 1) := by decide +kernel
theorem dX5_travel_53 : decode cX5_travel 53 = .ok (.isub, 1) := by decide +kernel
theorem dX5_travel_54 : decode cX5_travel 54 = .ok (.iastore, 1) := by decide +kernel
theorem dX5_travel_55 : decode cX5_travel 55 = .ok (.aload_n 1, 1) := by decide +kernel
theorem dX5_travel_56 : decode cX5_travel 56 = .ok (.bipush 8, 2) := by decide +kernel
theorem dX5_travel_58 : decode cX5_travel 58 = .ok (.iaload, 1) := by decide +kernel
theorem dX5_travel_59 : decode cX5_travel 59 = .ok (.ifCond .ne 8, 3) := by decide +kernel
theorem dX5_travel_62 : decode cX5_travel 62 = .ok (.aload_n 1, 1) := by decide +kernel
theorem dX5_travel_63 : decode cX5_travel 63 = .ok (.bipush 7, 2) := by decide +kernel
theorem dX5_travel_65 : decode cX5_travel 65 = .ok (.iconst 5, 1) := by decide +kernel
theorem dX5_travel_66 : decode cX5_travel 66 = .ok (.iastore, 1) := by decide +kernel
theorem dX5_travel_67 : decode cX5_travel 67 = .ok (.return_, 1) := by decide +kernel
set_option maxRecDepth 20000 in
theorem ggX6_init_X5_init : GoodIn wsX6_init wsX5_init := goodIn_r _ [9, 10, 2, 3, 11, 12, 13, 14, 15, 16, 17, 18, 19, 20, 21, 22, 23, 24, 25, 26, 27, 28, 29, 30, 31, 32, 33, 34, 35] (by decide +kernel) (by decide +kernel)
set_option maxRecDepth 20000 in
theorem gX6_init_X5_init_n9 : GoodIn wsX6_init (wsX5_init) := ggX6_init_X5_init
theorem dX6_init_0 : decode cX6_init 0 = .ok (.aload_n 0, 1) := by decide +kernel
theorem dX6_init_1 : decode cX6_init 1 = .ok (.invokespecial 1, 3) := by decide +kernel
theorem dX6_init_4 : decode cX6_init 4 = .ok (.aload_n 0, 1) := by decide +kernel
theorem dX6_init_5 : decode cX6_init 5 = .ok (.new 7, 3) := by decide +kernel
theorem dX6_init_8 : decode cX6_init 8 = .ok (.dup, 1) := by decide +kernel
theorem dX6_init_9 : decode cX6_init 9 = .ok (.invokespecial 9, 3) := by decide +kernel
theorem dX6_init_12 : decode cX6_init 12 = .ok (.putfield 10, 3) := by decide +kernel
theorem dX6_init_15 : decode cX6_init 15 = .ok (.return_, 1) := by decide +kernel
theorem dX6_thrown_0 : decode cX6_thrown 0 = .ok (.aload_n 0, 1) := by decide +kernel
theorem dX6_thrown_1 : decode cX6_thrown 1 = .ok (.getfield 16, 3) := by decide +kernel
theorem dX6_thrown_4 : decode cX6_thrown 4 = .ok (.ireturn, 1) := by decide +kernel
theorem dX6_no_0 : decode cX6_no 0 = .ok (.aload_n 0, 1) := by decide +kernel
theorem dX6_no_1 : decode cX6_no 1 = .ok (.iload_n 1, 1) := by decide +kernel
theorem dX6_no_2 : decode cX6_no 2 = .ok (.putfield 16, 3) := by decide +kernel
theorem dX6_no_5 : decode cX6_no 5 = .ok (.iconst 0, 1) := by decide +kernel
theorem dX6_no_6 : decode cX6_no 6 = .ok (.ireturn, 1) := by decide +kernel
theorem dX6_in_0 : decode cX6_in 0 = .ok (.iload_n 0, 1) := by decide +kernel
theorem dX6_in_1 : decode cX6_in 1 = .ok (.iload_n 1, 1) := by decide +kernel
theorem dX6_in_2 : decode cX6_in 2 = .ok (.if_icmp .lt 12, 3) := by decide +kernel
theorem dX6_in_5 : decode cX6_in 5 = .ok (.iload_n 0, 1) := by decide +kernel
theorem dX6_in_6 : decode cX6_in 6 = .ok (.iload_n 2, 1) := by decide +kernel
theorem dX6_in_7 : decode cX6_in 7 = .ok (.if_icmp .gt 7, 3) := by decide +kernel
theorem dX6_in_10 : decode cX6_in 10 = .ok (.iconst 1, 1) := by decide +kernel
theorem dX6_in_11 : decode cX6_in 11 = .ok (.goto 4, 3) := by decide +kernel
theorem dX6_in_14 : decode cX6_in 14 = .ok (.iconst 0, 1) := by decide +kernel
theorem dX6_in_15 : decode cX6_in 15 = .ok (.ireturn, 1) := by decide +kernel
theorem dX6_needs_0 : decode cX6_needs 0 = .ok (.bipush 7, 2) := by decide +kernel
theorem dX6_needs_2 : decode cX6_needs 2 = .ok (.newarray .int, 2) := by decide +kernel
theorem dX6_needs_4 : decode cX6_needs 4 = .ok (.dup, 1) := by decide +kernel
theorem dX6_needs_5 : decode cX6_needs 5 = .ok (.iconst 0, 1) := by decide +kernel
theorem dX6_needs_6 : decode cX6_needs 6 = .ok (.iconst 4, 1) := by decide +kernel
theorem dX6_needs_7 : decode cX6_needs 7 = .ok (.iastore, 1) := by decide +kernel
theorem dX6_needs_8 : decode cX6_needs 8 = .ok (.dup, 1) := by decide +kernel
theorem dX6_needs_9 : decode cX6_needs 9 = .ok (.iconst 1, 1) := by decide +kernel
theorem dX6_needs_10 : decode cX6_needs 10 = .ok (.bipush 10, 2) := by decide +kernel
theorem dX6_needs_12 : decode cX6_needs 12 = .ok (.iastore, 1) := by decide +kernel
theorem dX6_needs_13 : decode cX6_needs 13 = .ok (.dup, 1) := by decide +kernel
theorem dX6_needs_14 : decode cX6_needs 14 = .ok (.iconst 2, 1) := by decide +kernel
theorem dX6_needs_15 : decode cX6_needs 15 = .ok (.iconst 3, 1) := by decide +kernel
theorem dX6_needs_16 : decode cX6_needs 16 = .ok (.iastore, 1) := by decide +kernel
theorem dX6_needs_17 : decode cX6_needs 17 = .ok (.dup, 1) := by decide +kernel
theorem dX6_needs_18 : decode cX6_needs 18 = .ok (.iconst 3, 1) := by decide +kernel
theorem dX6_needs_19 : decode cX6_needs 19 = .ok (.iconst 2, 1) := by decide +kernel
theorem dX6_needs_20 : decode cX6_needs 20 = .ok (.iastore, 1) := by decide +kernel
theorem dX6_needs_21 : decode cX6_needs 21 = .ok (.dup, 1) := by decide +kernel
theorem dX6_needs_22 : decode cX6_needs 22 = .ok (.iconst 4, 1) := by decide +kernel
theorem dX6_needs_23 : decode cX6_needs 23 = .ok (.bipush 12, 2) := by decide +kernel
theorem dX6_needs_25 : decode cX6_needs 25 = .ok (.iastore, 1) := by decide +kernel
theorem dX6_needs_26 : decode cX6_needs 26 = .ok (.dup, 1) := by decide +kernel
theorem dX6_needs_27 : decode cX6_needs 27 = .ok (.iconst 5, 1) := by decide +kernel
theorem dX6_needs_28 : decode cX6_needs 28 = .ok (.iconst 5, 1) := by decide +kernel
theorem dX6_needs_29 : decode cX6_needs 29 = .ok (.iastore, 1) := by decide +kernel
theorem dX6_needs_30 : decode cX6_needs 30 = .ok (.dup, 1) := by decide +kernel
theorem dX6_needs_31 : decode cX6_needs 31 = .ok (.bipush 6, 2) := by decide +kernel
theorem dX6_needs_33 : decode cX6_needs 33 = .ok (.iconst 0, 1) := by decide +kernel
theorem dX6_needs_34 : decode cX6_needs 34 = .ok (.iastore, 1) := by decide +kernel
theorem dX6_needs_35 : decode cX6_needs 35 = .ok (.astore_n 1, 1) := by decide +kernel
theorem dX6_needs_36 : decode cX6_needs 36 = .ok (.aload_n 1, 1) := by decide +kernel
theorem dX6_needs_37 : decode cX6_needs 37 = .ok (.iload_n 0, 1) := by decide +kernel
theorem dX6_needs_38 : decode cX6_needs 38 = .ok (.iaload, 1) := by decide +kernel
theorem dX6_needs_39 : decode cX6_needs 39 = .ok (.ireturn, 1) := by decide +kernel
theorem dX6_held_0 : decode cX6_held 0 = .ok (.iconst 0, 1) := by decide +kernel
theorem dX6_held_1 : decode cX6_held 1 = .ok (.iload_n 1, 1) := by decide +kernel
theorem dX6_held_2 : decode cX6_held 2 = .ok (.iload_n 0, 1) := by decide +kernel
theorem dX6_held_3 : decode cX6_held 3 = .ok (.invokestatic 20, 3) := by decide +kernel
theorem dX6_held_6 : decode cX6_held 6 = .ok (.invokestatic 26, 3) := by decide +kernel
theorem dX6_held_9 : decode cX6_held 9 = .ok (.ireturn, 1) := by decide +kernel
set_option maxRecDepth 20000 in
theorem ggX6_isPerson_X6_in : GoodIn wsX6_isPerson wsX6_in := goodIn_r _ [6] (by decide +kernel) (by decide +kernel)
set_option maxRecDepth 20000 in
theorem gX6_isPerson_X6_in : GoodIn wsX6_isPerson (va_wsS RX6 32 yX6_in wsX6_in) := goodIn_app (goodIn_of _ (by decide +kernel)) ggX6_isPerson_X6_in
theorem dX6_isPerson_0 : decode cX6_isPerson 0 = .ok (.iload_n 1, 1) := by decide +kernel
theorem dX6_isPerson_1 : decode cX6_isPerson 1 = .ok (.iconst 0, 1) := by decide +kernel
theorem dX6_isPerson_2 : decode cX6_isPerson 2 = .ok (.aload_n 0, 1) := by decide +kernel
theorem dX6_isPerson_3 : decode cX6_isPerson 3 = .ok (.getfield 10, 3) := by decide +kernel
theorem dX6_isPerson_6 : decode cX6_isPerson 6 = .ok (.getfield 29, 3) := by decide +kernel
theorem dX6_isPerson_9 : decode cX6_isPerson 9 = .ok (.iconst 1, 1) := by decide +kernel
theorem dX6_isPerson_10 : decode cX6_isPerson 10 = .ok (.isub, 1) := by decide +kernel
theorem dX6_isPerson_11 : decode cX6_isPerson 11 = .ok (.invokestatic 32, 3) := by decide +kernel
theorem dX6_isPerson_14 : decode cX6_isPerson 14 = .ok (.ireturn, 1) := by decide +kernel
set_option maxRecDepth 20000 in
theorem ggX6_isFigure_X6_in : GoodIn wsX6_isFigure wsX6_in := goodIn_r _ [6] (by decide +kernel) (by decide +kernel)
set_option maxRecDepth 20000 in
theorem gX6_isFigure_X6_in : GoodIn wsX6_isFigure (va_wsS RX6 32 yX6_in wsX6_in) := goodIn_app (goodIn_of _ (by decide +kernel)) ggX6_isFigure_X6_in
theorem dX6_isFigure_0 : decode cX6_isFigure 0 = .ok (.iload_n 1, 1) := by decide +kernel
theorem dX6_isFigure_1 : decode cX6_isFigure 1 = .ok (.iconst 0, 1) := by decide +kernel
theorem dX6_isFigure_2 : decode cX6_isFigure 2 = .ok (.aload_n 0, 1) := by decide +kernel
theorem dX6_isFigure_3 : decode cX6_isFigure 3 = .ok (.getfield 10, 3) := by decide +kernel
theorem dX6_isFigure_6 : decode cX6_isFigure 6 = .ok (.getfield 36, 3) := by decide +kernel
theorem dX6_isFigure_9 : decode cX6_isFigure 9 = .ok (.iconst 1, 1) := by decide +kernel
theorem dX6_isFigure_10 : decode cX6_isFigure 10 = .ok (.isub, 1) := by decide +kernel
theorem dX6_isFigure_11 : decode cX6_isFigure 11 = .ok (.invokestatic 32, 3) := by decide +kernel
theorem dX6_isFigure_14 : decode cX6_isFigure 14 = .ok (.ireturn, 1) := by decide +kernel
set_option maxRecDepth 20000 in
theorem ggX6_isRoom_X6_in : GoodIn wsX6_isRoom wsX6_in := goodIn_r _ [6] (by decide +kernel) (by decide +kernel)
set_option maxRecDepth 20000 in
theorem gX6_isRoom_X6_in : GoodIn wsX6_isRoom (va_wsS RX6 32 yX6_in wsX6_in) := goodIn_app (goodIn_of _ (by decide +kernel)) ggX6_isRoom_X6_in
theorem dX6_isRoom_0 : decode cX6_isRoom 0 = .ok (.iload_n 1, 1) := by decide +kernel
theorem dX6_isRoom_1 : decode cX6_isRoom 1 = .ok (.iconst 0, 1) := by decide +kernel
theorem dX6_isRoom_2 : decode cX6_isRoom 2 = .ok (.aload_n 0, 1) := by decide +kernel
theorem dX6_isRoom_3 : decode cX6_isRoom 3 = .ok (.getfield 10, 3) := by decide +kernel
theorem dX6_isRoom_6 : decode cX6_isRoom 6 = .ok (.getfield 39, 3) := by decide +kernel
theorem dX6_isRoom_9 : decode cX6_isRoom 9 = .ok (.iconst 1, 1) := by decide +kernel
theorem dX6_isRoom_10 : decode cX6_isRoom 10 = .ok (.isub, 1) := by decide +kernel
theorem dX6_isRoom_11 : decode cX6_isRoom 11 = .ok (.invokestatic 32, 3) := by decide +kernel
theorem dX6_isRoom_14 : decode cX6_isRoom 14 = .ok (.ireturn, 1) := by decide +kernel
set_option maxRecDepth 20000 in
theorem ggX6_person_X6_in : GoodIn wsX6_person wsX6_in := goodIn_r _ [9] (by decide +kernel) (by decide +kernel)
set_option maxRecDepth 20000 in
theorem gX6_person_X6_in : GoodIn wsX6_person (va_wsS RX6 32 yX6_in wsX6_in) := goodIn_app (goodIn_of _ (by decide +kernel)) ggX6_person_X6_in
set_option maxRecDepth 20000 in
theorem ggX6_person_X6_no : GoodIn wsX6_person wsX6_no := goodIn_r _ [13, 1, 14, 15] (by decide +kernel) (by decide +kernel)
set_option maxRecDepth 20000 in
theorem gX6_person_X6_no : GoodIn wsX6_person (wsV RX6 42 RX6 yX6_no wsX6_no) := goodIn_app (goodIn_of _ (by decide +kernel)) ggX6_person_X6_no
theorem dX6_person_0 : decode cX6_person 0 = .ok (.aload_n 0, 1) := by decide +kernel
theorem dX6_person_1 : decode cX6_person 1 = .ok (.iconst 0, 1) := by decide +kernel
theorem dX6_person_2 : decode cX6_person 2 = .ok (.putfield 16, 3) := by decide +kernel
theorem dX6_person_5 : decode cX6_person 5 = .ok (.iload_n 1, 1) := by decide +kernel
theorem dX6_person_6 : decode cX6_person 6 = .ok (.iconst 0, 1) := by decide +kernel
theorem dX6_person_7 : decode cX6_person 7 = .ok (.sipush 999, 3) := by decide +kernel
theorem dX6_person_10 : decode cX6_person 10 = .ok (.invokestatic 32, 3) := by decide +kernel
theorem dX6_person_13 : decode cX6_person 13 = .ok (.ifCond .eq 25, 3) := by decide +kernel
theorem dX6_person_16 : decode cX6_person 16 = .ok (.iload_n 2, 1) := by decide +kernel
theorem dX6_person_17 : decode cX6_person 17 = .ok (.iconst 0, 1) := by decide +kernel
theorem dX6_person_18 : decode cX6_person 18 = .ok (.sipush 999, 3) := by decide +kernel
theorem dX6_person_21 : decode cX6_person 21 = .ok (.invokestatic 32, 3) := by decide +kernel
theorem dX6_person_24 : decode cX6_person 24 = .ok (.ifCond .eq 14, 3) := by decide +kernel
theorem dX6_person_27 : decode cX6_person 27 = .ok (.iload_n 3, 1) := by decide +kernel
theorem dX6_person_28 : decode cX6_person 28 = .ok (.iconst 0, 1) := by decide +kernel
theorem dX6_person_29 : decode cX6_person 29 = .ok (.sipush 999, 3) := by decide +kernel
theorem dX6_person_32 : decode cX6_person 32 = .ok (.invokestatic 32, 3) := by decide +kernel
theorem dX6_person_35 : decode cX6_person 35 = .ok (.ifCond .ne 9, 3) := by decide +kernel
theorem dX6_person_38 : decode cX6_person 38 = .ok (.aload_n 0, 1) := by decide +kernel
theorem dX6_person_39 : decode cX6_person 39 = .ok (.iconst 1, 1) := by decide +kernel
theorem dX6_person_40 : decode cX6_person 40 = .ok (.invokevirtual 42, 3) := by decide +kernel
theorem dX6_person_43 : decode cX6_person 43 = .ok (.ireturn, 1) := by decide +kernel
theorem dX6_person_44 : decode cX6_person 44 = .ok (.aload_n 0, 1) := by decide +kernel
theorem dX6_person_45 : decode cX6_person 45 = .ok (.getfield 10, 3) := by decide +kernel
theorem dX6_person_48 : decode cX6_person 48 = .ok (.getfield 29, 3) := by decide +kernel
theorem dX6_person_51 : decode cX6_person 51 = .ok (.bipush 10, 2) := by decide +kernel
theorem dX6_person_53 : decode cX6_person 53 = .ok (.if_icmp .ne 9, 3) := by decide +kernel
theorem dX6_person_56 : decode cX6_person 56 = .ok (.aload_n 0, 1) := by decide +kernel
theorem dX6_person_57 : decode cX6_person 57 = .ok (.iconst 2, 1) := by decide +kernel
theorem dX6_person_58 : decode cX6_person 58 = .ok (.invokevirtual 42, 3) := by decide +kernel
theorem dX6_person_61 : decode cX6_person 61 = .ok (.ireturn, 1) := by decide +kernel
theorem dX6_person_62 : decode cX6_person 62 = .ok (.aload_n 0, 1) := by decide +kernel
theorem dX6_person_63 : decode cX6_person 63 = .ok (.getfield 10, 3) := by decide +kernel
theorem dX6_person_66 : decode cX6_person 66 = .ok (.getfield 46, 3) := by decide +kernel
theorem dX6_person_69 : decode cX6_person 69 = .ok (.aload_n 0, 1) := by decide +kernel
theorem dX6_person_70 : decode cX6_person 70 = .ok (.getfield 10, 3) := by decide +kernel
theorem dX6_person_73 : decode cX6_person 73 = .ok (.getfield 29, 3) := by decide +kernel
theorem dX6_person_76 : decode cX6_person 76 = .ok (.aaload, 1) := by decide +kernel
theorem dX6_person_77 : decode cX6_person 77 = .ok (.astore 4, 2) := by decide +kernel
theorem dX6_person_79 : decode cX6_person 79 = .ok (.aload 4, 2) := by decide +kernel
theorem dX6_person_81 : decode cX6_person 81 = .ok (.iconst 0, 1) := by decide +kernel
theorem dX6_person_82 : decode cX6_person 82 = .ok (.iload_n 1, 1) := by decide +kernel
theorem dX6_person_83 : decode cX6_person 83 = .ok (.iastore, 1) := by decide +kernel
theorem dX6_person_84 : decode cX6_person 84 = .ok (.aload 4, 2) := by decide +kernel
theorem dX6_person_86 : decode cX6_person 86 = .ok (.iconst 1, 1) := by decide +kernel
theorem dX6_person_87 : decode cX6_person 87 = .ok (.iload_n 2, 1) := by decide +kernel
theorem dX6_person_88 : decode cX6_person 88 = .ok (.iastore, 1) := by decide +kernel
theorem dX6_person_89 : decode cX6_person 89 = .ok (.aload 4, 2) := by decide +kernel
theorem dX6_person_91 : decode cX6_person 91 = .ok (.iconst 2, 1) := by decide +kernel
theorem dX6_person_92 : decode cX6_person 92 = .ok (.iload_n 3, 1) := by decide +kernel
theorem dX6_person_93 : decode cX6_person 93 = .ok (.iastore, 1) := by decide +kernel
theorem dX6_person_94 : decode cX6_person 94 = .ok (.iconst 0, 1) := by decide +kernel
theorem dX6_person_95 : decode cX6_person 95 = .ok (.istore 5, 2) := by decide +kernel
theorem dX6_person_97 : decode cX6_person 97 = .ok (.iload 5, 2) := by decide +kernel
theorem dX6_person_99 : decode cX6_person 99 = .ok (.bipush 6, 2) := by decide +kernel
theorem dX6_person_101 : decode cX6_person 101 = .ok (.if_icmp .ge 29, 3) := by decide +kernel
theorem dX6_person_104 : decode cX6_person 104 = .ok (.aload_n 0, 1) := by decide +kernel
theorem dX6_person_105 : decode cX6_person 105 = .ok (.getfield 10, 3) := by decide +kernel
theorem dX6_person_108 : decode cX6_person 108 = .ok (.getfield 50, 3) := by decide +kernel
theorem dX6_person_111 : decode cX6_person 111 = .ok (.aload_n 0, 1) := by decide +kernel
theorem dX6_person_112 : decode cX6_person 112 = .ok (.getfield 10, 3) := by decide +kernel
theorem dX6_person_115 : decode cX6_person 115 = .ok (.getfield 29, 3) := by decide +kernel
theorem dX6_person_118 : decode cX6_person 118 = .ok (.aaload, 1) := by decide +kernel
theorem dX6_person_119 : decode cX6_person 119 = .ok (.iload 5, 2) := by decide +kernel
theorem dX6_person_121 : decode cX6_person 121 = .ok (.bipush 99, 2) := by decide +kernel
theorem dX6_person_123 : decode cX6_person 123 = .ok (.iastore, 1) := by decide +kernel
theorem dX6_person_124 : decode cX6_person 124 = .ok (.iinc 5 1, 3) := by decide +kernel
theorem dX6_person_127 : decode cX6_person 127 = .ok (.goto (-30), 3) := by decide +kernel
theorem dX6_person_130 : decode cX6_person 130 = .ok (.aload_n 0, 1) := by decide +kernel
theorem dX6_person_131 : decode cX6_person 131 = .ok (.getfield 10, 3) := by decide +kernel
theorem dX6_person_134 : decode cX6_person 134 = .ok (.dup, 1) := by decide +kernel
theorem dX6_person_135 : decode cX6_person 135 = .ok (.getfield 29, 3) := by decide +kernel
theorem dX6_person_138 : decode cX6_person 138 = .ok (.dup_x1, 1) := by decide +kernel
theorem dX6_person_139 : decode cX6_person 139 = .ok (.iconst 1, 1) := by decide +kernel
theorem dX6_person_140 : decode cX6_person 140 = .ok (.iadd, 1) := by decide +kernel
theorem dX6_person_141 : decode cX6_person 141 = .ok (.putfield 29, 3) := by decide +kernel
theorem dX6_person_144 : decode cX6_person 144 = .ok (.ireturn, 1) := by decide +kernel
set_option maxRecDepth 20000 in
theorem ggX6_trend_X6_isPerson : GoodIn wsX6_trend wsX6_isPerson := goodIn_r _ [8, 2, 9, 10, 11, 7, 12, 17, 18, 19, 20, 21, 22, 23, 24, 25, 26, 27, 28, 29, 30, 31, 32] (by decide +kernel) (by decide +kernel)
set_option maxRecDepth 20000 in
theorem gX6_trend_X6_isPerson : GoodIn wsX6_trend (wsV RX6 53 RX6 yX6_isPerson wsX6_isPerson) := goodIn_app (goodIn_of _ (by decide +kernel)) ggX6_trend_X6_isPerson
set_option maxRecDepth 20000 in
theorem ggX6_trend_X6_in : GoodIn wsX6_trend wsX6_in := goodIn_r _ [12] (by decide +kernel) (by decide +kernel)
set_option maxRecDepth 20000 in
theorem gX6_trend_X6_in : GoodIn wsX6_trend (va_wsS RX6 32 yX6_in wsX6_in) := goodIn_app (goodIn_of _ (by decide +kernel)) ggX6_trend_X6_in
set_option maxRecDepth 20000 in
theorem ggX6_trend_X6_no : GoodIn wsX6_trend wsX6_no := goodIn_r _ [16, 1, 17, 18] (by decide +kernel) (by decide +kernel)
set_option maxRecDepth 20000 in
theorem gX6_trend_X6_no : GoodIn wsX6_trend (wsV RX6 42 RX6 yX6_no wsX6_no) := goodIn_app (goodIn_of _ (by decide +kernel)) ggX6_trend_X6_no
theorem dX6_trend_0 : decode cX6_trend 0 = .ok (.aload_n 0, 1) := by decide +kernel
theorem dX6_trend_1 : decode cX6_trend 1 = .ok (.iconst 0, 1) := by decide +kernel
theorem dX6_trend_2 : decode cX6_trend 2 = .ok (.putfield 16, 3) := by decide +kernel
theorem dX6_trend_5 : decode cX6_trend 5 = .ok (.aload_n 0, 1) := by decide +kernel
theorem dX6_trend_6 : decode cX6_trend 6 = .ok (.iload_n 1, 1) := by decide +kernel
theorem dX6_trend_7 : decode cX6_trend 7 = .ok (.invokevirtual 53, 3) := by decide +kernel
theorem dX6_trend_10 : decode cX6_trend 10 = .ok (.ifCond .eq 12, 3) := by decide +kernel
theorem dX6_trend_13 : decode cX6_trend 13 = .ok (.iload_n 2, 1) := by decide +kernel
theorem dX6_trend_14 : decode cX6_trend 14 = .ok (.iconst 0, 1) := by decide +kernel
theorem dX6_trend_15 : decode cX6_trend 15 = .ok (.iconst 2, 1) := by decide +kernel
theorem dX6_trend_16 : decode cX6_trend 16 = .ok (.invokestatic 32, 3) := by decide +kernel
theorem dX6_trend_19 : decode cX6_trend 19 = .ok (.ifCond .ne 9, 3) := by decide +kernel
theorem dX6_trend_22 : decode cX6_trend 22 = .ok (.aload_n 0, 1) := by decide +kernel
theorem dX6_trend_23 : decode cX6_trend 23 = .ok (.iconst 1, 1) := by decide +kernel
theorem dX6_trend_24 : decode cX6_trend 24 = .ok (.invokevirtual 42, 3) := by decide +kernel
theorem dX6_trend_27 : decode cX6_trend 27 = .ok (.ireturn, 1) := by decide +kernel
theorem dX6_trend_28 : decode cX6_trend 28 = .ok (.iload_n 3, 1) := by decide +kernel
theorem dX6_trend_29 : decode cX6_trend 29 = .ok (.bipush (-40), 2) := by decide +kernel
theorem dX6_trend_31 : decode cX6_trend 31 = .ok (.bipush 40, 2) := by decide +kernel
theorem dX6_trend_33 : decode cX6_trend 33 = .ok (.invokestatic 32, 3) := by decide +kernel
theorem dX6_trend_36 : decode cX6_trend 36 = .ok (.ifCond .ne 9, 3) := by decide +kernel
theorem dX6_trend_39 : decode cX6_trend 39 = .ok (.aload_n 0, 1) := by decide +kernel
theorem dX6_trend_40 : decode cX6_trend 40 = .ok (.iconst 2, 1) := by decide +kernel
theorem dX6_trend_41 : decode cX6_trend 41 = .ok (.invokevirtual 42, 3) := by decide +kernel
theorem dX6_trend_44 : decode cX6_trend 44 = .ok (.ireturn, 1) := by decide +kernel
theorem dX6_trend_45 : decode cX6_trend 45 = .ok (.aload_n 0, 1) := by decide +kernel
theorem dX6_trend_46 : decode cX6_trend 46 = .ok (.getfield 10, 3) := by decide +kernel
theorem dX6_trend_49 : decode cX6_trend 49 = .ok (.getfield 46, 3) := by decide +kernel
theorem dX6_trend_52 : decode cX6_trend 52 = .ok (.iload_n 1, 1) := by decide +kernel
theorem dX6_trend_53 : decode cX6_trend 53 = .ok (.aaload, 1) := by decide +kernel
theorem dX6_trend_54 : decode cX6_trend 54 = .ok (.iconst 3, 1) := by decide +kernel
theorem dX6_trend_55 : decode cX6_trend 55 = .ok (.iload_n 2, 1) := by decide +kernel
theorem dX6_trend_56 : decode cX6_trend 56 = .ok (.iadd, 1) := by decide +kernel
theorem dX6_trend_57 : decode cX6_trend 57 = .ok (.iaload, 1) := by decide +kernel
theorem dX6_trend_58 : decode cX6_trend 58 = .ok (.istore 4, 2) := by decide +kernel
theorem dX6_trend_60 : decode cX6_trend 60 = .ok (.aload_n 0, 1) := by decide +kernel
theorem dX6_trend_61 : decode cX6_trend 61 = .ok (.getfield 10, 3) := by decide +kernel
theorem dX6_trend_64 : decode cX6_trend 64 = .ok (.getfield 46, 3) := by decide +kernel
theorem dX6_trend_67 : decode cX6_trend 67 = .ok (.iload_n 1, 1) := by decide +kernel
theorem dX6_trend_68 : decode cX6_trend 68 = .ok (.aaload, 1) := by decide +kernel
theorem dX6_trend_69 : decode cX6_trend 69 = .ok (.iconst 3, 1) := by decide +kernel
theorem dX6_trend_70 : decode cX6_trend 70 = .ok (.iload_n 2, 1) := by decide +kernel
theorem dX6_trend_71 : decode cX6_trend 71 = .ok (.iadd, 1) := by decide +kernel
theorem dX6_trend_72 : decode cX6_trend 72 = .ok (.iload_n 3, 1) := by decide +kernel
theorem dX6_trend_73 : decode cX6_trend 73 = .ok (.iastore, 1) := by decide +kernel
theorem dX6_trend_74 : decode cX6_trend 74 = .ok (.iload 4, 2) := by decide +kernel
theorem dX6_trend_76 : decode cX6_trend 76 = .ok (.ireturn, 1) := by decide +kernel
set_option maxRecDepth 20000 in
theorem ggX6_news_X6_isPerson : GoodIn wsX6_news wsX6_isPerson := goodIn_r _ [8, 2, 9, 10, 11, 7, 12, 27, 28, 29, 30, 31, 32, 33, 34, 35, 36, 37, 38, 39, 40, 41, 42] (by decide +kernel) (by decide +kernel)
set_option maxRecDepth 20000 in
theorem gX6_news_X6_isPerson : GoodIn wsX6_news (wsV RX6 53 RX6 yX6_isPerson wsX6_isPerson) := goodIn_app (goodIn_of _ (by decide +kernel)) ggX6_news_X6_isPerson
set_option maxRecDepth 20000 in
theorem ggX6_news_X6_no : GoodIn wsX6_news wsX6_no := goodIn_r _ [16, 1, 27, 28] (by decide +kernel) (by decide +kernel)
set_option maxRecDepth 20000 in
theorem gX6_news_X6_no : GoodIn wsX6_news (wsV RX6 42 RX6 yX6_no wsX6_no) := goodIn_app (goodIn_of _ (by decide +kernel)) ggX6_news_X6_no
set_option maxRecDepth 20000 in
theorem ggX6_news_X6_in : GoodIn wsX6_news wsX6_in := goodIn_r _ [12] (by decide +kernel) (by decide +kernel)
set_option maxRecDepth 20000 in
theorem gX6_news_X6_in : GoodIn wsX6_news (va_wsS RX6 32 yX6_in wsX6_in) := goodIn_app (goodIn_of _ (by decide +kernel)) ggX6_news_X6_in
set_option maxRecDepth 20000 in
theorem ggX6_news_X6_held : GoodIn wsX6_news wsX6_held := goodIn_r _ [19, 20, 21, 22, 23, 24, 25, 26] (by decide +kernel) (by decide +kernel)
set_option maxRecDepth 20000 in
theorem gX6_news_X6_held : GoodIn wsX6_news (va_wsS RX6 57 yX6_held wsX6_held) := goodIn_app (goodIn_of _ (by decide +kernel)) ggX6_news_X6_held
theorem dX6_news_0 : decode cX6_news 0 = .ok (.aload_n 0, 1) := by decide +kernel
theorem dX6_news_1 : decode cX6_news 1 = .ok (.iconst 0, 1) := by decide +kernel
theorem dX6_news_2 : decode cX6_news 2 = .ok (.putfield 16, 3) := by decide +kernel
theorem dX6_news_5 : decode cX6_news 5 = .ok (.aload_n 0, 1) := by decide +kernel
theorem dX6_news_6 : decode cX6_news 6 = .ok (.iload_n 1, 1) := by decide +kernel
theorem dX6_news_7 : decode cX6_news 7 = .ok (.invokevirtual 53, 3) := by decide +kernel
theorem dX6_news_10 : decode cX6_news 10 = .ok (.ifCond .ne 9, 3) := by decide +kernel
theorem dX6_news_13 : decode cX6_news 13 = .ok (.aload_n 0, 1) := by decide +kernel
theorem dX6_news_14 : decode cX6_news 14 = .ok (.iconst 1, 1) := by decide +kernel
theorem dX6_news_15 : decode cX6_news 15 = .ok (.invokevirtual 42, 3) := by decide +kernel
theorem dX6_news_18 : decode cX6_news 18 = .ok (.ireturn, 1) := by decide +kernel
theorem dX6_news_19 : decode cX6_news 19 = .ok (.iload_n 2, 1) := by decide +kernel
theorem dX6_news_20 : decode cX6_news 20 = .ok (.sipush (-500), 3) := by decide +kernel
theorem dX6_news_23 : decode cX6_news 23 = .ok (.sipush 500, 3) := by decide +kernel
theorem dX6_news_26 : decode cX6_news 26 = .ok (.invokestatic 32, 3) := by decide +kernel
theorem dX6_news_29 : decode cX6_news 29 = .ok (.ifCond .ne 9, 3) := by decide +kernel
theorem dX6_news_32 : decode cX6_news 32 = .ok (.aload_n 0, 1) := by decide +kernel
theorem dX6_news_33 : decode cX6_news 33 = .ok (.iconst 2, 1) := by decide +kernel
theorem dX6_news_34 : decode cX6_news 34 = .ok (.invokevirtual 42, 3) := by decide +kernel
theorem dX6_news_37 : decode cX6_news 37 = .ok (.ireturn, 1) := by decide +kernel
theorem dX6_news_38 : decode cX6_news 38 = .ok (.iconst 0, 1) := by decide +kernel
theorem dX6_news_39 : decode cX6_news 39 = .ok (.istore_n 3, 1) := by decide +kernel
theorem dX6_news_40 : decode cX6_news 40 = .ok (.iload_n 3, 1) := by decide +kernel
theorem dX6_news_41 : decode cX6_news 41 = .ok (.iconst 3, 1) := by decide +kernel
theorem dX6_news_42 : decode cX6_news 42 = .ok (.if_icmp .ge 39, 3) := by decide +kernel
theorem dX6_news_45 : decode cX6_news 45 = .ok (.aload_n 0, 1) := by decide +kernel
theorem dX6_news_46 : decode cX6_news 46 = .ok (.getfield 10, 3) := by decide +kernel
theorem dX6_news_49 : decode cX6_news 49 = .ok (.getfield 46, 3) := by decide +kernel
theorem dX6_news_52 : decode cX6_news 52 = .ok (.iload_n 1, 1) := by decide +kernel
theorem dX6_news_53 : decode cX6_news 53 = .ok (.aaload, 1) := by decide +kernel
theorem dX6_news_54 : decode cX6_news 54 = .ok (.iload_n 3, 1) := by decide +kernel
theorem dX6_news_55 : decode cX6_news 55 = .ok (.aload_n 0, 1) := by decide +kernel
theorem dX6_news_56 : decode cX6_news 56 = .ok (.getfield 10, 3) := by decide +kernel
theorem dX6_news_59 : decode cX6_news 59 = .ok (.getfield 46, 3) := by decide +kernel
theorem dX6_news_62 : decode cX6_news 62 = .ok (.iload_n 1, 1) := by decide +kernel
theorem dX6_news_63 : decode cX6_news 63 = .ok (.aaload, 1) := by decide +kernel
theorem dX6_news_64 : decode cX6_news 64 = .ok (.iload_n 3, 1) := by decide +kernel
theorem dX6_news_65 : decode cX6_news 65 = .ok (.iaload, 1) := by decide +kernel
theorem dX6_news_66 : decode cX6_news 66 = .ok (.iload_n 2, 1) := by decide +kernel
theorem dX6_news_67 : decode cX6_news 67 = .ok (.iadd, 1) := by decide +kernel
theorem dX6_news_68 : decode cX6_news 68 = .ok (.sipush 999, 3) := by decide +kernel
theorem dX6_news_71 : decode cX6_news 71 = .ok (.invokestatic 57, 3) := by decide +kernel
theorem dX6_news_74 : decode cX6_news 74 = .ok (.iastore, 1) := by decide +kernel
theorem dX6_news_75 : decode cX6_news 75 = .ok (.iinc 3 1, 3) := by decide +kernel
theorem dX6_news_78 : decode cX6_news 78 = .ok (.goto (-38), 3) := by decide +kernel
theorem dX6_news_81 : decode cX6_news 81 = .ok (.aload_n 0, 1) := by decide +kernel
theorem dX6_news_82 : decode cX6_news 82 = .ok (.getfield 10, 3) := by decide +kernel
theorem dX6_news_85 : decode cX6_news 85 = .ok (.getfield 46, 3) := by decide +kernel
theorem dX6_news_88 : decode cX6_news 88 = .ok (.iload_n 1, 1) := by decide +kernel
theorem dX6_news_89 : decode cX6_news 89 = .ok (.aaload, 1) := by decide +kernel
theorem dX6_news_90 : decode cX6_news 90 = .ok (.iconst 0, 1) := by decide +kernel
theorem dX6_news_91 : decode cX6_news 91 = .ok (.iaload, 1) := by decide +kernel
theorem dX6_news_92 : decode cX6_news 92 = .ok (.ireturn, 1) := by decide +kernel
set_option maxRecDepth 20000 in
theorem ggX6_consent_X6_isPerson : GoodIn wsX6_consent wsX6_isPerson := goodIn_r _ [10, 2, 11, 12, 13, 9, 14, 24, 25, 26, 27, 28, 29, 30, 31, 32, 33, 34, 35, 36, 37, 38, 39] (by decide +kernel) (by decide +kernel)
set_option maxRecDepth 20000 in
theorem gX6_consent_X6_isPerson : GoodIn wsX6_consent (wsV RX6 53 RX6 yX6_isPerson wsX6_isPerson) := goodIn_app (goodIn_of _ (by decide +kernel)) ggX6_consent_X6_isPerson
set_option maxRecDepth 20000 in
theorem ggX6_consent_X6_no : GoodIn wsX6_consent wsX6_no := goodIn_r _ [18, 1, 24, 25] (by decide +kernel) (by decide +kernel)
set_option maxRecDepth 20000 in
theorem gX6_consent_X6_no : GoodIn wsX6_consent (wsV RX6 42 RX6 yX6_no wsX6_no) := goodIn_app (goodIn_of _ (by decide +kernel)) ggX6_consent_X6_no
set_option maxRecDepth 20000 in
theorem ggX6_consent_X5_isShown : GoodIn wsX6_consent wsX5_isShown := goodIn_r _ [23] (by decide +kernel) (by decide +kernel)
set_option maxRecDepth 20000 in
theorem gX6_consent_X5_isShown : GoodIn wsX6_consent (wsV RX6 63 RX5 yX5_isShown wsX5_isShown) := goodIn_app (goodIn_of _ (by decide +kernel)) ggX6_consent_X5_isShown
theorem dX6_consent_0 : decode cX6_consent 0 = .ok (.aload_n 0, 1) := by decide +kernel
theorem dX6_consent_1 : decode cX6_consent 1 = .ok (.iconst 0, 1) := by decide +kernel
theorem dX6_consent_2 : decode cX6_consent 2 = .ok (.putfield 16, 3) := by decide +kernel
theorem dX6_consent_5 : decode cX6_consent 5 = .ok (.aload_n 0, 1) := by decide +kernel
theorem dX6_consent_6 : decode cX6_consent 6 = .ok (.iload_n 1, 1) := by decide +kernel
theorem dX6_consent_7 : decode cX6_consent 7 = .ok (.invokevirtual 53, 3) := by decide +kernel
theorem dX6_consent_10 : decode cX6_consent 10 = .ok (.ifCond .ne 9, 3) := by decide +kernel
theorem dX6_consent_13 : decode cX6_consent 13 = .ok (.aload_n 0, 1) := by decide +kernel
theorem dX6_consent_14 : decode cX6_consent 14 = .ok (.iconst 1, 1) := by decide +kernel
theorem dX6_consent_15 : decode cX6_consent 15 = .ok (.invokevirtual 42, 3) := by decide +kernel
theorem dX6_consent_18 : decode cX6_consent 18 = .ok (.ireturn, 1) := by decide +kernel
theorem dX6_consent_19 : decode cX6_consent 19 = .ok (.aload_n 0, 1) := by decide +kernel
theorem dX6_consent_20 : decode cX6_consent 20 = .ok (.getfield 10, 3) := by decide +kernel
theorem dX6_consent_23 : decode cX6_consent 23 = .ok (.getfield 46, 3) := by decide +kernel
theorem dX6_consent_26 : decode cX6_consent 26 = .ok (.iload_n 1, 1) := by decide +kernel
theorem dX6_consent_27 : decode cX6_consent 27 = .ok (.aaload, 1) := by decide +kernel
theorem dX6_consent_28 : decode cX6_consent 28 = .ok (.bipush 6, 2) := by decide +kernel
theorem dX6_consent_30 : decode cX6_consent 30 = .ok (.iload_n 2, 1) := by decide +kernel
theorem dX6_consent_31 : decode cX6_consent 31 = .ok (.ifCond .eq 7, 3) := by decide +kernel
theorem dX6_consent_34 : decode cX6_consent 34 = .ok (.iconst 1, 1) := by decide +kernel
theorem dX6_consent_35 : decode cX6_consent 35 = .ok (.goto 4, 3) := by decide +kernel
theorem dX6_consent_38 : decode cX6_consent 38 = .ok (.iconst 0, 1) := by decide +kernel
theorem dX6_consent_39 : decode cX6_consent 39 = .ok (.iastore, 1) := by decide +kernel
theorem dX6_consent_40 : decode cX6_consent 40 = .ok (.iconst 0, 1) := by decide +kernel
theorem dX6_consent_41 : decode cX6_consent 41 = .ok (.istore_n 3, 1) := by decide +kernel
theorem dX6_consent_42 : decode cX6_consent 42 = .ok (.iconst 0, 1) := by decide +kernel
theorem dX6_consent_43 : decode cX6_consent 43 = .ok (.istore 4, 2) := by decide +kernel
theorem dX6_consent_45 : decode cX6_consent 45 = .ok (.iload 4, 2) := by decide +kernel
theorem dX6_consent_47 : decode cX6_consent 47 = .ok (.aload_n 0, 1) := by decide +kernel
theorem dX6_consent_48 : decode cX6_consent 48 = .ok (.getfield 10, 3) := by decide +kernel
theorem dX6_consent_51 : decode cX6_consent 51 = .ok (.getfield 36, 3) := by decide +kernel
theorem dX6_consent_54 : decode cX6_consent 54 = .ok (.if_icmp .ge 57, 3) := by decide +kernel
theorem dX6_consent_57 : decode cX6_consent 57 = .ok (.iload_n 2, 1) := by decide +kernel
theorem dX6_consent_58 : decode cX6_consent 58 = .ok (.ifCond .ne 53, 3) := by decide +kernel
theorem dX6_consent_61 : decode cX6_consent 61 = .ok (.aload_n 0, 1) := by decide +kernel
theorem dX6_consent_62 : decode cX6_consent 62 = .ok (.getfield 10, 3) := by decide +kernel
theorem dX6_consent_65 : decode cX6_consent 65 = .ok (.getfield 60, 3) := by decide +kernel
theorem dX6_consent_68 : decode cX6_consent 68 = .ok (.iload 4, 2) := by decide +kernel
theorem dX6_consent_70 : decode cX6_consent 70 = .ok (.aaload, 1) := by decide +kernel
theorem dX6_consent_71 : decode cX6_consent 71 = .ok (.astore 5, 2) := by decide +kernel
theorem dX6_consent_73 : decode cX6_consent 73 = .ok (.aload_n 0, 1) := by decide +kernel
theorem dX6_consent_74 : decode cX6_consent 74 = .ok (.getfield 10, 3) := by decide +kernel
theorem dX6_consent_77 : decode cX6_consent 77 = .ok (.aload 5, 2) := by decide +kernel
theorem dX6_consent_79 : decode cX6_consent 79 = .ok (.invokevirtual 63, 3) := by decide +kernel
theorem dX6_consent_82 : decode cX6_consent 82 = .ok (.ifCond .eq 23, 3) := by decide +kernel
theorem dX6_consent_85 : decode cX6_consent 85 = .ok (.aload 5, 2) := by decide +kernel
theorem dX6_consent_87 : decode cX6_consent 87 = .ok (.iconst 0, 1) := by decide +kernel
theorem dX6_consent_88 : decode cX6_consent 88 = .ok (.iaload, 1) := by decide +kernel
theorem dX6_consent_89 : decode cX6_consent 89 = .ok (.iload_n 1, 1) := by decide +kernel
theorem dX6_consent_90 : decode cX6_consent 90 = .ok (.if_icmp .eq 6, 3) := by decide +kernel
theorem dX6_consent_93 : decode cX6_consent 93 = .ok (.goto 12, 3) := by decide +kernel
theorem dX6_consent_96 : decode cX6_consent 96 = .ok (.aload 5, 2) := by decide +kernel
theorem dX6_consent_98 : decode cX6_consent 98 = .ok (.bipush 7, 2) := by decide +kernel
theorem dX6_consent_100 : decode cX6_consent 100 = .ok (.iconst 5, 1) := by decide +kernel
theorem dX6_consent_101 : decode cX6_consent 101 = .ok (.iastore, 1) := by decide +kernel
theorem dX6_consent_102 : decode cX6_consent 102 = .ok (.iinc 3 1, 3) := by decide +kernel
theorem dX6_consent_105 : decode cX6_consent 105 = .ok (.iinc 4 1, 3) := by decide +kernel
theorem dX6_consent_108 : decode cX6_consent 108 = .ok (.goto (-63), 3) := by decide +kernel
theorem dX6_consent_111 : decode cX6_consent 111 = .ok (.iload_n 3, 1) := by decide +kernel
theorem dX6_consent_112 : decode cX6_consent 112 = .ok (.ireturn, 1) := by decide +kernel
set_option maxRecDepth 20000 in
theorem ggX6_measure_X6_isPerson : GoodIn wsX6_measure wsX6_isPerson := goodIn_r _ [17, 2, 18, 19, 20, 16, 21, 29, 30, 31, 32, 33, 34, 35, 36, 37, 38, 39, 40, 41, 42, 43, 44] (by decide +kernel) (by decide +kernel)
set_option maxRecDepth 20000 in
theorem gX6_measure_X6_isPerson : GoodIn wsX6_measure (wsV RX6 53 RX6 yX6_isPerson wsX6_isPerson) := goodIn_app (goodIn_of _ (by decide +kernel)) ggX6_measure_X6_isPerson
set_option maxRecDepth 20000 in
theorem ggX6_measure_X6_in : GoodIn wsX6_measure wsX6_in := goodIn_r _ [21] (by decide +kernel) (by decide +kernel)
set_option maxRecDepth 20000 in
theorem gX6_measure_X6_in : GoodIn wsX6_measure (va_wsS RX6 32 yX6_in wsX6_in) := goodIn_app (goodIn_of _ (by decide +kernel)) ggX6_measure_X6_in
set_option maxRecDepth 20000 in
theorem ggX6_measure_X6_no : GoodIn wsX6_measure wsX6_no := goodIn_r _ [25, 1, 29, 30] (by decide +kernel) (by decide +kernel)
set_option maxRecDepth 20000 in
theorem gX6_measure_X6_no : GoodIn wsX6_measure (wsV RX6 42 RX6 yX6_no wsX6_no) := goodIn_app (goodIn_of _ (by decide +kernel)) ggX6_measure_X6_no
set_option maxRecDepth 20000 in
theorem ggX6_measure_X6_held : GoodIn wsX6_measure wsX6_held := goodIn_r _ [28, 9, 10, 6, 11, 4, 5, 7] (by decide +kernel) (by decide +kernel)
set_option maxRecDepth 20000 in
theorem gX6_measure_X6_held : GoodIn wsX6_measure (va_wsS RX6 57 yX6_held wsX6_held) := goodIn_app (goodIn_of _ (by decide +kernel)) ggX6_measure_X6_held
theorem dX6_measure_0 : decode cX6_measure 0 = .ok (.aload_n 0, 1) := by decide +kernel
theorem dX6_measure_1 : decode cX6_measure 1 = .ok (.iconst 0, 1) := by decide +kernel
theorem dX6_measure_2 : decode cX6_measure 2 = .ok (.putfield 16, 3) := by decide +kernel
theorem dX6_measure_5 : decode cX6_measure 5 = .ok (.aload_n 0, 1) := by decide +kernel
theorem dX6_measure_6 : decode cX6_measure 6 = .ok (.iload_n 1, 1) := by decide +kernel
theorem dX6_measure_7 : decode cX6_measure 7 = .ok (.invokevirtual 53, 3) := by decide +kernel
theorem dX6_measure_10 : decode cX6_measure 10 = .ok (.ifCond .eq 12, 3) := by decide +kernel
theorem dX6_measure_13 : decode cX6_measure 13 = .ok (.iload_n 2, 1) := by decide +kernel
theorem dX6_measure_14 : decode cX6_measure 14 = .ok (.iconst 0, 1) := by decide +kernel
theorem dX6_measure_15 : decode cX6_measure 15 = .ok (.iconst 5, 1) := by decide +kernel
theorem dX6_measure_16 : decode cX6_measure 16 = .ok (.invokestatic 32, 3) := by decide +kernel
theorem dX6_measure_19 : decode cX6_measure 19 = .ok (.ifCond .ne 9, 3) := by decide +kernel
theorem dX6_measure_22 : decode cX6_measure 22 = .ok (.aload_n 0, 1) := by decide +kernel
theorem dX6_measure_23 : decode cX6_measure 23 = .ok (.iconst 1, 1) := by decide +kernel
theorem dX6_measure_24 : decode cX6_measure 24 = .ok (.invokevirtual 42, 3) := by decide +kernel
theorem dX6_measure_27 : decode cX6_measure 27 = .ok (.ireturn, 1) := by decide +kernel
theorem dX6_measure_28 : decode cX6_measure 28 = .ok (.iload_n 3, 1) := by decide +kernel
theorem dX6_measure_29 : decode cX6_measure 29 = .ok (.iconst 0, 1) := by decide +kernel
theorem dX6_measure_30 : decode cX6_measure 30 = .ok (.bipush 99, 2) := by decide +kernel
theorem dX6_measure_32 : decode cX6_measure 32 = .ok (.invokestatic 32, 3) := by decide +kernel
theorem dX6_measure_35 : decode cX6_measure 35 = .ok (.ifCond .eq 14, 3) := by decide +kernel
theorem dX6_measure_38 : decode cX6_measure 38 = .ok (.iload 4, 2) := by decide +kernel
theorem dX6_measure_40 : decode cX6_measure 40 = .ok (.iconst 0, 1) := by decide +kernel
theorem dX6_measure_41 : decode cX6_measure 41 = .ok (.bipush 20, 2) := by decide +kernel
theorem dX6_measure_43 : decode cX6_measure 43 = .ok (.invokestatic 32, 3) := by decide +kernel
theorem dX6_measure_46 : decode cX6_measure 46 = .ok (.ifCond .ne 9, 3) := by decide +kernel
theorem dX6_measure_49 : decode cX6_measure 49 = .ok (.aload_n 0, 1) := by decide +kernel
theorem dX6_measure_50 : decode cX6_measure 50 = .ok (.iconst 2, 1) := by decide +kernel
theorem dX6_measure_51 : decode cX6_measure 51 = .ok (.invokevirtual 42, 3) := by decide +kernel
theorem dX6_measure_54 : decode cX6_measure 54 = .ok (.ireturn, 1) := by decide +kernel
theorem dX6_measure_55 : decode cX6_measure 55 = .ok (.iload_n 3, 1) := by decide +kernel
theorem dX6_measure_56 : decode cX6_measure 56 = .ok (.iload 4, 2) := by decide +kernel
theorem dX6_measure_58 : decode cX6_measure 58 = .ok (.isub, 1) := by decide +kernel
theorem dX6_measure_59 : decode cX6_measure 59 = .ok (.bipush 99, 2) := by decide +kernel
theorem dX6_measure_61 : decode cX6_measure 61 = .ok (.invokestatic 57, 3) := by decide +kernel
theorem dX6_measure_64 : decode cX6_measure 64 = .ok (.istore 5, 2) := by decide +kernel
theorem dX6_measure_66 : decode cX6_measure 66 = .ok (.iload_n 3, 1) := by decide +kernel
theorem dX6_measure_67 : decode cX6_measure 67 = .ok (.iload 4, 2) := by decide +kernel
theorem dX6_measure_69 : decode cX6_measure 69 = .ok (.iadd, 1) := by decide +kernel
theorem dX6_measure_70 : decode cX6_measure 70 = .ok (.bipush 99, 2) := by decide +kernel
theorem dX6_measure_72 : decode cX6_measure 72 = .ok (.invokestatic 57, 3) := by decide +kernel
theorem dX6_measure_75 : decode cX6_measure 75 = .ok (.istore 6, 2) := by decide +kernel
theorem dX6_measure_77 : decode cX6_measure 77 = .ok (.iload 5, 2) := by decide +kernel
theorem dX6_measure_79 : decode cX6_measure 79 = .ok (.aload_n 0, 1) := by decide +kernel
theorem dX6_measure_80 : decode cX6_measure 80 = .ok (.getfield 10, 3) := by decide +kernel
theorem dX6_measure_83 : decode cX6_measure 83 = .ok (.getfield 67, 3) := by decide +kernel
theorem dX6_measure_86 : decode cX6_measure 86 = .ok (.iload_n 1, 1) := by decide +kernel
theorem dX6_measure_87 : decode cX6_measure 87 = .ok (.aaload, 1) := by decide +kernel
theorem dX6_measure_88 : decode cX6_measure 88 = .ok (.iload_n 2, 1) := by decide +kernel
theorem dX6_measure_89 : decode cX6_measure 89 = .ok (.iaload, 1) := by decide +kernel
theorem dX6_measure_90 : decode cX6_measure 90 = .ok (.invokestatic 26, 3) := by decide +kernel
theorem dX6_measure_93 : decode cX6_measure 93 = .ok (.iload 6, 2) := by decide +kernel
theorem dX6_measure_95 : decode cX6_measure 95 = .ok (.aload_n 0, 1) := by decide +kernel
theorem dX6_measure_96 : decode cX6_measure 96 = .ok (.getfield 10, 3) := by decide +kernel
theorem dX6_measure_99 : decode cX6_measure 99 = .ok (.getfield 50, 3) := by decide +kernel
theorem dX6_measure_102 : decode cX6_measure 102 = .ok (.iload_n 1, 1) := by decide +kernel
theorem dX6_measure_103 : decode cX6_measure 103 = .ok (.aaload, 1) := by decide +kernel
theorem dX6_measure_104 : decode cX6_measure 104 = .ok (.iload_n 2, 1) := by decide +kernel
theorem dX6_measure_105 : decode cX6_measure 105 = .ok (.iaload, 1) := by decide +kernel
theorem dX6_measure_106 : decode cX6_measure 106 = .ok (.invokestatic 20, 3) := by decide +kernel
theorem dX6_measure_109 : decode cX6_measure 109 = .ok (.if_icmp .le 7, 3) := by decide +kernel
theorem dX6_measure_112 : decode cX6_measure 112 = .ok (.iconst 1, 1) := by decide +kernel
theorem dX6_measure_113 : decode cX6_measure 113 = .ok (.goto 4, 3) := by decide +kernel
theorem dX6_measure_116 : decode cX6_measure 116 = .ok (.iconst 0, 1) := by decide +kernel
theorem dX6_measure_117 : decode cX6_measure 117 = .ok (.istore 7, 2) := by decide +kernel
theorem dX6_measure_119 : decode cX6_measure 119 = .ok (.aload_n 0, 1) := by decide +kernel
theorem dX6_measure_120 : decode cX6_measure 120 = .ok (.getfield 10, 3) := by decide +kernel
theorem dX6_measure_123 : decode cX6_measure 123 = .ok (.getfield 46, 3) := by decide +kernel
theorem dX6_measure_126 : decode cX6_measure 126 = .ok (.iload_n 1, 1) := by decide +kernel
theorem dX6_measure_127 : decode cX6_measure 127 = .ok (.aaload, 1) := by decide +kernel
theorem dX6_measure_128 : decode cX6_measure 128 = .ok (.bipush 8, 2) := by decide +kernel
theorem dX6_measure_130 : decode cX6_measure 130 = .ok (.dup2, 1) := by decide +kernel
theorem dX6_measure_131 : decode cX6_measure 131 = .ok (.iaload, 1) := by decide +kernel
theorem dX6_measure_132 : decode cX6_measure 132 = .ok (.iload 7, 2) := by decide +kernel
theorem dX6_measure_134 : decode cX6_measure 134 = .ok (.ifCond .eq 7, 3) := by decide +kernel
theorem dX6_measure_137 : decode cX6_measure 137 = .ok (.iconst 1, 1) := by decide +kernel
theorem dX6_measure_138 : decode cX6_measure 138 = .ok (.goto 4, 3) := by decide +kernel
theorem dX6_measure_141 : decode cX6_measure 141 = .ok (.iconst 0, 1) := by decide +kernel
theorem dX6_measure_142 : decode cX6_measure 142 = .ok (.iadd, 1) := by decide +kernel
theorem dX6_measure_143 : decode cX6_measure 143 = .ok (.iastore, 1) := by decide +kernel
theorem dX6_measure_144 : decode cX6_measure 144 = .ok (.aload_n 0, 1) := by decide +kernel
theorem dX6_measure_145 : decode cX6_measure 145 = .ok (.getfield 10, 3) := by decide +kernel
theorem dX6_measure_148 : decode cX6_measure 148 = .ok (.getfield 67, 3) := by decide +kernel
theorem dX6_measure_151 : decode cX6_measure 151 = .ok (.iload_n 1, 1) := by decide +kernel
theorem dX6_measure_152 : decode cX6_measure 152 = .ok (.aaload, 1) := by decide +kernel
theorem dX6_measure_153 : decode cX6_measure 153 = .ok (.iload_n 2, 1) := by decide +kernel
theorem dX6_measure_154 : decode cX6_measure 154 = .ok (.iload 7, 2) := by decide +kernel
theorem dX6_measure_156 : decode cX6_measure 156 = .ok (.ifCond .eq 8, 3) := by decide +kernel
theorem dX6_measure_159 : decode cX6_measure 159 = .ok (.iload 5, 2) := by decide +kernel
theorem dX6_measure_161 : decode cX6_measure 161 = .ok (.goto 19, 3) := by decide +kernel
theorem dX6_measure_164 : decode cX6_measure 164 = .ok (.iload 5, 2) := by decide +kernel
theorem dX6_measure_166 : decode cX6_measure 166 = .ok (.aload_n 0, 1) := by decide +kernel
theorem dX6_measure_167 : decode cX6_measure 167 = .ok (.getfield 10, 3) := by decide +kernel
theorem dX6_measure_170 : decode cX6_measure 170 = .ok (.getfield 67, 3) := by decide +kernel
theorem dX6_measure_173 : decode cX6_measure 173 = .ok (.iload_n 1, 1) := by decide +kernel
theorem dX6_measure_174 : decode cX6_measure 174 = .ok (.aaload, 1) := by decide +kernel
theorem dX6_measure_175 : decode cX6_measure 175 = .ok (.iload_n 2, 1) := by decide +kernel
theorem dX6_measure_176 : decode cX6_measure 176 = .ok (.iaload, 1) := by decide +kernel
theorem dX6_measure_177 : decode cX6_measure 177 = .ok (.invokestatic 26, 3) := by decide +kernel
theorem dX6_measure_180 : decode cX6_measure 180 = .ok (.iastore, 1) := by decide +kernel
theorem dX6_measure_181 : decode cX6_measure 181 = .ok (.aload_n 0, 1) := by decide +kernel
theorem dX6_measure_182 : decode cX6_measure 182 = .ok (.getfield 10, 3) := by decide +kernel
theorem dX6_measure_185 : decode cX6_measure 185 = .ok (.getfield 50, 3) := by decide +kernel
theorem dX6_measure_188 : decode cX6_measure 188 = .ok (.iload_n 1, 1) := by decide +kernel
theorem dX6_measure_189 : decode cX6_measure 189 = .ok (.aaload, 1) := by decide +kernel
theorem dX6_measure_190 : decode cX6_measure 190 = .ok (.iload_n 2, 1) := by decide +kernel
theorem dX6_measure_191 : decode cX6_measure 191 = .ok (.iload 7, 2) := by decide +kernel
theorem dX6_measure_193 : decode cX6_measure 193 = .ok (.ifCond .eq 8, 3) := by decide +kernel
theorem dX6_measure_196 : decode cX6_measure 196 = .ok (.iload 6, 2) := by decide +kernel
theorem dX6_measure_198 : decode cX6_measure 198 = .ok (.goto 19, 3) := by decide +kernel
theorem dX6_measure_201 : decode cX6_measure 201 = .ok (.iload 6, 2) := by decide +kernel
theorem dX6_measure_203 : decode cX6_measure 203 = .ok (.aload_n 0, 1) := by decide +kernel
theorem dX6_measure_204 : decode cX6_measure 204 = .ok (.getfield 10, 3) := by decide +kernel
theorem dX6_measure_207 : decode cX6_measure 207 = .ok (.getfield 50, 3) := by decide +kernel
theorem dX6_measure_210 : decode cX6_measure 210 = .ok (.iload_n 1, 1) := by decide +kernel
theorem dX6_measure_211 : decode cX6_measure 211 = .ok (.aaload, 1) := by decide +kernel
theorem dX6_measure_212 : decode cX6_measure 212 = .ok (.iload_n 2, 1) := by decide +kernel
theorem dX6_measure_213 : decode cX6_measure 213 = .ok (.iaload, 1) := by decide +kernel
theorem dX6_measure_214 : decode cX6_measure 214 = .ok (.invokestatic 20, 3) := by decide +kernel
theorem dX6_measure_217 : decode cX6_measure 217 = .ok (.iastore, 1) := by decide +kernel
theorem dX6_measure_218 : decode cX6_measure 218 = .ok (.aload_n 0, 1) := by decide +kernel
theorem dX6_measure_219 : decode cX6_measure 219 = .ok (.getfield 10, 3) := by decide +kernel
theorem dX6_measure_222 : decode cX6_measure 222 = .ok (.getfield 50, 3) := by decide +kernel
theorem dX6_measure_225 : decode cX6_measure 225 = .ok (.iload_n 1, 1) := by decide +kernel
theorem dX6_measure_226 : decode cX6_measure 226 = .ok (.aaload, 1) := by decide +kernel
theorem dX6_measure_227 : decode cX6_measure 227 = .ok (.iload_n 2, 1) := by decide +kernel
theorem dX6_measure_228 : decode cX6_measure 228 = .ok (.iaload, 1) := by decide +kernel
theorem dX6_measure_229 : decode cX6_measure 229 = .ok (.aload_n 0, 1) := by decide +kernel
theorem dX6_measure_230 : decode cX6_measure 230 = .ok (.getfield 10, 3) := by decide +kernel
theorem dX6_measure_233 : decode cX6_measure 233 = .ok (.getfield 67, 3) := by decide +kernel
theorem dX6_measure_236 : decode cX6_measure 236 = .ok (.iload_n 1, 1) := by decide +kernel
theorem dX6_measure_237 : decode cX6_measure 237 = .ok (.aaload, 1) := by decide +kernel
theorem dX6_measure_238 : decode cX6_measure 238 = .ok (.iload_n 2, 1) := by decide +kernel
theorem dX6_measure_239 : decode cX6_measure 239 = .ok (.iaload, 1) := by decide +kernel
theorem dX6_measure_240 : decode cX6_measure 240 = .ok (.isub, 1) := by decide +kernel
theorem dX6_measure_241 : decode cX6_measure 241 = .ok (.ireturn, 1) := by decide +kernel
set_option maxRecDepth 20000 in
theorem ggX6_pay_X6_isPerson : GoodIn wsX6_pay wsX6_isPerson := goodIn_r _ [9, 2, 10, 11, 12, 8, 13, 18, 19, 20, 21, 22, 23, 24, 25, 26, 27, 28, 29, 30, 31, 32, 33] (by decide +kernel) (by decide +kernel)
set_option maxRecDepth 20000 in
theorem gX6_pay_X6_isPerson : GoodIn wsX6_pay (wsV RX6 53 RX6 yX6_isPerson wsX6_isPerson) := goodIn_app (goodIn_of _ (by decide +kernel)) ggX6_pay_X6_isPerson
set_option maxRecDepth 20000 in
theorem ggX6_pay_X6_no : GoodIn wsX6_pay wsX6_no := goodIn_r _ [17, 1, 18, 19] (by decide +kernel) (by decide +kernel)
set_option maxRecDepth 20000 in
theorem gX6_pay_X6_no : GoodIn wsX6_pay (wsV RX6 42 RX6 yX6_no wsX6_no) := goodIn_app (goodIn_of _ (by decide +kernel)) ggX6_pay_X6_no
theorem dX6_pay_0 : decode cX6_pay 0 = .ok (.aload_n 0, 1) := by decide +kernel
theorem dX6_pay_1 : decode cX6_pay 1 = .ok (.iconst 0, 1) := by decide +kernel
theorem dX6_pay_2 : decode cX6_pay 2 = .ok (.putfield 16, 3) := by decide +kernel
theorem dX6_pay_5 : decode cX6_pay 5 = .ok (.aload_n 0, 1) := by decide +kernel
theorem dX6_pay_6 : decode cX6_pay 6 = .ok (.iload_n 1, 1) := by decide +kernel
theorem dX6_pay_7 : decode cX6_pay 7 = .ok (.invokevirtual 53, 3) := by decide +kernel
theorem dX6_pay_10 : decode cX6_pay 10 = .ok (.ifCond .ne 9, 3) := by decide +kernel
theorem dX6_pay_13 : decode cX6_pay 13 = .ok (.aload_n 0, 1) := by decide +kernel
theorem dX6_pay_14 : decode cX6_pay 14 = .ok (.iconst 1, 1) := by decide +kernel
theorem dX6_pay_15 : decode cX6_pay 15 = .ok (.invokevirtual 42, 3) := by decide +kernel
theorem dX6_pay_18 : decode cX6_pay 18 = .ok (.ireturn, 1) := by decide +kernel
theorem dX6_pay_19 : decode cX6_pay 19 = .ok (.aload_n 0, 1) := by decide +kernel
theorem dX6_pay_20 : decode cX6_pay 20 = .ok (.getfield 10, 3) := by decide +kernel
theorem dX6_pay_23 : decode cX6_pay 23 = .ok (.getfield 46, 3) := by decide +kernel
theorem dX6_pay_26 : decode cX6_pay 26 = .ok (.iload_n 1, 1) := by decide +kernel
theorem dX6_pay_27 : decode cX6_pay 27 = .ok (.aaload, 1) := by decide +kernel
theorem dX6_pay_28 : decode cX6_pay 28 = .ok (.bipush 7, 2) := by decide +kernel
theorem dX6_pay_30 : decode cX6_pay 30 = .ok (.iaload, 1) := by decide +kernel
theorem dX6_pay_31 : decode cX6_pay 31 = .ok (.istore_n 2, 1) := by decide +kernel
theorem dX6_pay_32 : decode cX6_pay 32 = .ok (.aload_n 0, 1) := by decide +kernel
theorem dX6_pay_33 : decode cX6_pay 33 = .ok (.getfield 10, 3) := by decide +kernel
theorem dX6_pay_36 : decode cX6_pay 36 = .ok (.getfield 46, 3) := by decide +kernel
theorem dX6_pay_39 : decode cX6_pay 39 = .ok (.iload_n 1, 1) := by decide +kernel
theorem dX6_pay_40 : decode cX6_pay 40 = .ok (.aaload, 1) := by decide +kernel
theorem dX6_pay_41 : decode cX6_pay 41 = .ok (.bipush 7, 2) := by decide +kernel
theorem dX6_pay_43 : decode cX6_pay 43 = .ok (.iconst 0, 1) := by decide +kernel
theorem dX6_pay_44 : decode cX6_pay 44 = .ok (.iastore, 1) := by decide +kernel
theorem dX6_pay_45 : decode cX6_pay 45 = .ok (.aload_n 0, 1) := by decide +kernel
theorem dX6_pay_46 : decode cX6_pay 46 = .ok (.getfield 10, 3) := by decide +kernel
theorem dX6_pay_49 : decode cX6_pay 49 = .ok (.dup, 1) := by decide +kernel
theorem dX6_pay_50 : decode cX6_pay 50 = .ok (.getfield 70, 3) := by decide +kernel
theorem dX6_pay_53 : decode cX6_pay 53 = .ok (.iload_n 2, 1) := by decide +kernel
theorem dX6_pay_54 : decode cX6_pay 54 = .ok (.isub, 1) := by decide +kernel
theorem dX6_pay_55 : decode cX6_pay 55 = .ok (.putfield 70, 3) := by decide +kernel
theorem dX6_pay_58 : decode cX6_pay 58 = .ok (.iload_n 2, 1) := by decide +kernel
theorem dX6_pay_59 : decode cX6_pay 59 = .ok (.ireturn, 1) := by decide +kernel
set_option maxRecDepth 20000 in
theorem ggX6_figure_X6_isPerson : GoodIn wsX6_figure wsX6_isPerson := goodIn_r _ [14, 2, 15, 16, 17, 13, 18, 26, 27, 28, 29, 30, 31, 32, 33, 34, 35, 36, 37, 38, 39, 40, 41] (by decide +kernel) (by decide +kernel)
set_option maxRecDepth 20000 in
theorem gX6_figure_X6_isPerson : GoodIn wsX6_figure (wsV RX6 53 RX6 yX6_isPerson wsX6_isPerson) := goodIn_app (goodIn_of _ (by decide +kernel)) ggX6_figure_X6_isPerson
set_option maxRecDepth 20000 in
theorem ggX6_figure_X6_no : GoodIn wsX6_figure wsX6_no := goodIn_r _ [22, 1, 26, 27] (by decide +kernel) (by decide +kernel)
set_option maxRecDepth 20000 in
theorem gX6_figure_X6_no : GoodIn wsX6_figure (wsV RX6 42 RX6 yX6_no wsX6_no) := goodIn_app (goodIn_of _ (by decide +kernel)) ggX6_figure_X6_no
set_option maxRecDepth 20000 in
theorem ggX6_figure_X6_needs : GoodIn wsX6_figure wsX6_needs := goodIn_r _ [25, 4] (by decide +kernel) (by decide +kernel)
set_option maxRecDepth 20000 in
theorem gX6_figure_X6_needs : GoodIn wsX6_figure (va_wsS RX6 73 yX6_needs wsX6_needs) := goodIn_app (goodIn_of _ (by decide +kernel)) ggX6_figure_X6_needs
theorem dX6_figure_0 : decode cX6_figure 0 = .ok (.aload_n 0, 1) := by decide +kernel
theorem dX6_figure_1 : decode cX6_figure 1 = .ok (.iconst 0, 1) := by decide +kernel
theorem dX6_figure_2 : decode cX6_figure 2 = .ok (.putfield 16, 3) := by decide +kernel
theorem dX6_figure_5 : decode cX6_figure 5 = .ok (.aload_n 0, 1) := by decide +kernel
theorem dX6_figure_6 : decode cX6_figure 6 = .ok (.iload_n 1, 1) := by decide +kernel
theorem dX6_figure_7 : decode cX6_figure 7 = .ok (.invokevirtual 53, 3) := by decide +kernel
theorem dX6_figure_10 : decode cX6_figure 10 = .ok (.ifCond .ne 9, 3) := by decide +kernel
theorem dX6_figure_13 : decode cX6_figure 13 = .ok (.aload_n 0, 1) := by decide +kernel
theorem dX6_figure_14 : decode cX6_figure 14 = .ok (.iconst 1, 1) := by decide +kernel
theorem dX6_figure_15 : decode cX6_figure 15 = .ok (.invokevirtual 42, 3) := by decide +kernel
theorem dX6_figure_18 : decode cX6_figure 18 = .ok (.ireturn, 1) := by decide +kernel
theorem dX6_figure_19 : decode cX6_figure 19 = .ok (.aload_n 0, 1) := by decide +kernel
theorem dX6_figure_20 : decode cX6_figure 20 = .ok (.getfield 10, 3) := by decide +kernel
theorem dX6_figure_23 : decode cX6_figure 23 = .ok (.getfield 36, 3) := by decide +kernel
theorem dX6_figure_26 : decode cX6_figure 26 = .ok (.bipush 8, 2) := by decide +kernel
theorem dX6_figure_28 : decode cX6_figure 28 = .ok (.if_icmp .ne 9, 3) := by decide +kernel
theorem dX6_figure_31 : decode cX6_figure 31 = .ok (.aload_n 0, 1) := by decide +kernel
theorem dX6_figure_32 : decode cX6_figure 32 = .ok (.iconst 2, 1) := by decide +kernel
theorem dX6_figure_33 : decode cX6_figure 33 = .ok (.invokevirtual 42, 3) := by decide +kernel
theorem dX6_figure_36 : decode cX6_figure 36 = .ok (.ireturn, 1) := by decide +kernel
theorem dX6_figure_37 : decode cX6_figure 37 = .ok (.bipush 11, 2) := by decide +kernel
theorem dX6_figure_39 : decode cX6_figure 39 = .ok (.newarray .int, 2) := by decide +kernel
theorem dX6_figure_41 : decode cX6_figure 41 = .ok (.dup, 1) := by decide +kernel
theorem dX6_figure_42 : decode cX6_figure 42 = .ok (.iconst 0, 1) := by decide +kernel
theorem dX6_figure_43 : decode cX6_figure 43 = .ok (.iload_n 1, 1) := by decide +kernel
theorem dX6_figure_44 : decode cX6_figure 44 = .ok (.iastore, 1) := by decide +kernel
theorem dX6_figure_45 : decode cX6_figure 45 = .ok (.dup, 1) := by decide +kernel
theorem dX6_figure_46 : decode cX6_figure 46 = .ok (.iconst 1, 1) := by decide +kernel
theorem dX6_figure_47 : decode cX6_figure 47 = .ok (.iload_n 1, 1) := by decide +kernel
theorem dX6_figure_48 : decode cX6_figure 48 = .ok (.iastore, 1) := by decide +kernel
theorem dX6_figure_49 : decode cX6_figure 49 = .ok (.dup, 1) := by decide +kernel
theorem dX6_figure_50 : decode cX6_figure 50 = .ok (.iconst 2, 1) := by decide +kernel
theorem dX6_figure_51 : decode cX6_figure 51 = .ok (.iconst 0, 1) := by decide +kernel
theorem dX6_figure_52 : decode cX6_figure 52 = .ok (.iastore, 1) := by decide +kernel
theorem dX6_figure_53 : decode cX6_figure 53 = .ok (.dup, 1) := by decide +kernel
theorem dX6_figure_54 : decode cX6_figure 54 = .ok (.iconst 3, 1) := by decide +kernel
theorem dX6_figure_55 : decode cX6_figure 55 = .ok (.iconst 0, 1) := by decide +kernel
theorem dX6_figure_56 : decode cX6_figure 56 = .ok (.invokestatic 73, 3) := by decide +kernel
theorem dX6_figure_59 : decode cX6_figure 59 = .ok (.iastore, 1) := by decide +kernel
theorem dX6_figure_60 : decode cX6_figure 60 = .ok (.dup, 1) := by decide +kernel
theorem dX6_figure_61 : decode cX6_figure 61 = .ok (.iconst 4, 1) := by decide +kernel
theorem dX6_figure_62 : decode cX6_figure 62 = .ok (.iconst 0, 1) := by decide +kernel
theorem dX6_figure_63 : decode cX6_figure 63 = .ok (.iastore, 1) := by decide +kernel
theorem dX6_figure_64 : decode cX6_figure 64 = .ok (.dup, 1) := by decide +kernel
theorem dX6_figure_65 : decode cX6_figure 65 = .ok (.iconst 5, 1) := by decide +kernel
theorem dX6_figure_66 : decode cX6_figure 66 = .ok (.iconst 0, 1) := by decide +kernel
theorem dX6_figure_67 : decode cX6_figure 67 = .ok (.iastore, 1) := by decide +kernel
theorem dX6_figure_68 : decode cX6_figure 68 = .ok (.dup, 1) := by decide +kernel
theorem dX6_figure_69 : decode cX6_figure 69 = .ok (.bipush 6, 2) := by decide +kernel
theorem dX6_figure_71 : decode cX6_figure 71 = .ok (.iconst 0, 1) := by decide +kernel
theorem dX6_figure_72 : decode cX6_figure 72 = .ok (.iastore, 1) := by decide +kernel
theorem dX6_figure_73 : decode cX6_figure 73 = .ok (.dup, 1) := by decide +kernel
theorem dX6_figure_74 : decode cX6_figure 74 = .ok (.bipush 7, 2) := by decide +kernel
theorem dX6_figure_76 : decode cX6_figure 76 = .ok (.iconst 5, 1) := by decide +kernel
theorem dX6_figure_77 : decode cX6_figure 77 = .ok (.iastore, 1) := by decide +kernel
theorem dX6_figure_78 : decode cX6_figure 78 = .ok (.dup, 1) := by decide +kernel
theorem dX6_figure_79 : decode cX6_figure 79 = .ok (.bipush 8, 2) := by decide +kernel
theorem dX6_figure_81 : decode cX6_figure 81 = .ok (.iconst 0, 1) := by decide +kernel
theorem dX6_figure_82 : decode cX6_figure 82 = .ok (.iastore, 1) := by decide +kernel
theorem dX6_figure_83 : decode cX6_figure 83 = .ok (.dup, 1) := by decide +kernel
theorem dX6_figure_84 : decode cX6_figure 84 = .ok (.bipush 9, 2) := by decide +kernel
theorem dX6_figure_86 : decode cX6_figure 86 = .ok (.iconst 0, 1) := by decide +kernel
theorem dX6_figure_87 : decode cX6_figure 87 = .ok (.iastore, 1) := by decide +kernel
theorem dX6_figure_88 : decode cX6_figure 88 = .ok (.dup, 1) := by decide +kernel
theorem dX6_figure_89 : decode cX6_figure 89 = .ok (.bipush 10, 2) := by decide +kernel
theorem dX6_figure_91 : decode cX6_figure 91 = .ok (.iconst 0, 1) := by decide +kernel
theorem dX6_figure_92 : decode cX6_figure 92 = .ok (.iastore, 1) := by decide +kernel
theorem dX6_figure_93 : decode cX6_figure 93 = .ok (.astore_n 2, 1) := by decide +kernel
theorem dX6_figure_94 : decode cX6_figure 94 = .ok (.aload_n 2, 1) := by decide +kernel
theorem dX6_figure_95 : decode cX6_figure 95 = .ok (.iconst 0, 1) := by decide +kernel
theorem dX6_figure_96 : decode cX6_figure 96 = .ok (.aload_n 0, 1) := by decide +kernel
theorem dX6_figure_97 : decode cX6_figure 97 = .ok (.getfield 10, 3) := by decide +kernel
theorem dX6_figure_100 : decode cX6_figure 100 = .ok (.getfield 60, 3) := by decide +kernel
theorem dX6_figure_103 : decode cX6_figure 103 = .ok (.aload_n 0, 1) := by decide +kernel
theorem dX6_figure_104 : decode cX6_figure 104 = .ok (.getfield 10, 3) := by decide +kernel
theorem dX6_figure_107 : decode cX6_figure 107 = .ok (.getfield 36, 3) := by decide +kernel
theorem dX6_figure_110 : decode cX6_figure 110 = .ok (.aaload, 1) := by decide +kernel
theorem dX6_figure_111 : decode cX6_figure 111 = .ok (.iconst 0, 1) := by decide +kernel
theorem dX6_figure_112 : decode cX6_figure 112 = .ok (.aload_n 2, 1) := by decide +kernel
theorem dX6_figure_113 : decode cX6_figure 113 = .ok (.arraylength, 1) := by decide +kernel
theorem dX6_figure_114 : decode cX6_figure 114 = .ok (.invokestatic 76, 3) := by decide +kernel
theorem dX6_figure_117 : decode cX6_figure 117 = .ok (.aload_n 0, 1) := by decide +kernel
theorem dX6_figure_118 : decode cX6_figure 118 = .ok (.getfield 10, 3) := by decide +kernel
theorem dX6_figure_121 : decode cX6_figure 121 = .ok (.dup, 1) := by decide +kernel
theorem dX6_figure_122 : decode cX6_figure 122 = .ok (.getfield 36, 3) := by decide +kernel
theorem dX6_figure_125 : decode cX6_figure 125 = .ok (.dup_x1, 1) := by decide +kernel
theorem dX6_figure_126 : decode cX6_figure 126 = .ok (.iconst 1, 1) := by decide +kernel
theorem dX6_figure_127 : decode cX6_figure 127 = .ok (.iadd, 1) := by decide +kernel
theorem dX6_figure_128 : decode cX6_figure 128 = .ok (.putfield 36, 3) := by decide +kernel
theorem dX6_figure_131 : decode cX6_figure 131 = .ok (.ireturn, 1) := by decide +kernel
set_option maxRecDepth 20000 in
theorem ggX6_work_X6_isFigure : GoodIn wsX6_work wsX6_isFigure := goodIn_r _ [8, 2, 9, 10, 11, 7, 12, 24, 25, 26, 27, 28, 29, 30, 31, 32, 33, 34, 35, 36, 37, 38, 39] (by decide +kernel) (by decide +kernel)
set_option maxRecDepth 20000 in
theorem gX6_work_X6_isFigure : GoodIn wsX6_work (wsV RX6 82 RX6 yX6_isFigure wsX6_isFigure) := goodIn_app (goodIn_of _ (by decide +kernel)) ggX6_work_X6_isFigure
set_option maxRecDepth 20000 in
theorem ggX6_work_X6_no : GoodIn wsX6_work wsX6_no := goodIn_r _ [16, 1, 24, 25] (by decide +kernel) (by decide +kernel)
set_option maxRecDepth 20000 in
theorem gX6_work_X6_no : GoodIn wsX6_work (wsV RX6 42 RX6 yX6_no wsX6_no) := goodIn_app (goodIn_of _ (by decide +kernel)) ggX6_work_X6_no
set_option maxRecDepth 20000 in
theorem ggX6_work_X6_in : GoodIn wsX6_work wsX6_in := goodIn_r _ [12] (by decide +kernel) (by decide +kernel)
set_option maxRecDepth 20000 in
theorem gX6_work_X6_in : GoodIn wsX6_work (va_wsS RX6 32 yX6_in wsX6_in) := goodIn_app (goodIn_of _ (by decide +kernel)) ggX6_work_X6_in
set_option maxRecDepth 20000 in
theorem ggX6_work_X5_hands : GoodIn wsX6_work wsX5_hands := goodIn_r _ [21, 22, 23, 26, 27, 28, 29, 30, 31, 32, 33, 34, 35, 36, 37, 38, 39] (by decide +kernel) (by decide +kernel)
set_option maxRecDepth 20000 in
theorem gX6_work_X5_hands : GoodIn wsX6_work (wsV RX6 85 RX5 yX5_hands wsX5_hands) := goodIn_app (goodIn_of _ (by decide +kernel)) ggX6_work_X5_hands
theorem dX6_work_0 : decode cX6_work 0 = .ok (.aload_n 0, 1) := by decide +kernel
theorem dX6_work_1 : decode cX6_work 1 = .ok (.iconst 0, 1) := by decide +kernel
theorem dX6_work_2 : decode cX6_work 2 = .ok (.putfield 16, 3) := by decide +kernel
theorem dX6_work_5 : decode cX6_work 5 = .ok (.aload_n 0, 1) := by decide +kernel
theorem dX6_work_6 : decode cX6_work 6 = .ok (.iload_n 1, 1) := by decide +kernel
theorem dX6_work_7 : decode cX6_work 7 = .ok (.invokevirtual 82, 3) := by decide +kernel
theorem dX6_work_10 : decode cX6_work 10 = .ok (.ifCond .ne 9, 3) := by decide +kernel
theorem dX6_work_13 : decode cX6_work 13 = .ok (.aload_n 0, 1) := by decide +kernel
theorem dX6_work_14 : decode cX6_work 14 = .ok (.iconst 1, 1) := by decide +kernel
theorem dX6_work_15 : decode cX6_work 15 = .ok (.invokevirtual 42, 3) := by decide +kernel
theorem dX6_work_18 : decode cX6_work 18 = .ok (.ireturn, 1) := by decide +kernel
theorem dX6_work_19 : decode cX6_work 19 = .ok (.iload_n 2, 1) := by decide +kernel
theorem dX6_work_20 : decode cX6_work 20 = .ok (.iconst 0, 1) := by decide +kernel
theorem dX6_work_21 : decode cX6_work 21 = .ok (.bipush 9, 2) := by decide +kernel
theorem dX6_work_23 : decode cX6_work 23 = .ok (.invokestatic 32, 3) := by decide +kernel
theorem dX6_work_26 : decode cX6_work 26 = .ok (.ifCond .ne 9, 3) := by decide +kernel
theorem dX6_work_29 : decode cX6_work 29 = .ok (.aload_n 0, 1) := by decide +kernel
theorem dX6_work_30 : decode cX6_work 30 = .ok (.iconst 2, 1) := by decide +kernel
theorem dX6_work_31 : decode cX6_work 31 = .ok (.invokevirtual 42, 3) := by decide +kernel
theorem dX6_work_34 : decode cX6_work 34 = .ok (.ireturn, 1) := by decide +kernel
theorem dX6_work_35 : decode cX6_work 35 = .ok (.aload_n 0, 1) := by decide +kernel
theorem dX6_work_36 : decode cX6_work 36 = .ok (.getfield 10, 3) := by decide +kernel
theorem dX6_work_39 : decode cX6_work 39 = .ok (.getfield 60, 3) := by decide +kernel
theorem dX6_work_42 : decode cX6_work 42 = .ok (.iload_n 1, 1) := by decide +kernel
theorem dX6_work_43 : decode cX6_work 43 = .ok (.aaload, 1) := by decide +kernel
theorem dX6_work_44 : decode cX6_work 44 = .ok (.astore_n 3, 1) := by decide +kernel
theorem dX6_work_45 : decode cX6_work 45 = .ok (.aload_n 0, 1) := by decide +kernel
theorem dX6_work_46 : decode cX6_work 46 = .ok (.getfield 10, 3) := by decide +kernel
theorem dX6_work_49 : decode cX6_work 49 = .ok (.invokevirtual 85, 3) := by decide +kernel
theorem dX6_work_52 : decode cX6_work 52 = .ok (.aload_n 3, 1) := by decide +kernel
theorem dX6_work_53 : decode cX6_work 53 = .ok (.iconst 4, 1) := by decide +kernel
theorem dX6_work_54 : decode cX6_work 54 = .ok (.iaload, 1) := by decide +kernel
theorem dX6_work_55 : decode cX6_work 55 = .ok (.isub, 1) := by decide +kernel
theorem dX6_work_56 : decode cX6_work 56 = .ok (.iload_n 2, 1) := by decide +kernel
theorem dX6_work_57 : decode cX6_work 57 = .ok (.iadd, 1) := by decide +kernel
theorem dX6_work_58 : decode cX6_work 58 = .ok (.istore 4, 2) := by decide +kernel
theorem dX6_work_60 : decode cX6_work 60 = .ok (.aload_n 3, 1) := by decide +kernel
theorem dX6_work_61 : decode cX6_work 61 = .ok (.iconst 2, 1) := by decide +kernel
theorem dX6_work_62 : decode cX6_work 62 = .ok (.iaload, 1) := by decide +kernel
theorem dX6_work_63 : decode cX6_work 63 = .ok (.bipush 6, 2) := by decide +kernel
theorem dX6_work_65 : decode cX6_work 65 = .ok (.if_icmp .eq 19, 3) := by decide +kernel
theorem dX6_work_68 : decode cX6_work 68 = .ok (.aload_n 3, 1) := by decide +kernel
theorem dX6_work_69 : decode cX6_work 69 = .ok (.bipush 7, 2) := by decide +kernel
theorem dX6_work_71 : decode cX6_work 71 = .ok (.iaload, 1) := by decide +kernel
theorem dX6_work_72 : decode cX6_work 72 = .ok (.bipush 7, 2) := by decide +kernel
theorem dX6_work_74 : decode cX6_work 74 = .ok (.if_icmp .eq 10, 3) := by decide +kernel
theorem dX6_work_77 : decode cX6_work 77 = .ok (.iload 4, 2) := by decide +kernel
theorem dX6_work_79 : decode cX6_work 79 = .ok (.bipush 12, 2) := by decide +kernel
theorem dX6_work_81 : decode cX6_work 81 = .ok (.if_icmp .le 9, 3) := by decide +kernel
theorem dX6_work_84 : decode cX6_work 84 = .ok (.aload_n 0, 1) := by decide +kernel
theorem dX6_work_85 : decode cX6_work 85 = .ok (.iconst 3, 1) := by decide +kernel
theorem dX6_work_86 : decode cX6_work 86 = .ok (.invokevirtual 42, 3) := by decide +kernel
theorem dX6_work_89 : decode cX6_work 89 = .ok (.ireturn, 1) := by decide +kernel
theorem dX6_work_90 : decode cX6_work 90 = .ok (.aload_n 3, 1) := by decide +kernel
theorem dX6_work_91 : decode cX6_work 91 = .ok (.iconst 4, 1) := by decide +kernel
theorem dX6_work_92 : decode cX6_work 92 = .ok (.iload_n 2, 1) := by decide +kernel
theorem dX6_work_93 : decode cX6_work 93 = .ok (.iastore, 1) := by decide +kernel
theorem dX6_work_94 : decode cX6_work 94 = .ok (.iload 4, 2) := by decide +kernel
theorem dX6_work_96 : decode cX6_work 96 = .ok (.ireturn, 1) := by decide +kernel
set_option maxRecDepth 20000 in
theorem ggX6_isAtHand_X5_isDone : GoodIn wsX6_isAtHand wsX5_isDone := goodIn_r _ [6] (by decide +kernel) (by decide +kernel)
set_option maxRecDepth 20000 in
theorem gX6_isAtHand_X5_isDone : GoodIn wsX6_isAtHand (wsV RX6 89 RX5 yX5_isDone wsX5_isDone) := goodIn_app (goodIn_of _ (by decide +kernel)) ggX6_isAtHand_X5_isDone
theorem dX6_isAtHand_0 : decode cX6_isAtHand 0 = .ok (.aload_n 0, 1) := by decide +kernel
theorem dX6_isAtHand_1 : decode cX6_isAtHand 1 = .ok (.getfield 10, 3) := by decide +kernel
theorem dX6_isAtHand_4 : decode cX6_isAtHand 4 = .ok (.aload_n 1, 1) := by decide +kernel
theorem dX6_isAtHand_5 : decode cX6_isAtHand 5 = .ok (.invokevirtual 89, 3) := by decide +kernel
theorem dX6_isAtHand_8 : decode cX6_isAtHand 8 = .ok (.ifCond .eq 15, 3) := by decide +kernel
theorem dX6_isAtHand_11 : decode cX6_isAtHand 11 = .ok (.aload_n 1, 1) := by decide +kernel
theorem dX6_isAtHand_12 : decode cX6_isAtHand 12 = .ok (.bipush 7, 2) := by decide +kernel
theorem dX6_isAtHand_14 : decode cX6_isAtHand 14 = .ok (.iaload, 1) := by decide +kernel
theorem dX6_isAtHand_15 : decode cX6_isAtHand 15 = .ok (.iconst 5, 1) := by decide +kernel
theorem dX6_isAtHand_16 : decode cX6_isAtHand 16 = .ok (.if_icmp .ne 7, 3) := by decide +kernel
theorem dX6_isAtHand_19 : decode cX6_isAtHand 19 = .ok (.iconst 1, 1) := by decide +kernel
theorem dX6_isAtHand_20 : decode cX6_isAtHand 20 = .ok (.goto 4, 3) := by decide +kernel
theorem dX6_isAtHand_23 : decode cX6_isAtHand 23 = .ok (.iconst 0, 1) := by decide +kernel
theorem dX6_isAtHand_24 : decode cX6_isAtHand 24 = .ok (.ireturn, 1) := by decide +kernel
set_option maxRecDepth 20000 in
theorem ggX6_swap_X6_isFigure : GoodIn wsX6_swap wsX6_isFigure := goodIn_r _ [8, 2, 9, 10, 11, 7, 12, 44, 45, 46, 47, 48, 49, 50, 51, 52, 53, 54, 55, 56, 57, 58, 59] (by decide +kernel) (by decide +kernel)
set_option maxRecDepth 20000 in
theorem gX6_swap_X6_isFigure : GoodIn wsX6_swap (wsV RX6 82 RX6 yX6_isFigure wsX6_isFigure) := goodIn_app (goodIn_of _ (by decide +kernel)) ggX6_swap_X6_isFigure
set_option maxRecDepth 20000 in
theorem ggX6_swap_X6_no : GoodIn wsX6_swap wsX6_no := goodIn_r _ [16, 1, 44, 45] (by decide +kernel) (by decide +kernel)
set_option maxRecDepth 20000 in
theorem gX6_swap_X6_no : GoodIn wsX6_swap (wsV RX6 42 RX6 yX6_no wsX6_no) := goodIn_app (goodIn_of _ (by decide +kernel)) ggX6_swap_X6_no
set_option maxRecDepth 20000 in
theorem ggX6_swap_X6_isAtHand : GoodIn wsX6_swap wsX6_isAtHand := goodIn_r _ [20, 2, 21, 22, 23, 24, 25, 44, 45] (by decide +kernel) (by decide +kernel)
set_option maxRecDepth 20000 in
theorem gX6_swap_X6_isAtHand : GoodIn wsX6_swap (wsV RX6 92 RX6 yX6_isAtHand wsX6_isAtHand) := goodIn_app (goodIn_of _ (by decide +kernel)) ggX6_swap_X6_isAtHand
set_option maxRecDepth 20000 in
theorem ggX6_swap_X5_likeness : GoodIn wsX6_swap wsX5_likeness := goodIn_r _ [29, 30, 31, 32, 33, 34, 35, 36, 37, 22, 23, 24, 25, 38, 39, 40, 41, 42, 43, 46, 47, 48, 49, 50, 51, 52, 53, 54, 55, 56, 57, 58, 59] (by decide +kernel) (by decide +kernel)
set_option maxRecDepth 20000 in
theorem gX6_swap_X5_likeness : GoodIn wsX6_swap (wsV RX6 95 RX5 yX5_likeness wsX5_likeness) := goodIn_app (goodIn_of _ (by decide +kernel)) ggX6_swap_X5_likeness
theorem dX6_swap_0 : decode cX6_swap 0 = .ok (.aload_n 0, 1) := by decide +kernel
theorem dX6_swap_1 : decode cX6_swap 1 = .ok (.iconst 0, 1) := by decide +kernel
theorem dX6_swap_2 : decode cX6_swap 2 = .ok (.putfield 16, 3) := by decide +kernel
theorem dX6_swap_5 : decode cX6_swap 5 = .ok (.aload_n 0, 1) := by decide +kernel
theorem dX6_swap_6 : decode cX6_swap 6 = .ok (.iload_n 1, 1) := by decide +kernel
theorem dX6_swap_7 : decode cX6_swap 7 = .ok (.invokevirtual 82, 3) := by decide +kernel
theorem dX6_swap_10 : decode cX6_swap 10 = .ok (.ifCond .eq 11, 3) := by decide +kernel
theorem dX6_swap_13 : decode cX6_swap 13 = .ok (.aload_n 0, 1) := by decide +kernel
theorem dX6_swap_14 : decode cX6_swap 14 = .ok (.iload_n 2, 1) := by decide +kernel
theorem dX6_swap_15 : decode cX6_swap 15 = .ok (.invokevirtual 82, 3) := by decide +kernel
theorem dX6_swap_18 : decode cX6_swap 18 = .ok (.ifCond .ne 9, 3) := by decide +kernel
theorem dX6_swap_21 : decode cX6_swap 21 = .ok (.aload_n 0, 1) := by decide +kernel
theorem dX6_swap_22 : decode cX6_swap 22 = .ok (.iconst 1, 1) := by decide +kernel
theorem dX6_swap_23 : decode cX6_swap 23 = .ok (.invokevirtual 42, 3) := by decide +kernel
theorem dX6_swap_26 : decode cX6_swap 26 = .ok (.ireturn, 1) := by decide +kernel
theorem dX6_swap_27 : decode cX6_swap 27 = .ok (.iload_n 1, 1) := by decide +kernel
theorem dX6_swap_28 : decode cX6_swap 28 = .ok (.iload_n 2, 1) := by decide +kernel
theorem dX6_swap_29 : decode cX6_swap 29 = .ok (.if_icmp .ne 9, 3) := by decide +kernel
theorem dX6_swap_32 : decode cX6_swap 32 = .ok (.aload_n 0, 1) := by decide +kernel
theorem dX6_swap_33 : decode cX6_swap 33 = .ok (.iconst 2, 1) := by decide +kernel
theorem dX6_swap_34 : decode cX6_swap 34 = .ok (.invokevirtual 42, 3) := by decide +kernel
theorem dX6_swap_37 : decode cX6_swap 37 = .ok (.ireturn, 1) := by decide +kernel
theorem dX6_swap_38 : decode cX6_swap 38 = .ok (.aload_n 0, 1) := by decide +kernel
theorem dX6_swap_39 : decode cX6_swap 39 = .ok (.getfield 10, 3) := by decide +kernel
theorem dX6_swap_42 : decode cX6_swap 42 = .ok (.getfield 60, 3) := by decide +kernel
theorem dX6_swap_45 : decode cX6_swap 45 = .ok (.iload_n 1, 1) := by decide +kernel
theorem dX6_swap_46 : decode cX6_swap 46 = .ok (.aaload, 1) := by decide +kernel
theorem dX6_swap_47 : decode cX6_swap 47 = .ok (.astore_n 3, 1) := by decide +kernel
theorem dX6_swap_48 : decode cX6_swap 48 = .ok (.aload_n 0, 1) := by decide +kernel
theorem dX6_swap_49 : decode cX6_swap 49 = .ok (.getfield 10, 3) := by decide +kernel
theorem dX6_swap_52 : decode cX6_swap 52 = .ok (.getfield 60, 3) := by decide +kernel
theorem dX6_swap_55 : decode cX6_swap 55 = .ok (.iload_n 2, 1) := by decide +kernel
theorem dX6_swap_56 : decode cX6_swap 56 = .ok (.aaload, 1) := by decide +kernel
theorem dX6_swap_57 : decode cX6_swap 57 = .ok (.astore 4, 2) := by decide +kernel
theorem dX6_swap_59 : decode cX6_swap 59 = .ok (.aload_n 0, 1) := by decide +kernel
theorem dX6_swap_60 : decode cX6_swap 60 = .ok (.aload_n 3, 1) := by decide +kernel
theorem dX6_swap_61 : decode cX6_swap 61 = .ok (.invokevirtual 92, 3) := by decide +kernel
theorem dX6_swap_64 : decode cX6_swap 64 = .ok (.ifCond .eq 12, 3) := by decide +kernel
theorem dX6_swap_67 : decode cX6_swap 67 = .ok (.aload_n 0, 1) := by decide +kernel
theorem dX6_swap_68 : decode cX6_swap 68 = .ok (.aload 4, 2) := by decide +kernel
theorem dX6_swap_70 : decode cX6_swap 70 = .ok (.invokevirtual 92, 3) := by decide +kernel
theorem dX6_swap_73 : decode cX6_swap 73 = .ok (.ifCond .ne 9, 3) := by decide +kernel
theorem dX6_swap_76 : decode cX6_swap 76 = .ok (.aload_n 0, 1) := by decide +kernel
theorem dX6_swap_77 : decode cX6_swap 77 = .ok (.iconst 3, 1) := by decide +kernel
theorem dX6_swap_78 : decode cX6_swap 78 = .ok (.invokevirtual 42, 3) := by decide +kernel
theorem dX6_swap_81 : decode cX6_swap 81 = .ok (.ireturn, 1) := by decide +kernel
theorem dX6_swap_82 : decode cX6_swap 82 = .ok (.aload_n 3, 1) := by decide +kernel
theorem dX6_swap_83 : decode cX6_swap 83 = .ok (.iconst 0, 1) := by decide +kernel
theorem dX6_swap_84 : decode cX6_swap 84 = .ok (.iaload, 1) := by decide +kernel
theorem dX6_swap_85 : decode cX6_swap 85 = .ok (.istore 5, 2) := by decide +kernel
theorem dX6_swap_87 : decode cX6_swap 87 = .ok (.aload_n 3, 1) := by decide +kernel
theorem dX6_swap_88 : decode cX6_swap 88 = .ok (.iconst 5, 1) := by decide +kernel
theorem dX6_swap_89 : decode cX6_swap 89 = .ok (.iaload, 1) := by decide +kernel
theorem dX6_swap_90 : decode cX6_swap 90 = .ok (.istore 6, 2) := by decide +kernel
theorem dX6_swap_92 : decode cX6_swap 92 = .ok (.aload_n 3, 1) := by decide +kernel
theorem dX6_swap_93 : decode cX6_swap 93 = .ok (.iconst 0, 1) := by decide +kernel
theorem dX6_swap_94 : decode cX6_swap 94 = .ok (.aload 4, 2) := by decide +kernel
theorem dX6_swap_96 : decode cX6_swap 96 = .ok (.iconst 0, 1) := by decide +kernel
theorem dX6_swap_97 : decode cX6_swap 97 = .ok (.iaload, 1) := by decide +kernel
theorem dX6_swap_98 : decode cX6_swap 98 = .ok (.iastore, 1) := by decide +kernel
theorem dX6_swap_99 : decode cX6_swap 99 = .ok (.aload_n 3, 1) := by decide +kernel
theorem dX6_swap_100 : decode cX6_swap 100 = .ok (.iconst 5, 1) := by decide +kernel
theorem dX6_swap_101 : decode cX6_swap 101 = .ok (.aload 4, 2) := by decide +kernel
theorem dX6_swap_103 : decode cX6_swap 103 = .ok (.iconst 5, 1) := by decide +kernel
theorem dX6_swap_104 : decode cX6_swap 104 = .ok (.iaload, 1) := by decide +kernel
theorem dX6_swap_105 : decode cX6_swap 105 = .ok (.iastore, 1) := by decide +kernel
theorem dX6_swap_106 : decode cX6_swap 106 = .ok (.aload 4, 2) := by decide +kernel
theorem dX6_swap_108 : decode cX6_swap 108 = .ok (.iconst 0, 1) := by decide +kernel
theorem dX6_swap_109 : decode cX6_swap 109 = .ok (.iload 5, 2) := by decide +kernel
theorem dX6_swap_111 : decode cX6_swap 111 = .ok (.iastore, 1) := by decide +kernel
theorem dX6_swap_112 : decode cX6_swap 112 = .ok (.aload 4, 2) := by decide +kernel
theorem dX6_swap_114 : decode cX6_swap 114 = .ok (.iconst 5, 1) := by decide +kernel
theorem dX6_swap_115 : decode cX6_swap 115 = .ok (.iload 6, 2) := by decide +kernel
theorem dX6_swap_117 : decode cX6_swap 117 = .ok (.iastore, 1) := by decide +kernel
theorem dX6_swap_118 : decode cX6_swap 118 = .ok (.aload_n 0, 1) := by decide +kernel
theorem dX6_swap_119 : decode cX6_swap 119 = .ok (.getfield 10, 3) := by decide +kernel
theorem dX6_swap_122 : decode cX6_swap 122 = .ok (.aload_n 3, 1) := by decide +kernel
theorem dX6_swap_123 : decode cX6_swap 123 = .ok (.invokevirtual 95, 3) := by decide +kernel
theorem dX6_swap_126 : decode cX6_swap 126 = .ok (.ireturn, 1) := by decide +kernel
set_option maxRecDepth 20000 in
theorem ggX6_mend_X6_isFigure : GoodIn wsX6_mend wsX6_isFigure := goodIn_r _ [13, 2, 14, 15, 16, 12, 17, 31, 32, 33, 34, 35, 36, 37, 38, 39, 40, 41, 42, 43, 44, 45, 46] (by decide +kernel) (by decide +kernel)
set_option maxRecDepth 20000 in
theorem gX6_mend_X6_isFigure : GoodIn wsX6_mend (wsV RX6 82 RX6 yX6_isFigure wsX6_isFigure) := goodIn_app (goodIn_of _ (by decide +kernel)) ggX6_mend_X6_isFigure
set_option maxRecDepth 20000 in
theorem ggX6_mend_X6_no : GoodIn wsX6_mend wsX6_no := goodIn_r _ [21, 1, 31, 32] (by decide +kernel) (by decide +kernel)
set_option maxRecDepth 20000 in
theorem gX6_mend_X6_no : GoodIn wsX6_mend (wsV RX6 42 RX6 yX6_no wsX6_no) := goodIn_app (goodIn_of _ (by decide +kernel)) ggX6_mend_X6_no
set_option maxRecDepth 20000 in
theorem ggX6_mend_X6_isAtHand : GoodIn wsX6_mend wsX6_isAtHand := goodIn_r _ [25, 2, 26, 27, 28, 29, 30, 31, 32] (by decide +kernel) (by decide +kernel)
set_option maxRecDepth 20000 in
theorem gX6_mend_X6_isAtHand : GoodIn wsX6_mend (wsV RX6 92 RX6 yX6_isAtHand wsX6_isAtHand) := goodIn_app (goodIn_of _ (by decide +kernel)) ggX6_mend_X6_isAtHand
theorem dX6_mend_0 : decode cX6_mend 0 = .ok (.aload_n 0, 1) := by decide +kernel
theorem dX6_mend_1 : decode cX6_mend 1 = .ok (.iconst 0, 1) := by decide +kernel
theorem dX6_mend_2 : decode cX6_mend 2 = .ok (.putfield 16, 3) := by decide +kernel
theorem dX6_mend_5 : decode cX6_mend 5 = .ok (.aload_n 0, 1) := by decide +kernel
theorem dX6_mend_6 : decode cX6_mend 6 = .ok (.iload_n 1, 1) := by decide +kernel
theorem dX6_mend_7 : decode cX6_mend 7 = .ok (.invokevirtual 82, 3) := by decide +kernel
theorem dX6_mend_10 : decode cX6_mend 10 = .ok (.ifCond .ne 9, 3) := by decide +kernel
theorem dX6_mend_13 : decode cX6_mend 13 = .ok (.aload_n 0, 1) := by decide +kernel
theorem dX6_mend_14 : decode cX6_mend 14 = .ok (.iconst 1, 1) := by decide +kernel
theorem dX6_mend_15 : decode cX6_mend 15 = .ok (.invokevirtual 42, 3) := by decide +kernel
theorem dX6_mend_18 : decode cX6_mend 18 = .ok (.ireturn, 1) := by decide +kernel
theorem dX6_mend_19 : decode cX6_mend 19 = .ok (.aload_n 0, 1) := by decide +kernel
theorem dX6_mend_20 : decode cX6_mend 20 = .ok (.getfield 10, 3) := by decide +kernel
theorem dX6_mend_23 : decode cX6_mend 23 = .ok (.getfield 60, 3) := by decide +kernel
theorem dX6_mend_26 : decode cX6_mend 26 = .ok (.iload_n 1, 1) := by decide +kernel
theorem dX6_mend_27 : decode cX6_mend 27 = .ok (.aaload, 1) := by decide +kernel
theorem dX6_mend_28 : decode cX6_mend 28 = .ok (.astore_n 2, 1) := by decide +kernel
theorem dX6_mend_29 : decode cX6_mend 29 = .ok (.aload_n 0, 1) := by decide +kernel
theorem dX6_mend_30 : decode cX6_mend 30 = .ok (.aload_n 2, 1) := by decide +kernel
theorem dX6_mend_31 : decode cX6_mend 31 = .ok (.invokevirtual 92, 3) := by decide +kernel
theorem dX6_mend_34 : decode cX6_mend 34 = .ok (.ifCond .ne 9, 3) := by decide +kernel
theorem dX6_mend_37 : decode cX6_mend 37 = .ok (.aload_n 0, 1) := by decide +kernel
theorem dX6_mend_38 : decode cX6_mend 38 = .ok (.iconst 2, 1) := by decide +kernel
theorem dX6_mend_39 : decode cX6_mend 39 = .ok (.invokevirtual 42, 3) := by decide +kernel
theorem dX6_mend_42 : decode cX6_mend 42 = .ok (.ireturn, 1) := by decide +kernel
theorem dX6_mend_43 : decode cX6_mend 43 = .ok (.aload_n 2, 1) := by decide +kernel
theorem dX6_mend_44 : decode cX6_mend 44 = .ok (.bipush 6, 2) := by decide +kernel
theorem dX6_mend_46 : decode cX6_mend 46 = .ok (.iaload, 1) := by decide +kernel
theorem dX6_mend_47 : decode cX6_mend 47 = .ok (.bipush 10, 2) := by decide +kernel
theorem dX6_mend_49 : decode cX6_mend 49 = .ok (.idiv, 1) := by decide +kernel
theorem dX6_mend_50 : decode cX6_mend 50 = .ok (.aload_n 0, 1) := by decide +kernel
theorem dX6_mend_51 : decode cX6_mend 51 = .ok (.getfield 10, 3) := by decide +kernel
theorem dX6_mend_54 : decode cX6_mend 54 = .ok (.getfield 99, 3) := by decide +kernel
theorem dX6_mend_57 : decode cX6_mend 57 = .ok (.bipush 10, 2) := by decide +kernel
theorem dX6_mend_59 : decode cX6_mend 59 = .ok (.idiv, 1) := by decide +kernel
theorem dX6_mend_60 : decode cX6_mend 60 = .ok (.invokestatic 20, 3) := by decide +kernel
theorem dX6_mend_63 : decode cX6_mend 63 = .ok (.istore_n 3, 1) := by decide +kernel
theorem dX6_mend_64 : decode cX6_mend 64 = .ok (.aload_n 2, 1) := by decide +kernel
theorem dX6_mend_65 : decode cX6_mend 65 = .ok (.bipush 6, 2) := by decide +kernel
theorem dX6_mend_67 : decode cX6_mend 67 = .ok (.dup2, 1) := by decide +kernel
theorem dX6_mend_68 : decode cX6_mend 68 = .ok (.iaload, 1) := by decide +kernel
theorem dX6_mend_69 : decode cX6_mend 69 = .ok (.bipush 10, 2) := by decide +kernel
theorem dX6_mend_71 : decode cX6_mend 71 = .ok (.iload_n 3, 1) := by decide +kernel
theorem dX6_mend_72 : decode cX6_mend 72 = .ok (.imul, 1) := by decide +kernel
theorem dX6_mend_73 : decode cX6_mend 73 = .ok (.isub, 1) := by decide +kernel
theorem dX6_mend_74 : decode cX6_mend 74 = .ok (.iastore, 1) := by decide +kernel
theorem dX6_mend_75 : decode cX6_mend 75 = .ok (.aload_n 0, 1) := by decide +kernel
theorem dX6_mend_76 : decode cX6_mend 76 = .ok (.getfield 10, 3) := by decide +kernel
theorem dX6_mend_79 : decode cX6_mend 79 = .ok (.dup, 1) := by decide +kernel
theorem dX6_mend_80 : decode cX6_mend 80 = .ok (.getfield 99, 3) := by decide +kernel
theorem dX6_mend_83 : decode cX6_mend 83 = .ok (.bipush 10, 2) := by decide +kernel
theorem dX6_mend_85 : decode cX6_mend 85 = .ok (.iload_n 3, 1) := by decide +kernel
theorem dX6_mend_86 : decode cX6_mend 86 = .ok (.imul, 1) := by decide +kernel
theorem dX6_mend_87 : decode cX6_mend 87 = .ok (.isub, 1) := by decide +kernel
theorem dX6_mend_88 : decode cX6_mend 88 = .ok (.putfield 99, 3) := by decide +kernel
theorem dX6_mend_91 : decode cX6_mend 91 = .ok (.aload_n 2, 1) := by decide +kernel
theorem dX6_mend_92 : decode cX6_mend 92 = .ok (.bipush 6, 2) := by decide +kernel
theorem dX6_mend_94 : decode cX6_mend 94 = .ok (.iaload, 1) := by decide +kernel
theorem dX6_mend_95 : decode cX6_mend 95 = .ok (.ireturn, 1) := by decide +kernel
set_option maxRecDepth 20000 in
theorem ggX6_melt_X6_isFigure : GoodIn wsX6_melt wsX6_isFigure := goodIn_r _ [9, 2, 10, 11, 12, 8, 13, 18, 19, 20, 21, 22, 23, 24, 25, 26, 27, 28, 29, 30, 31, 32, 33] (by decide +kernel) (by decide +kernel)
set_option maxRecDepth 20000 in
theorem gX6_melt_X6_isFigure : GoodIn wsX6_melt (wsV RX6 82 RX6 yX6_isFigure wsX6_isFigure) := goodIn_app (goodIn_of _ (by decide +kernel)) ggX6_melt_X6_isFigure
set_option maxRecDepth 20000 in
theorem ggX6_melt_X6_no : GoodIn wsX6_melt wsX6_no := goodIn_r _ [17, 1, 18, 19] (by decide +kernel) (by decide +kernel)
set_option maxRecDepth 20000 in
theorem gX6_melt_X6_no : GoodIn wsX6_melt (wsV RX6 42 RX6 yX6_no wsX6_no) := goodIn_app (goodIn_of _ (by decide +kernel)) ggX6_melt_X6_no
theorem dX6_melt_0 : decode cX6_melt 0 = .ok (.aload_n 0, 1) := by decide +kernel
theorem dX6_melt_1 : decode cX6_melt 1 = .ok (.iconst 0, 1) := by decide +kernel
theorem dX6_melt_2 : decode cX6_melt 2 = .ok (.putfield 16, 3) := by decide +kernel
theorem dX6_melt_5 : decode cX6_melt 5 = .ok (.aload_n 0, 1) := by decide +kernel
theorem dX6_melt_6 : decode cX6_melt 6 = .ok (.iload_n 1, 1) := by decide +kernel
theorem dX6_melt_7 : decode cX6_melt 7 = .ok (.invokevirtual 82, 3) := by decide +kernel
theorem dX6_melt_10 : decode cX6_melt 10 = .ok (.ifCond .ne 9, 3) := by decide +kernel
theorem dX6_melt_13 : decode cX6_melt 13 = .ok (.aload_n 0, 1) := by decide +kernel
theorem dX6_melt_14 : decode cX6_melt 14 = .ok (.iconst 1, 1) := by decide +kernel
theorem dX6_melt_15 : decode cX6_melt 15 = .ok (.invokevirtual 42, 3) := by decide +kernel
theorem dX6_melt_18 : decode cX6_melt 18 = .ok (.ireturn, 1) := by decide +kernel
theorem dX6_melt_19 : decode cX6_melt 19 = .ok (.aload_n 0, 1) := by decide +kernel
theorem dX6_melt_20 : decode cX6_melt 20 = .ok (.getfield 10, 3) := by decide +kernel
theorem dX6_melt_23 : decode cX6_melt 23 = .ok (.getfield 60, 3) := by decide +kernel
theorem dX6_melt_26 : decode cX6_melt 26 = .ok (.iload_n 1, 1) := by decide +kernel
theorem dX6_melt_27 : decode cX6_melt 27 = .ok (.aaload, 1) := by decide +kernel
theorem dX6_melt_28 : decode cX6_melt 28 = .ok (.astore_n 2, 1) := by decide +kernel
theorem dX6_melt_29 : decode cX6_melt 29 = .ok (.aload_n 2, 1) := by decide +kernel
theorem dX6_melt_30 : decode cX6_melt 30 = .ok (.bipush 7, 2) := by decide +kernel
theorem dX6_melt_32 : decode cX6_melt 32 = .ok (.iaload, 1) := by decide +kernel
theorem dX6_melt_33 : decode cX6_melt 33 = .ok (.iconst 5, 1) := by decide +kernel
theorem dX6_melt_34 : decode cX6_melt 34 = .ok (.if_icmp .eq 9, 3) := by decide +kernel
theorem dX6_melt_37 : decode cX6_melt 37 = .ok (.aload_n 0, 1) := by decide +kernel
theorem dX6_melt_38 : decode cX6_melt 38 = .ok (.iconst 2, 1) := by decide +kernel
theorem dX6_melt_39 : decode cX6_melt 39 = .ok (.invokevirtual 42, 3) := by decide +kernel
theorem dX6_melt_42 : decode cX6_melt 42 = .ok (.ireturn, 1) := by decide +kernel
theorem dX6_melt_43 : decode cX6_melt 43 = .ok (.aload_n 2, 1) := by decide +kernel
theorem dX6_melt_44 : decode cX6_melt 44 = .ok (.bipush 7, 2) := by decide +kernel
theorem dX6_melt_46 : decode cX6_melt 46 = .ok (.bipush 7, 2) := by decide +kernel
theorem dX6_melt_48 : decode cX6_melt 48 = .ok (.iastore, 1) := by decide +kernel
theorem dX6_melt_49 : decode cX6_melt 49 = .ok (.aload_n 2, 1) := by decide +kernel
theorem dX6_melt_50 : decode cX6_melt 50 = .ok (.iconst 4, 1) := by decide +kernel
theorem dX6_melt_51 : decode cX6_melt 51 = .ok (.iconst 0, 1) := by decide +kernel
theorem dX6_melt_52 : decode cX6_melt 52 = .ok (.iastore, 1) := by decide +kernel
theorem dX6_melt_53 : decode cX6_melt 53 = .ok (.aload_n 0, 1) := by decide +kernel
theorem dX6_melt_54 : decode cX6_melt 54 = .ok (.getfield 10, 3) := by decide +kernel
theorem dX6_melt_57 : decode cX6_melt 57 = .ok (.dup, 1) := by decide +kernel
theorem dX6_melt_58 : decode cX6_melt 58 = .ok (.getfield 99, 3) := by decide +kernel
theorem dX6_melt_61 : decode cX6_melt 61 = .ok (.aload_n 2, 1) := by decide +kernel
theorem dX6_melt_62 : decode cX6_melt 62 = .ok (.iconst 2, 1) := by decide +kernel
theorem dX6_melt_63 : decode cX6_melt 63 = .ok (.iaload, 1) := by decide +kernel
theorem dX6_melt_64 : decode cX6_melt 64 = .ok (.iconst 3, 1) := by decide +kernel
theorem dX6_melt_65 : decode cX6_melt 65 = .ok (.if_icmp .le 8, 3) := by decide +kernel
theorem dX6_melt_68 : decode cX6_melt 68 = .ok (.bipush 20, 2) := by decide +kernel
theorem dX6_melt_70 : decode cX6_melt 70 = .ok (.goto 4, 3) := by decide +kernel
theorem dX6_melt_73 : decode cX6_melt 73 = .ok (.iconst 0, 1) := by decide +kernel
theorem dX6_melt_74 : decode cX6_melt 74 = .ok (.iadd, 1) := by decide +kernel
theorem dX6_melt_75 : decode cX6_melt 75 = .ok (.putfield 99, 3) := by decide +kernel
theorem dX6_melt_78 : decode cX6_melt 78 = .ok (.aload_n 0, 1) := by decide +kernel
theorem dX6_melt_79 : decode cX6_melt 79 = .ok (.getfield 10, 3) := by decide +kernel
theorem dX6_melt_82 : decode cX6_melt 82 = .ok (.getfield 99, 3) := by decide +kernel
theorem dX6_melt_85 : decode cX6_melt 85 = .ok (.ireturn, 1) := by decide +kernel
set_option maxRecDepth 20000 in
theorem ggX6_tour_X6_isFigure : GoodIn wsX6_tour wsX6_isFigure := goodIn_r _ [9, 2, 10, 11, 12, 8, 13, 45, 46, 47, 48, 49, 50, 51, 52, 53, 54, 55, 56, 57, 58, 59, 60] (by decide +kernel) (by decide +kernel)
set_option maxRecDepth 20000 in
theorem gX6_tour_X6_isFigure : GoodIn wsX6_tour (wsV RX6 82 RX6 yX6_isFigure wsX6_isFigure) := goodIn_app (goodIn_of _ (by decide +kernel)) ggX6_tour_X6_isFigure
set_option maxRecDepth 20000 in
theorem ggX6_tour_X6_no : GoodIn wsX6_tour wsX6_no := goodIn_r _ [17, 1, 45, 46] (by decide +kernel) (by decide +kernel)
set_option maxRecDepth 20000 in
theorem gX6_tour_X6_no : GoodIn wsX6_tour (wsV RX6 42 RX6 yX6_no wsX6_no) := goodIn_app (goodIn_of _ (by decide +kernel)) ggX6_tour_X6_no
set_option maxRecDepth 20000 in
theorem ggX6_tour_X6_in : GoodIn wsX6_tour wsX6_in := goodIn_r _ [13] (by decide +kernel) (by decide +kernel)
set_option maxRecDepth 20000 in
theorem gX6_tour_X6_in : GoodIn wsX6_tour (va_wsS RX6 32 yX6_in wsX6_in) := goodIn_app (goodIn_of _ (by decide +kernel)) ggX6_tour_X6_in
set_option maxRecDepth 20000 in
theorem ggX6_tour_X6_isAtHand : GoodIn wsX6_tour wsX6_isAtHand := goodIn_r _ [21, 2, 22, 23, 24, 25, 26, 45, 46] (by decide +kernel) (by decide +kernel)
set_option maxRecDepth 20000 in
theorem gX6_tour_X6_isAtHand : GoodIn wsX6_tour (wsV RX6 92 RX6 yX6_isAtHand wsX6_isAtHand) := goodIn_app (goodIn_of _ (by decide +kernel)) ggX6_tour_X6_isAtHand
set_option maxRecDepth 20000 in
theorem ggX6_tour_X5_likeness : GoodIn wsX6_tour wsX5_likeness := goodIn_r _ [30, 31, 32, 33, 34, 35, 36, 37, 38, 23, 24, 25, 26, 39, 40, 41, 42, 43, 44, 47, 48, 49, 50, 51, 52, 53, 54, 55, 56, 57, 58, 59, 60] (by decide +kernel) (by decide +kernel)
set_option maxRecDepth 20000 in
theorem gX6_tour_X5_likeness : GoodIn wsX6_tour (wsV RX6 95 RX5 yX5_likeness wsX5_likeness) := goodIn_app (goodIn_of _ (by decide +kernel)) ggX6_tour_X5_likeness
theorem dX6_tour_0 : decode cX6_tour 0 = .ok (.aload_n 0, 1) := by decide +kernel
theorem dX6_tour_1 : decode cX6_tour 1 = .ok (.iconst 0, 1) := by decide +kernel
theorem dX6_tour_2 : decode cX6_tour 2 = .ok (.putfield 16, 3) := by decide +kernel
theorem dX6_tour_5 : decode cX6_tour 5 = .ok (.aload_n 0, 1) := by decide +kernel
theorem dX6_tour_6 : decode cX6_tour 6 = .ok (.iload_n 1, 1) := by decide +kernel
theorem dX6_tour_7 : decode cX6_tour 7 = .ok (.invokevirtual 82, 3) := by decide +kernel
theorem dX6_tour_10 : decode cX6_tour 10 = .ok (.ifCond .ne 9, 3) := by decide +kernel
theorem dX6_tour_13 : decode cX6_tour 13 = .ok (.aload_n 0, 1) := by decide +kernel
theorem dX6_tour_14 : decode cX6_tour 14 = .ok (.iconst 1, 1) := by decide +kernel
theorem dX6_tour_15 : decode cX6_tour 15 = .ok (.invokevirtual 42, 3) := by decide +kernel
theorem dX6_tour_18 : decode cX6_tour 18 = .ok (.ireturn, 1) := by decide +kernel
theorem dX6_tour_19 : decode cX6_tour 19 = .ok (.iload_n 2, 1) := by decide +kernel
theorem dX6_tour_20 : decode cX6_tour 20 = .ok (.iconst 1, 1) := by decide +kernel
theorem dX6_tour_21 : decode cX6_tour 21 = .ok (.iconst 2, 1) := by decide +kernel
theorem dX6_tour_22 : decode cX6_tour 22 = .ok (.invokestatic 32, 3) := by decide +kernel
theorem dX6_tour_25 : decode cX6_tour 25 = .ok (.ifCond .eq 13, 3) := by decide +kernel
theorem dX6_tour_28 : decode cX6_tour 28 = .ok (.iload_n 3, 1) := by decide +kernel
theorem dX6_tour_29 : decode cX6_tour 29 = .ok (.iconst 1, 1) := by decide +kernel
theorem dX6_tour_30 : decode cX6_tour 30 = .ok (.bipush 60, 2) := by decide +kernel
theorem dX6_tour_32 : decode cX6_tour 32 = .ok (.invokestatic 32, 3) := by decide +kernel
theorem dX6_tour_35 : decode cX6_tour 35 = .ok (.ifCond .ne 9, 3) := by decide +kernel
theorem dX6_tour_38 : decode cX6_tour 38 = .ok (.aload_n 0, 1) := by decide +kernel
theorem dX6_tour_39 : decode cX6_tour 39 = .ok (.iconst 2, 1) := by decide +kernel
theorem dX6_tour_40 : decode cX6_tour 40 = .ok (.invokevirtual 42, 3) := by decide +kernel
theorem dX6_tour_43 : decode cX6_tour 43 = .ok (.ireturn, 1) := by decide +kernel
theorem dX6_tour_44 : decode cX6_tour 44 = .ok (.aload_n 0, 1) := by decide +kernel
theorem dX6_tour_45 : decode cX6_tour 45 = .ok (.getfield 10, 3) := by decide +kernel
theorem dX6_tour_48 : decode cX6_tour 48 = .ok (.getfield 60, 3) := by decide +kernel
theorem dX6_tour_51 : decode cX6_tour 51 = .ok (.iload_n 1, 1) := by decide +kernel
theorem dX6_tour_52 : decode cX6_tour 52 = .ok (.aaload, 1) := by decide +kernel
theorem dX6_tour_53 : decode cX6_tour 53 = .ok (.astore 4, 2) := by decide +kernel
theorem dX6_tour_55 : decode cX6_tour 55 = .ok (.aload_n 0, 1) := by decide +kernel
theorem dX6_tour_56 : decode cX6_tour 56 = .ok (.aload 4, 2) := by decide +kernel
theorem dX6_tour_58 : decode cX6_tour 58 = .ok (.invokevirtual 92, 3) := by decide +kernel
theorem dX6_tour_61 : decode cX6_tour 61 = .ok (.ifCond .eq 21, 3) := by decide +kernel
theorem dX6_tour_64 : decode cX6_tour 64 = .ok (.aload_n 0, 1) := by decide +kernel
theorem dX6_tour_65 : decode cX6_tour 65 = .ok (.getfield 10, 3) := by decide +kernel
theorem dX6_tour_68 : decode cX6_tour 68 = .ok (.getfield 46, 3) := by decide +kernel
theorem dX6_tour_71 : decode cX6_tour 71 = .ok (.aload 4, 2) := by decide +kernel
theorem dX6_tour_73 : decode cX6_tour 73 = .ok (.iconst 0, 1) := by decide +kernel
theorem dX6_tour_74 : decode cX6_tour 74 = .ok (.iaload, 1) := by decide +kernel
theorem dX6_tour_75 : decode cX6_tour 75 = .ok (.aaload, 1) := by decide +kernel
theorem dX6_tour_76 : decode cX6_tour 76 = .ok (.bipush 6, 2) := by decide +kernel
theorem dX6_tour_78 : decode cX6_tour 78 = .ok (.iaload, 1) := by decide +kernel
theorem dX6_tour_79 : decode cX6_tour 79 = .ok (.ifCond .ne 9, 3) := by decide +kernel
theorem dX6_tour_82 : decode cX6_tour 82 = .ok (.aload_n 0, 1) := by decide +kernel
theorem dX6_tour_83 : decode cX6_tour 83 = .ok (.iconst 3, 1) := by decide +kernel
theorem dX6_tour_84 : decode cX6_tour 84 = .ok (.invokevirtual 42, 3) := by decide +kernel
theorem dX6_tour_87 : decode cX6_tour 87 = .ok (.ireturn, 1) := by decide +kernel
theorem dX6_tour_88 : decode cX6_tour 88 = .ok (.aload 4, 2) := by decide +kernel
theorem dX6_tour_90 : decode cX6_tour 90 = .ok (.bipush 7, 2) := by decide +kernel
theorem dX6_tour_92 : decode cX6_tour 92 = .ok (.bipush 6, 2) := by decide +kernel
theorem dX6_tour_94 : decode cX6_tour 94 = .ok (.iastore, 1) := by decide +kernel
theorem dX6_tour_95 : decode cX6_tour 95 = .ok (.aload 4, 2) := by decide +kernel
theorem dX6_tour_97 : decode cX6_tour 97 = .ok (.bipush 9, 2) := by decide +kernel
end
section
/-! THE WORLD OF ONE HOUSE: its 67 objects by (kind, number). Kinds: 0 the house, 1 2 3 its rows of persons, figures, rooms, 4 a person, 5 6 7 8 a person's fame, trend, low, high, 9 a figure, 10 a room. The state: kind, number, slot. A figure's head and body stand as the person's number. -/
abbrev cFi : Nat := 0
abbrev cHo : Nat := 1
abbrev cPe : Nat := 2
abbrev cRo : Nat := 3
abbrev hs_St : Type := Nat → Nat → Nat → Int32
abbrev hs_Lo : Type := Nat → Nat → Nat
abbrev hs_Dm : Type := ClassId × ClassId × ClassId × ClassId
def hs_sg (σ : hs_St) (k i j : Nat) (v : Int32) : hs_St := fun a b c => if a = k ∧ b = i ∧ c = j then v else σ a b c
def hs_ix (k i : Nat) : Prop := (k < 4 ∧ i = 0) ∨ (4 ≤ k ∧ k < 9 ∧ i < 10) ∨ (k = 9 ∧ i < 8) ∨ (k = 10 ∧ i < 5)
theorem hs_ix0 : hs_ix 0 0 := Or.inl ⟨by decide, rfl⟩
theorem hs_ix1 : hs_ix 1 0 := Or.inl ⟨by decide, rfl⟩
theorem hs_ix2 : hs_ix 2 0 := Or.inl ⟨by decide, rfl⟩
theorem hs_ix3 : hs_ix 3 0 := Or.inl ⟨by decide, rfl⟩
theorem hs_ix4 {i : Nat} (h : i < 10) : hs_ix 4 i := Or.inr (Or.inl ⟨by decide, by decide, h⟩)
theorem hs_ix5 {i : Nat} (h : i < 10) : hs_ix 5 i := Or.inr (Or.inl ⟨by decide, by decide, h⟩)
theorem hs_ix6 {i : Nat} (h : i < 10) : hs_ix 6 i := Or.inr (Or.inl ⟨by decide, by decide, h⟩)
theorem hs_ix7 {i : Nat} (h : i < 10) : hs_ix 7 i := Or.inr (Or.inl ⟨by decide, by decide, h⟩)
theorem hs_ix8 {i : Nat} (h : i < 10) : hs_ix 8 i := Or.inr (Or.inl ⟨by decide, by decide, h⟩)
theorem hs_ix9 {i : Nat} (h : i < 8) : hs_ix 9 i := Or.inr (Or.inr (Or.inl ⟨rfl, h⟩))
theorem hs_ix10 {i : Nat} (h : i < 5) : hs_ix 10 i := Or.inr (Or.inr (Or.inr ⟨rfl, h⟩))
def hs_ct (d : hs_Dm) (L : hs_Lo) (σ : hs_St) (k i : Nat) : va_E := match k with
  | 0 => .inr (cHo, [.ref (L 1 0), .ref (L 2 0), .ref (L 3 0), .int (σ 0 0 3), .int (σ 0 0 4), .int (σ 0 0 5), .int (σ 0 0 6), .int (σ 0 0 7), .int (σ 0 0 8), .int (σ 0 0 9), .int (σ 0 0 10)])
  | 1 => .inl (d.2.1, 10, .inr (.inr (.inr (.inr (fun j => some (L 4 j))))))
  | 2 => .inl (d.2.2.1, 8, .inr (.inr (.inr (.inr (fun j => some (L 9 j))))))
  | 3 => .inl (d.2.2.2, 5, .inr (.inr (.inr (.inr (fun j => some (L 10 j))))))
  | 4 => .inr (cPe, [.int (nI i), .ref (L 5 i), .ref (L 6 i), .ref (L 7 i), .ref (L 8 i), .int (σ 4 i 5), .int (σ 4 i 6), .int (σ 4 i 7)])
  | 5 => .inl (d.1, 3, .inl (σ 5 i))
  | 6 => .inl (d.1, 3, .inl (σ 6 i))
  | 7 => .inl (d.1, 6, .inl (σ 7 i))
  | 8 => .inl (d.1, 6, .inl (σ 8 i))
  | 9 => .inr (cFi, [.ref (L 4 (σ 9 i 0).toNatClampNeg), .ref (L 4 (σ 9 i 1).toNatClampNeg), .int (σ 9 i 2), .int (σ 9 i 3), .int (σ 9 i 4), .int (σ 9 i 5), .int (σ 9 i 6), .int (σ 9 i 7), .int (σ 9 i 8), .int (σ 9 i 9), .int (σ 9 i 10)])
  | _ => .inr (cRo, [.int (σ 10 i 0), .int (σ 10 i 1)])
theorem hs_ct_congr {d : hs_Dm} {L : hs_Lo} {σ τ : hs_St} {k i : Nat} (hx : hs_ix k i) (h : ∀ c, τ k i c = σ k i c) : hs_ct d L τ k i = hs_ct d L σ k i := by
  have hf : τ k i = σ k i := funext h
  match k, hx, hf with
  | 0, hx, hf =>
    have hi : i = 0 := by unfold hs_ix at hx; omega
    subst hi
    simp only [hs_ct, hf]
  | 1, _, _ => rfl
  | 2, _, _ => rfl
  | 3, _, _ => rfl
  | 4, _, hf => simp only [hs_ct, hf]
  | 5, _, hf => simp only [hs_ct, hf]
  | 6, _, hf => simp only [hs_ct, hf]
  | 7, _, hf => simp only [hs_ct, hf]
  | 8, _, hf => simp only [hs_ct, hf]
  | 9, _, hf => simp only [hs_ct, hf]
  | 10, _, hf => simp only [hs_ct, hf]
  | k + 11, hx, _ => unfold hs_ix at hx; omega
def hs_W (D : va_G) (d : hs_Dm) (L : hs_Lo) (σ : hs_St) (A : Nat → Prop) (H : Heap) : Prop := (∀ k i, hs_ix k i → va_at D vwCl (L k i, hs_ct d L σ k i) H) ∧ (∀ k i, hs_ix k i → A (L k i)) ∧ (∀ k i k' i', hs_ix k i → hs_ix k' i' → L k i = L k' i' → k = k' ∧ i = i')
theorem hs_W.one {D : va_G} {d : hs_Dm} {L : hs_Lo} {σ : hs_St} {A : Nat → Prop} {H : Heap} (h : hs_W D d L σ A H) {k i : Nat} (hx : hs_ix k i) : va_P D vwCl [(L k i, hs_ct d L σ k i)] H := by
  intro n q hq
  cases n with
  | zero => cases hq; exact h.1 k i hx
  | succ n => simp at hq
theorem hs_W.put {D : va_G} {d : hs_Dm} {L : hs_Lo} {σ τ : hs_St} {A : Nat → Prop} {H H1 : Heap} (h : hs_W D d L σ A H) {k i : Nat} (hx : hs_ix k i) (he : va_at D vwCl (L k i, hs_ct d L τ k i) H1) (oq : ∀ q : Nat, q ≠ L k i → H1[q]? = H[q]?) (hs : ∀ k' i', ¬ (k' = k ∧ i' = i) → ∀ c, τ k' i' c = σ k' i' c) : hs_W D d L τ A H1 := by
  refine ⟨fun k' i' hx' => ?_, h.2.1, h.2.2⟩
  by_cases e : k' = k ∧ i' = i
  · obtain ⟨rfl, rfl⟩ := e
    exact he
  · rw [hs_ct_congr hx' (hs k' i' e)]
    exact (h.1 k' i' hx').kept (oq _ (fun z => e (h.2.2 _ _ _ _ hx' hx z)))
theorem hs_W.kept {D : va_G} {d : hs_Dm} {L : hs_Lo} {σ : hs_St} {A : Nat → Prop} {H H1 : Heap} (h : hs_W D d L σ A H) (hq : ∀ q : Nat, q < H.size → A q → H1[q]? = H[q]?) : hs_W D d L σ A H1 := ⟨fun k i hx => (h.1 k i hx).kept (hq _ (h.1 k i hx).lt (h.2.1 k i hx)), h.2.1, h.2.2⟩
theorem hs_off (σ : hs_St) (k i j : Nat) (v : Int32) : ∀ k' i', ¬ (k' = k ∧ i' = i) → ∀ c, hs_sg σ k i j v k' i' c = σ k' i' c := by
  intro k' i' h c
  unfold hs_sg
  rw [if_neg (fun q => h ⟨q.1, q.2.1⟩)]
abbrev hs_ty (d : hs_Dm) : List (ClassId × FieldType) := [(d.1, .int), (d.2.1, .object "Waxrow$Person"), (d.2.2.1, .object "Waxrow$Figure"), (d.2.2.2, .object "Waxrow$Room")]
def hs_B (D : va_G) (d : hs_Dm) (L : hs_Lo) (σ : hs_St) (A : Nat → Prop) (U : State) : Prop := hs_W D d L σ A U.heap ∧ va_K D vwCl (hs_ty d) U
theorem hs_blind {D : va_G} {d : hs_Dm} {L : hs_Lo} {σ : hs_St} {A : Nat → Prop} {av : List Value} : FrameBlind (va_Pc av (hs_B D d L σ A)) := fun a U g mk q => by
  obtain ⟨q0, qW, qK⟩ := q
  exact ⟨q0, qW, va_K.moved (u := U) (U := U.calling g mk a) (Vm.Alike.refl U.vm) qK⟩
/-- contracts over a house: an int (or boolean) answer, none, an object of the house -/
abbrev hs_Mi (l : Launch) (y : MethodName) (ws : List Cond) (rm : Room) (D : va_G) (d : hs_Dm) (L : hs_Lo) (σ : hs_St) (A : Nat → Prop) (av : List Value) (post : Int32 → hs_St → Prop) : Prop := Met l y ws rm (va_Pc av (hs_B D d L σ A)) (va_Qi post (fun τ t => hs_B D d L τ A t) A) 0 0 A
abbrev hs_Mv (l : Launch) (y : MethodName) (ws : List Cond) (rm : Room) (D : va_G) (d : hs_Dm) (L : hs_Lo) (σ : hs_St) (A : Nat → Prop) (av : List Value) (post : hs_St → Prop) : Prop := Met l y ws rm (va_Pc av (hs_B D d L σ A)) (va_Qv post (fun τ t => hs_B D d L τ A t) A) 0 0 A
abbrev hs_Mr (l : Launch) (y : MethodName) (ws : List Cond) (rm : Room) (D : va_G) (d : hs_Dm) (L : hs_Lo) (σ : hs_St) (A : Nat → Prop) (av : List Value) (ad : Nat) : Prop := Met l y ws rm (va_Pc av (hs_B D d L σ A)) (va_Qr (S := Unit) (fun _ => True) (fun _ a t => a = ad ∧ hs_B D d L σ A t) A) 0 0 A
section HSR
variable {p : Program} {l : Launch} {e : Env} {R : Room} {s : State} {m : MethodId} {args : Array Value} {below : List Frame} {meth : Method} {c : Code} {H : Heap} {locs : List Loc} {cells slots : Nat} {Q : State → Prop}
variable {cc : ByteArray} {pc : Nat} {ls : Array Slot} {rest : List Value} {D : va_G} {d : hs_Dm} {L : hs_Lo} {σ : hs_St} {A : Nat → Prop} {H0 : Heap}
theorem hs_put (hexec : p.tables.exec = Jvm.exec) (hb : c.code = cc) {own ref C : String} {T : u_T} {N ci index : Nat} {Ts : List Cond} (hts : ∀ w ∈ Ts, w.before args s = true) (hin : ∀ w ∈ u_ws C T N, w ∈ Ts) (ty0 : Nat → FieldType) (hty : ∀ k, k < N → parseFieldDescriptor (T k).2.2.1 = some (ty0 k)) (hnm : ∀ a, a < N → ∀ b, b < N → a ≠ b → (T a).2.1 ≠ (T b).2.1) (hown : s.vm.findClass own = some m.cls) (hK : va_K D vwCl (hs_ty d) s) (hW : hs_W D d L σ A H) (hS0 : va_S A H0 H locs) (k i : Nat) (hx : hs_ix k i) {fs : List Value} (he : hs_ct d L σ k i = .inr (ci, fs)) (hc : vwCl[ci]? = some (C, T, N)) (j : Nat) (hj : j < N) (hlink : (Cond.fieldLink own index ref (T j).2.1 (T j).2.2.1).before args s = true) (hsame : ∀ x, s.fieldFound? (T j).1 (T j).2.1 (T j).2.2.1 = some x → s.fieldFound? ref (T j).2.1 (T j).2.2.1 = some x) (hfin : (T j).2.2.2 = false) {ty : FieldType} {v : Value} (hd : parseFieldDescriptor (T j).2.2.1 = some ty) (hn : narrow ty v = v) (hfit : fits ty v = true) (hl : j < fs.length) (τ : hs_St) (hτ : hs_ct d L τ k i = .inr (ci, fs.set j v)) (hoff : ∀ k' i', ¬ (k' = k ∧ i' = i) → ∀ c, τ k' i' c = σ k' i' c)
    (hdg : decode cc pc = .ok (.putfield index, 3)) (kk : ∀ (H1 : Heap) (locs1 : List Loc), hs_W D d L τ A H1 → va_S A H0 H1 locs1 → W p l e R s m args below meth c H1 locs1 cells slots Q (F0 m (pc + 3) ls rest)) : W p l e R s m args below meth c H locs cells slots Q (F0 m pc ls (v :: .ref (L k i) :: rest)) := by
  have hap := va_apart (own := own) hts hin ty0 hty hnm hK hc
  have hP := hW.1 k i hx
  rw [he] at hP
  obtain ⟨r, h1, cell, q1, q2, q3, q4⟩ := hP
  have hr : r = (C, T, N) := Option.some.inj (h1.symm.trans hc)
  subst hr
  obtain ⟨hS, hfc, kC, hkC, hkind⟩ := hK.1 ci _ hc
  obtain ⟨cf, kf, fi, f, hi, hsl⟩ := hS j hj
  have hlay := hts _ (hin _ (u_in_lay hj))
  unfold u_lay at hlay
  rw [if_neg (by rw [hfin]; decide)] at hlay
  have hst := (u_facts hfc hkC (u_lays hts hin hj) hi).1
  have h6 := u_store hfc hkC hkind hlay hi hd hn hfit
  refine W.putK hexec hb (f := f) ⟨hown, hlink, ⟨_, _, _, hsame _ hi⟩, hst⟩ (by rw [q2]; exact h6) q1 q3 (by rw [hsl]; exact k2_hasslot (q4 j hj)) rfl rfl hdg fun H' e1 e2 e3 => ?_
  rw [hsl] at e1 ⊢
  refine kk H' _ (hW.put hx ?_ e3 hoff) (hS0.put e2 e3 (hW.2.1 k i hx))
  rw [hτ]
  exact ⟨_, hc, t_OB.to (V := updV (vp_V fs) j v) ⟨_, e1, q2, q3, t_set q4 hap hj v⟩ (fun n _ => vp_updV_set hl v n)⟩
theorem hs_iald (hexec : p.tables.exec = Jvm.exec) (hb : c.code = cc) (hK : va_K D vwCl (hs_ty d) s) (hW : hs_W D d L σ A H) (k q : Nat) (hx : hs_ix k q) {n : Nat} {f : Nat → Int32} (he : hs_ct d L σ k q = .inl (d.1, n, .inl f)) {i : Int32} (hin : vp_in i n) (hdg : decode cc pc = .ok (.iaload, 1))
    (kk : W p l e R s m args below meth c H locs cells slots Q (F0 m (pc + 1) ls (.int (f i.toNatClampNeg) :: rest))) : W p l e R s m args below meth c H locs cells slots Q (F0 m pc ls (.int i :: .ref (L k q) :: rest)) :=
  va_iald hexec hb hK (hW.one hx) 0 0 (cA := d.1) (n := n) (f := f) (by rw [he]; rfl) rfl hin hdg kk
theorem hs_aald (hexec : p.tables.exec = Jvm.exec) (hb : c.code = cc) (hK : va_K D vwCl (hs_ty d) s) (hW : hs_W D d L σ A H) (k t0 : Nat) (hx : hs_ix k 0) {cA : ClassId} {C : String} {n : Nat} {g : Nat → Nat} (he : hs_ct d L σ k 0 = .inl (cA, n, .inr (.inr (.inr (.inr (fun j => some (g j))))))) (ht : (hs_ty d)[t0]? = some (cA, .object C)) {i : Int32} (hin : vp_in i n) (hdg : decode cc pc = .ok (.aaload, 1))
    (kk : W p l e R s m args below meth c H locs cells slots Q (F0 m (pc + 1) ls (.ref (g i.toNatClampNeg) :: rest))) : W p l e R s m args below meth c H locs cells slots Q (F0 m pc ls (.int i :: .ref (L k 0) :: rest)) :=
  va_aldq hexec hb hK (hW.one hx) 0 t0 (cA := cA) (C := C) (n := n) (f := fun j => some (g j)) (by rw [he]; rfl) ht hin hdg kk
theorem hs_iast (hexec : p.tables.exec = Jvm.exec) (hb : c.code = cc) (hK : va_K D vwCl (hs_ty d) s) (hW : hs_W D d L σ A H) (hS : va_S A H0 H locs) (k q : Nat) (hx : hs_ix k q) {n : Nat} {f : Nat → Int32} (he : hs_ct d L σ k q = .inl (d.1, n, .inl f)) {i x : Int32} (hin : vp_in i n) (τ : hs_St) (hτ : hs_ct d L τ k q = .inl (d.1, n, .inl (upd f i.toNatClampNeg x))) (hoff : ∀ k' i', ¬ (k' = k ∧ i' = q) → ∀ c, τ k' i' c = σ k' i' c) (hdg : decode cc pc = .ok (.iastore, 1))
    (kk : ∀ (H1 : Heap) (locs1 : List Loc), hs_W D d L τ A H1 → va_S A H0 H1 locs1 → W p l e R s m args below meth c H1 locs1 cells slots Q (F0 m (pc + 1) ls rest)) : W p l e R s m args below meth c H locs cells slots Q (F0 m pc ls (.int x :: .int i :: .ref (L k q) :: rest)) := by
  have hP : va_at D vwCl (L k q, .inl (d.1, n, .inl f)) H := by rw [← he]; exact hW.1 k q hx
  have hlt : i.toNatClampNeg < n := Nat.not_le.mp fun z => hin (Or.inr z)
  refine W.iast hexec hb hP ((hK.2 0 _ rfl).1 n (fun j => .int (f j))) (fun q => by cases q) (by show ¬ (i < 0 ∨ (arrV _ _ _).slots.size ≤ _); rw [arrV_size]; exact hin) rfl rfl hdg fun H1 e z oq => ?_
  refine kk H1 _ (hW.put hx ?_ oq hoff) (hS.put z oq (hW.2.1 k q hx))
  rw [hτ]
  show H1[L k q]? = some (vp_cell _ _)
  rw [e]
  rw [vp_cell_i, vp_cell_i, arrV_store]
  congr 2
  funext z
  by_cases hq : z = i.toNatClampNeg
  · subst hq
    simp [updV, upd]
  · simp [updV, upd, hq]
theorem hs_calli {y : MethodName} {bytes : ByteArray} {maxL nL n index : Nat} {ret : Option FieldType} {ws : List Cond} {rm : Room} {Ts : List Cond} {own C : String} {As st : List Value} {k i : Nat} {post : Int32 → hs_St → Prop} (S : CallFix p m c cc nL s args Ts own) (hM : hs_Mi l y ws rm D d L σ A (.ref (L k i) :: As) post) (cw : CallW R s args own C index y bytes maxL ret ws rm 0 0 n) (hK : va_K D vwCl (hs_ty d) s) (hW : hs_W D d L σ A H) (hS : va_S A H0 H locs) (hx : hs_ix k i) {ci : Nat} {fs : List Value} {r : vw_C} (he : hs_ct d L σ k i = .inr (ci, fs)) (hc : vwCl[ci]? = some r) (hC : r.1 = C) (hn : As.length = n) (hsize : ls.size = nL) (hrest : (rest.map fun v => v.category).sum ≤ 8) (hdg : decode cc pc = .ok (.invokevirtual index, 3)) (hf : cells ≤ R.cells ∧ slots ≤ R.slots) (hst : st = As.reverse ++ .ref (L k i) :: rest)
    (kk : ∀ (r : Int32) (τ : hs_St) (H1 : Heap) (locs1 : List Loc), post r τ → hs_W D d L τ A H1 → va_S A H0 H1 locs1 → W p l e R s m args below meth c H1 locs1 cells slots Q (F0 m (pc + 3) ls (.int r :: rest))) : W p l e R s m args below meth c H locs cells slots Q (F0 m pc ls st) := by
  subst hst
  subst hC
  refine va_calli (va_runV S hM cw ⟨hs_blind, va_recv hK (hW.one hx) (q0 := 0) hc (by rw [he]; rfl), fun U hU hW2 => ⟨rfl, by rw [hU]; exact hW, va_K.moved hW2.alike hK⟩⟩ rfl hn hsize rfl (lv_room hrest) hdg hf) hS (fun q _ h => h) (fun q h => h) (fun r τ t H1 locs1 ht _ hp hB _ _ hS1 => ?_)
  obtain ⟨hW1, -⟩ := hB
  rw [ht] at hW1
  exact kk r τ H1 locs1 hp hW1 hS1
theorem hs_callv {y : MethodName} {bytes : ByteArray} {maxL nL n index : Nat} {ret : Option FieldType} {ws : List Cond} {rm : Room} {Ts : List Cond} {own C : String} {As st : List Value} {k i : Nat} {post : hs_St → Prop} (S : CallFix p m c cc nL s args Ts own) (hM : hs_Mv l y ws rm D d L σ A (.ref (L k i) :: As) post) (cw : CallW R s args own C index y bytes maxL ret ws rm 0 0 n) (hK : va_K D vwCl (hs_ty d) s) (hW : hs_W D d L σ A H) (hS : va_S A H0 H locs) (hx : hs_ix k i) {ci : Nat} {fs : List Value} {r : vw_C} (he : hs_ct d L σ k i = .inr (ci, fs)) (hc : vwCl[ci]? = some r) (hC : r.1 = C) (hn : As.length = n) (hsize : ls.size = nL) (hrest : (rest.map fun v => v.category).sum ≤ 8) (hdg : decode cc pc = .ok (.invokevirtual index, 3)) (hf : cells ≤ R.cells ∧ slots ≤ R.slots) (hst : st = As.reverse ++ .ref (L k i) :: rest)
    (kk : ∀ (τ : hs_St) (H1 : Heap) (locs1 : List Loc), post τ → hs_W D d L τ A H1 → va_S A H0 H1 locs1 → W p l e R s m args below meth c H1 locs1 cells slots Q (F0 m (pc + 3) ls rest)) : W p l e R s m args below meth c H locs cells slots Q (F0 m pc ls st) := by
  subst hst
  subst hC
  refine va_callv (va_runV S hM cw ⟨hs_blind, va_recv hK (hW.one hx) (q0 := 0) hc (by rw [he]; rfl), fun U hU hW2 => ⟨rfl, by rw [hU]; exact hW, va_K.moved hW2.alike hK⟩⟩ rfl hn hsize rfl (lv_room hrest) hdg hf) hS (fun q _ h => h) (fun q h => h) (fun τ t H1 locs1 ht _ hp hB _ _ hS1 => ?_)
  obtain ⟨hW1, -⟩ := hB
  rw [ht] at hW1
  exact kk τ H1 locs1 hp hW1 hS1
theorem hs_callr {y : MethodName} {bytes : ByteArray} {maxL nL n index : Nat} {ret : Option FieldType} {ws : List Cond} {rm : Room} {Ts : List Cond} {own C : String} {As st : List Value} {k i ad : Nat} (S : CallFix p m c cc nL s args Ts own) (hM : hs_Mr l y ws rm D d L σ A (.ref (L k i) :: As) ad) (cw : CallW R s args own C index y bytes maxL ret ws rm 0 0 n) (hK : va_K D vwCl (hs_ty d) s) (hW : hs_W D d L σ A H) (hS : va_S A H0 H locs) (hx : hs_ix k i) {ci : Nat} {fs : List Value} {r : vw_C} (he : hs_ct d L σ k i = .inr (ci, fs)) (hc : vwCl[ci]? = some r) (hC : r.1 = C) (hn : As.length = n) (hsize : ls.size = nL) (hrest : (rest.map fun v => v.category).sum ≤ 8) (hdg : decode cc pc = .ok (.invokevirtual index, 3)) (hf : cells ≤ R.cells ∧ slots ≤ R.slots) (hst : st = As.reverse ++ .ref (L k i) :: rest)
    (kk : ∀ (H1 : Heap) (locs1 : List Loc), hs_W D d L σ A H1 → va_S A H0 H1 locs1 → W p l e R s m args below meth c H1 locs1 cells slots Q (F0 m (pc + 3) ls (.ref ad :: rest))) : W p l e R s m args below meth c H locs cells slots Q (F0 m pc ls st) := by
  subst hst
  subst hC
  refine va_callr (va_runV S hM cw ⟨hs_blind, va_recv hK (hW.one hx) (q0 := 0) hc (by rw [he]; rfl), fun U hU hW2 => ⟨rfl, by rw [hU]; exact hW, va_K.moved hW2.alike hK⟩⟩ rfl hn hsize rfl (lv_room hrest) hdg hf) hS (fun q _ h => h) (fun q h => h) (fun u ra t H1 locs1 ht _ hp hB _ _ hS1 => ?_)
  obtain ⟨rfl, hW1, -⟩ := hB
  rw [ht] at hW1
  exact kk H1 locs1 hW1 hS1
theorem hs_runv {y : MethodName} {bytes : ByteArray} {maxL nL n index : Nat} {ret : Option FieldType} {ws : List Cond} {rm : Room} {Ts : List Cond} {own : String} {As st : List Value} {post : hs_St → Prop} (S : CallFix p m c cc nL s args Ts own) (hM : hs_Mv l y ws rm D d L σ A As post) (cw : CallB R s args own index y bytes maxL ret ws rm 0 0 n ∧ (Cond.static y).before args s = true) (hK : va_K D vwCl (hs_ty d) s) (hW : hs_W D d L σ A H) (hS : va_S A H0 H locs) (hn : As.length = n) (hsize : ls.size = nL) (hrest : (rest.map fun v => v.category).sum ≤ 8) (hdg : decode cc pc = .ok (.invokestatic index, 3)) (hf : cells ≤ R.cells ∧ slots ≤ R.slots) (hst : st = As.reverse ++ rest)
    (kk : ∀ (τ : hs_St) (H1 : Heap) (locs1 : List Loc), post τ → hs_W D d L τ A H1 → va_S A H0 H1 locs1 → W p l e R s m args below meth c H1 locs1 cells slots Q (F0 m (pc + 3) ls rest)) : W p l e R s m args below meth c H locs cells slots Q (F0 m pc ls st) := by
  subst hst
  refine va_callv (va_runS S hM cw ⟨hs_blind, fun U hU hW2 => ⟨rfl, by rw [hU]; exact hW, va_K.moved hW2.alike hK⟩⟩ rfl hn hsize rfl (lv_room hrest) hdg hf) hS (fun q _ h => h) (fun q h => h) (fun τ t H1 locs1 ht _ hp hB _ _ hS1 => ?_)
  obtain ⟨hW1, -⟩ := hB
  rw [ht] at hW1
  exact kk τ H1 locs1 hp hW1 hS1
theorem hs_runi {y : MethodName} {bytes : ByteArray} {maxL nL n index : Nat} {ret : Option FieldType} {ws : List Cond} {rm : Room} {Ts : List Cond} {own : String} {As st : List Value} {post : Int32 → hs_St → Prop} (S : CallFix p m c cc nL s args Ts own) (hM : hs_Mi l y ws rm D d L σ A As post) (cw : CallB R s args own index y bytes maxL ret ws rm 0 0 n ∧ (Cond.static y).before args s = true) (hK : va_K D vwCl (hs_ty d) s) (hW : hs_W D d L σ A H) (hS : va_S A H0 H locs) (hn : As.length = n) (hsize : ls.size = nL) (hrest : (rest.map fun v => v.category).sum ≤ 8) (hdg : decode cc pc = .ok (.invokestatic index, 3)) (hf : cells ≤ R.cells ∧ slots ≤ R.slots) (hst : st = As.reverse ++ rest)
    (kk : ∀ (r : Int32) (τ : hs_St) (H1 : Heap) (locs1 : List Loc), post r τ → hs_W D d L τ A H1 → va_S A H0 H1 locs1 → W p l e R s m args below meth c H1 locs1 cells slots Q (F0 m (pc + 3) ls (.int r :: rest))) : W p l e R s m args below meth c H locs cells slots Q (F0 m pc ls st) := by
  subst hst
  refine va_calli (va_runS S hM cw ⟨hs_blind, fun U hU hW2 => ⟨rfl, by rw [hU]; exact hW, va_K.moved hW2.alike hK⟩⟩ rfl hn hsize rfl (lv_room hrest) hdg hf) hS (fun q _ h => h) (fun q h => h) (fun r τ t H1 locs1 ht _ hp hB _ _ hS1 => ?_)
  obtain ⟨hW1, -⟩ := hB
  rw [ht] at hW1
  exact kk r τ H1 locs1 hp hW1 hS1
end HSR
end
