section
-- ===== PART A: goes FIRST, ahead of the names: the tables' words, and 'selects' of the private methods out of them =====
/-- a private method of a class that the tables say can be made, by its rows of tables_1 -/
def lw_okq (q : MethodName × Nat) : Prop := (q.1.cls ≠ "java/lang/invoke/MethodHandle" ∧ q.1.cls ≠ "java/lang/invoke/VarHandle") ∧ Cond.instantiable q.1.cls q.2 ∈ tables_1 ∧ Cond.privateMethod q.1 ∈ tables_1 ∧ Cond.instanceMethod q.1 ∈ tables_1
theorem lw_p0 : lw_okq (⟨"java/lang/Throwable", "fillInStackTrace", "(I)Ljava/lang/Throwable;"⟩, 6) := ⟨⟨by decide +kernel, by decide +kernel⟩, List.mem_of_getElem? (i := 112) (by decide +kernel), List.mem_of_getElem? (i := 110) (by decide +kernel), List.mem_of_getElem? (i := 111) (by decide +kernel)⟩
theorem lw_p1 : lw_okq (⟨"WindowMeters", "placeBySize", "(I)V"⟩, 11) := ⟨⟨by decide +kernel, by decide +kernel⟩, List.mem_of_getElem? (i := 12) (by decide +kernel), List.mem_of_getElem? (i := 170) (by decide +kernel), List.mem_of_getElem? (i := 171) (by decide +kernel)⟩
theorem lw_p2 : lw_okq (⟨"WindowMeters", "checkWindow", "(I)V"⟩, 11) := ⟨⟨by decide +kernel, by decide +kernel⟩, List.mem_of_getElem? (i := 12) (by decide +kernel), List.mem_of_getElem? (i := 189) (by decide +kernel), List.mem_of_getElem? (i := 190) (by decide +kernel)⟩
theorem lw_p3 : lw_okq (⟨"WindowMeters", "markInside", "(I)V"⟩, 11) := ⟨⟨by decide +kernel, by decide +kernel⟩, List.mem_of_getElem? (i := 12) (by decide +kernel), List.mem_of_getElem? (i := 210) (by decide +kernel), List.mem_of_getElem? (i := 211) (by decide +kernel)⟩
theorem lw_p4 : lw_okq (⟨"WindowMeters", "markRange", "(I)V"⟩, 11) := ⟨⟨by decide +kernel, by decide +kernel⟩, List.mem_of_getElem? (i := 12) (by decide +kernel), List.mem_of_getElem? (i := 214) (by decide +kernel), List.mem_of_getElem? (i := 215) (by decide +kernel)⟩
theorem lw_p5 : lw_okq (⟨"WindowMeters", "markRows", "(I)V"⟩, 11) := ⟨⟨by decide +kernel, by decide +kernel⟩, List.mem_of_getElem? (i := 12) (by decide +kernel), List.mem_of_getElem? (i := 218) (by decide +kernel), List.mem_of_getElem? (i := 219) (by decide +kernel)⟩
theorem lw_p6 : lw_okq (⟨"WindowMeters", "markKeys", "(I)V"⟩, 11) := ⟨⟨by decide +kernel, by decide +kernel⟩, List.mem_of_getElem? (i := 12) (by decide +kernel), List.mem_of_getElem? (i := 222) (by decide +kernel), List.mem_of_getElem? (i := 223) (by decide +kernel)⟩
theorem lw_p7 : lw_okq (⟨"WindowMeters", "markBlock", "(I)V"⟩, 11) := ⟨⟨by decide +kernel, by decide +kernel⟩, List.mem_of_getElem? (i := 12) (by decide +kernel), List.mem_of_getElem? (i := 229) (by decide +kernel), List.mem_of_getElem? (i := 230) (by decide +kernel)⟩
theorem lw_p8 : lw_okq (⟨"WindowMeters", "markRun", "(I)V"⟩, 11) := ⟨⟨by decide +kernel, by decide +kernel⟩, List.mem_of_getElem? (i := 12) (by decide +kernel), List.mem_of_getElem? (i := 233) (by decide +kernel), List.mem_of_getElem? (i := 234) (by decide +kernel)⟩
theorem lw_p9 : lw_okq (⟨"WindowMeters", "markOutside", "(I)V"⟩, 11) := ⟨⟨by decide +kernel, by decide +kernel⟩, List.mem_of_getElem? (i := 12) (by decide +kernel), List.mem_of_getElem? (i := 237) (by decide +kernel), List.mem_of_getElem? (i := 238) (by decide +kernel)⟩
theorem lw_p10 : lw_okq (⟨"WindowMeters", "countInside", "()I"⟩, 11) := ⟨⟨by decide +kernel, by decide +kernel⟩, List.mem_of_getElem? (i := 12) (by decide +kernel), List.mem_of_getElem? (i := 241) (by decide +kernel), List.mem_of_getElem? (i := 242) (by decide +kernel)⟩
theorem lw_p11 : lw_okq (⟨"WindowMeters", "sumInside", "()I"⟩, 11) := ⟨⟨by decide +kernel, by decide +kernel⟩, List.mem_of_getElem? (i := 12) (by decide +kernel), List.mem_of_getElem? (i := 245) (by decide +kernel), List.mem_of_getElem? (i := 246) (by decide +kernel)⟩
theorem lw_p12 : lw_okq (⟨"WindowMeters", "countUnlike", "()I"⟩, 11) := ⟨⟨by decide +kernel, by decide +kernel⟩, List.mem_of_getElem? (i := 12) (by decide +kernel), List.mem_of_getElem? (i := 249) (by decide +kernel), List.mem_of_getElem? (i := 250) (by decide +kernel)⟩
theorem lw_p13 : lw_okq (⟨"WindowMeters", "countMostFrequent", "()I"⟩, 11) := ⟨⟨by decide +kernel, by decide +kernel⟩, List.mem_of_getElem? (i := 12) (by decide +kernel), List.mem_of_getElem? (i := 253) (by decide +kernel), List.mem_of_getElem? (i := 254) (by decide +kernel)⟩
theorem lw_p14 : lw_okq (⟨"WindowMeters", "findMostFrequent", "()I"⟩, 11) := ⟨⟨by decide +kernel, by decide +kernel⟩, List.mem_of_getElem? (i := 12) (by decide +kernel), List.mem_of_getElem? (i := 257) (by decide +kernel), List.mem_of_getElem? (i := 258) (by decide +kernel)⟩
theorem lw_p15 : lw_okq (⟨"WindowMeters", "findKth", "(I)I"⟩, 11) := ⟨⟨by decide +kernel, by decide +kernel⟩, List.mem_of_getElem? (i := 12) (by decide +kernel), List.mem_of_getElem? (i := 269) (by decide +kernel), List.mem_of_getElem? (i := 270) (by decide +kernel)⟩
def lw_privs_1 : List (MethodName × Nat) := [(⟨"java/lang/Throwable", "fillInStackTrace", "(I)Ljava/lang/Throwable;"⟩, 6), (⟨"WindowMeters", "placeBySize", "(I)V"⟩, 11), (⟨"WindowMeters", "checkWindow", "(I)V"⟩, 11), (⟨"WindowMeters", "markInside", "(I)V"⟩, 11), (⟨"WindowMeters", "markRange", "(I)V"⟩, 11), (⟨"WindowMeters", "markRows", "(I)V"⟩, 11), (⟨"WindowMeters", "markKeys", "(I)V"⟩, 11), (⟨"WindowMeters", "markBlock", "(I)V"⟩, 11), (⟨"WindowMeters", "markRun", "(I)V"⟩, 11), (⟨"WindowMeters", "markOutside", "(I)V"⟩, 11), (⟨"WindowMeters", "countInside", "()I"⟩, 11), (⟨"WindowMeters", "sumInside", "()I"⟩, 11), (⟨"WindowMeters", "countUnlike", "()I"⟩, 11), (⟨"WindowMeters", "countMostFrequent", "()I"⟩, 11), (⟨"WindowMeters", "findMostFrequent", "()I"⟩, 11), (⟨"WindowMeters", "findKth", "(I)I"⟩, 11)]
theorem lw_r1 : ∀ q ∈ lw_privs_1, lw_okq q := List.forall_mem_cons.mpr ⟨lw_p0, List.forall_mem_cons.mpr ⟨lw_p1, List.forall_mem_cons.mpr ⟨lw_p2, List.forall_mem_cons.mpr ⟨lw_p3, List.forall_mem_cons.mpr ⟨lw_p4, List.forall_mem_cons.mpr ⟨lw_p5, List.forall_mem_cons.mpr ⟨lw_p6, List.forall_mem_cons.mpr ⟨lw_p7, List.forall_mem_cons.mpr ⟨lw_p8, List.forall_mem_cons.mpr ⟨lw_p9, List.forall_mem_cons.mpr ⟨lw_p10, List.forall_mem_cons.mpr ⟨lw_p11, List.forall_mem_cons.mpr ⟨lw_p12, List.forall_mem_cons.mpr ⟨lw_p13, List.forall_mem_cons.mpr ⟨lw_p14, List.forall_mem_cons.mpr ⟨lw_p15, fun _ h => absurd h List.not_mem_nil⟩⟩⟩⟩⟩⟩⟩⟩⟩⟩⟩⟩⟩⟩⟩⟩
theorem lw_p16 : lw_okq (⟨"WindowMetersModel", "refuse", "(ZZ)Z"⟩, 12) := ⟨⟨by decide +kernel, by decide +kernel⟩, List.mem_of_getElem? (i := 312) (by decide +kernel), List.mem_of_getElem? (i := 371) (by decide +kernel), List.mem_of_getElem? (i := 372) (by decide +kernel)⟩
theorem lw_p17 : lw_okq (⟨"WindowMetersModel", "isWindow", "(I)Z"⟩, 12) := ⟨⟨by decide +kernel, by decide +kernel⟩, List.mem_of_getElem? (i := 312) (by decide +kernel), List.mem_of_getElem? (i := 391) (by decide +kernel), List.mem_of_getElem? (i := 392) (by decide +kernel)⟩
theorem lw_p18 : lw_okq (⟨"WindowMetersModel", "hold", "(I)V"⟩, 12) := ⟨⟨by decide +kernel, by decide +kernel⟩, List.mem_of_getElem? (i := 312) (by decide +kernel), List.mem_of_getElem? (i := 395) (by decide +kernel), List.mem_of_getElem? (i := 396) (by decide +kernel)⟩
theorem lw_p19 : lw_okq (⟨"WindowMetersModel", "isIn", "(II)Z"⟩, 12) := ⟨⟨by decide +kernel, by decide +kernel⟩, List.mem_of_getElem? (i := 312) (by decide +kernel), List.mem_of_getElem? (i := 399) (by decide +kernel), List.mem_of_getElem? (i := 400) (by decide +kernel)⟩
theorem lw_p20 : lw_okq (⟨"WindowMetersModel", "behindOfKey", "(I)I"⟩, 12) := ⟨⟨by decide +kernel, by decide +kernel⟩, List.mem_of_getElem? (i := 312) (by decide +kernel), List.mem_of_getElem? (i := 403) (by decide +kernel), List.mem_of_getElem? (i := 404) (by decide +kernel)⟩
theorem lw_p21 : lw_okq (⟨"WindowMetersModel", "runs", "(II)Z"⟩, 12) := ⟨⟨by decide +kernel, by decide +kernel⟩, List.mem_of_getElem? (i := 312) (by decide +kernel), List.mem_of_getElem? (i := 407) (by decide +kernel), List.mem_of_getElem? (i := 408) (by decide +kernel)⟩
theorem lw_p22 : lw_okq (⟨"WindowMetersModel", "most", "()I"⟩, 12) := ⟨⟨by decide +kernel, by decide +kernel⟩, List.mem_of_getElem? (i := 312) (by decide +kernel), List.mem_of_getElem? (i := 411) (by decide +kernel), List.mem_of_getElem? (i := 412) (by decide +kernel)⟩
def lw_privs_2 : List (MethodName × Nat) := [(⟨"WindowMetersModel", "refuse", "(ZZ)Z"⟩, 12), (⟨"WindowMetersModel", "isWindow", "(I)Z"⟩, 12), (⟨"WindowMetersModel", "hold", "(I)V"⟩, 12), (⟨"WindowMetersModel", "isIn", "(II)Z"⟩, 12), (⟨"WindowMetersModel", "behindOfKey", "(I)I"⟩, 12), (⟨"WindowMetersModel", "runs", "(II)Z"⟩, 12), (⟨"WindowMetersModel", "most", "()I"⟩, 12)]
theorem lw_r2 : ∀ q ∈ lw_privs_2, lw_okq q := List.forall_mem_cons.mpr ⟨lw_p16, List.forall_mem_cons.mpr ⟨lw_p17, List.forall_mem_cons.mpr ⟨lw_p18, List.forall_mem_cons.mpr ⟨lw_p19, List.forall_mem_cons.mpr ⟨lw_p20, List.forall_mem_cons.mpr ⟨lw_p21, List.forall_mem_cons.mpr ⟨lw_p22, fun _ h => absurd h List.not_mem_nil⟩⟩⟩⟩⟩⟩⟩
def lw_privs : List (MethodName × Nat) := lw_privs_1 ++ (lw_privs_2)
def lw_tbl : List Cond := k2_sels lw_privs ++ tables_1
theorem lw_privs_ok : ∀ q ∈ lw_privs, lw_okq q := by
  show ∀ q ∈ lw_privs_1 ++ (lw_privs_2), lw_okq q
  exact List.forall_mem_append.mpr ⟨lw_r1, lw_r2⟩
end
section
/-! ===== BEGIN words of one list among another's, by their places ===== -/
theorem goodIn_r {big : List Cond} (ws : List Cond) (ps : List Nat) (hp : ws = ps.filterMap (fun i => big[i]?)) (h : ws.all goodWord = true) : GoodIn big ws := by
  intro w hw
  have h1 := List.all_eq_true.mp h w hw
  rw [hp] at hw
  obtain ⟨i, -, hi⟩ := List.mem_filterMap.mp hw
  have hm : w ∈ big := by first | exact List.mem_of_getElem? hi | exact List.getElem?_mem hi
  exact ⟨hm, good_of_word h1⟩
theorem goodIn_app {big a b : List Cond} (ha : GoodIn big a) (hb : GoodIn big b) : GoodIn big (a ++ b) := fun w h => (List.mem_append.mp h).elim (ha w) (hb w)
theorem goodIn_ca {big a b : List Cond} {c : Cond} (ha : GoodIn big (c :: a)) (hb : GoodIn big b) : GoodIn big (c :: (a ++ b)) := fun w h => (List.mem_cons.mp h).elim (fun e => ha w (List.mem_cons.mpr (Or.inl e))) (fun h => (List.mem_append.mp h).elim (fun h => ha w (List.mem_cons.mpr (Or.inr h))) (hb w))
theorem goodIn_sub {big ws : List Cond} (hm : ∀ w ∈ ws, w ∈ big) (h : ws.all goodWord = true) : GoodIn big ws := fun w hw => ⟨hm w hw, good_of_word (List.all_eq_true.mp h w hw)⟩
/-! ===== END ===== -/

/-! ===== BEGIN exceptions that leave a method, and their catching by the caller (launches without stack traces) ===== -/
section VXA
/-! The laws vx_back, vx_callV, vx_callS, vx_callSW, vx_throw0, vx_throwS follow proofs of the library, with one case more: JvmDerived/Free/Laws.lean (Back.of_free), Shelf42/LK1.lean (callV, callS), Shelf/KitTraced.lean (throwNew0V, throwNewS). -/
/-- where a method has thrown q: the class by its name, the cell, what was written, the world -/
def vx_T (XC : String → State → State → Prop) (st : State) (q : Addr) (t : State) (mc ms : Nat) (free : Addr → Prop) : Prop :=
  ∃ (E : String) (ce : Cell) (L : List Loc), XC E st t ∧ t.heap[q]? = some ce ∧ ce.vm = .none ∧ st.vm.findClass E = some ce.cls ∧ st.WarmedH t.vm ∧ st.sameButNew ({ t with vm := st.vm } : State) L mc ms ∧ ∀ z ∈ L, free z.base
def vx_Q (Qc : Array Value → State → Outcome → State → Prop) (XC : String → State → State → Prop) (mc ms : Nat) (free : Addr → Prop) : Array Value → State → Outcome → State → Prop := fun a st o t =>
  (Qc a st o t ∧ ∃ L, FrameEnd st o t L mc ms ∧ ∀ q ∈ L, free q.base) ∨ ∃ q, o = .threw q ∧ vx_T XC st q t mc ms free
/-- a callee that returns or throws -/
def vx_Met (l : Launch) (y : MethodName) (ws : List Cond) (rm : Room) (Pc : Array Value → State → Prop) (Qc : Array Value → State → Outcome → State → Prop) (XC : String → State → State → Prop) (mc ms : Nat) (free : Addr → Prop) : Prop :=
  MetFree l y (headSpec ws rm) Pc (fun _ _ _ _ _ => True) (vx_Q Qc XC mc ms free)
def vx_Post (XC : String → State → State → Prop) (mc ms : Nat) (free : Addr → Prop) : Pt → Array Value → Addr → Pt → Prop := fun A a q B =>
  ∃ (g : JFrame) (mk : MethodId) (t : State) (L : List Loc) (E : String) (ce : Cell), B.U.heap = t.heap ∧ B.U.vm = t.vm ∧ XC E (A.U.calling g mk a) t ∧ t.heap[q]? = some ce ∧ ce.vm = .none ∧ A.U.vm.findClass E = some ce.cls ∧ B.locs = A.locs ++ L ∧ (∀ z ∈ L, free z.base) ∧ B.cells = A.cells + mc ∧ B.slots = A.slots + ms
def vx_Back (l : Launch) (R : Room) (p : Program) (e : Env) (below : List Frame) (s : State) (sargs : Array Value) (y : MethodName) (len W9 : Nat)
    (Pre : Pt → Array Value → Prop) (Post : Pt → Array Value → Option Value → Pt → Prop) (PostX : Pt → Array Value → Addr → Pt → Prop) : Prop :=
  ∀ (m : MethodId) (meth : Method) (c : Code) (A : Pt) (g : JFrame) (ig : Instr) (mk : MethodId) (a : Array Value),
    Stand p l e R s m sargs below meth c A.U A.locs A.cells A.slots → g.method = m → g.locals.size = c.maxLocals → decode c.code g.pc = .ok (ig, len) →
    2 * g.monitorRoom + (g.stack.map fun v => v.category).sum ≤ W9 → A.U.methodNamed? y = some mk → Pre A a →
    (∃ (v : Option Value) (B : Pt), Stand p l e R s m sargs below meth c B.U B.locs B.cells B.slots ∧ Post A a v B ∧
      Steps p.tables e below (doInvoke e (A.U.setTop g) [] mk a).1 (B.U.setTop { g with pc := g.pc + len, stack := v.toList ++ g.stack })) ∨
    (∃ (q : Addr) (B : Pt), Stand p l e R s m sargs below meth c B.U B.locs B.cells B.slots ∧ PostX A a q B ∧
      Steps p.tables e below (doInvoke e (A.U.setTop g) [] mk a).1 ((B.U.setTop g).pushFrame (.throwing q)))
section Payer
variable {l : Launch} {R : Room} {p : Program} {e : Env} {below : List Frame} {s : State} {sargs : Array Value} {y : MethodName} {len W9 : Nat}
theorem vx_back {ws : List Cond} {rm : Room} {Pc : Array Value → State → Prop} {Qc : Array Value → State → Outcome → State → Prop} {XC : String → State → State → Prop} {mc ms : Nat} {free : Addr → Prop} {bytes : ByteArray} {maxL : Nat} {ret : Option FieldType}
    (hM : vx_Met l y ws rm Pc Qc XC mc ms free) (hblind : FrameBlind Pc) (hrc : rm.cells = mc) (hrs : rm.slots = ms)
    (hframes : rm.frames + 1 ≤ R.frames) (hlocals : W9 + (maxL + 11) + rm.locals ≤ R.locals)
    (hws : ∀ w ∈ ws, ∀ a' U, s.WarmedH U.vm → w.before a' U = true) (hcode : Cond.code y bytes maxL ret ∈ ws) (hinit : ∀ a' U, s.WarmedH U.vm → (Cond.initialized y.cls).before a' U = true) :
    vx_Back l R p e below s sargs y len W9 (PreOf R mc ms Pc) (PostOf Qc mc ms free) (vx_Post XC mc ms free) := by
  intro m meth c A g ig mk a X hg hsize hdg hW hn hp
  have h1 : (headSpec ws rm).pre.before a A.U = true := atoms_intro fun w hw => hws w hw _ _ X.warmed
  have h2 : (Cond.code y bytes maxL ret).before a A.U = true := hws _ hcode _ _ X.warmed
  have h3 : (Cond.initialized y.cls).before a A.U = true := hinit _ _ X.warmed
  have h4 : A.cells + (headSpec ws rm).room.cells ≤ R.cells := by rw [show (headSpec ws rm).room.cells = mc from hrc]; exact hp.1
  have h5 : A.slots + (headSpec ws rm).room.slots ≤ R.slots := by rw [show (headSpec ws rm).room.slots = ms from hrs]; exact hp.2.1
  have hPc : Pc a (A.U.calling g mk a) := hblind _ _ _ _ hp.2.2
  obtain ⟨U, Ls, c0, s0⟩ := A
  dsimp only [Pt.U, Pt.locs, Pt.cells, Pt.slots] at h1 h2 h3 h4 h5 X hn hPc ⊢
  obtain ⟨methY, cY, hmY, hcY, -, hlY, -, -, -, -⟩ := Cond.code_spec hn h2
  obtain ⟨kY, hkY, -⟩ := className_of_methodNamed hn
  have hinitY : kY.init = .initialized := Cond.initialized_spec (findClass_of_methodNamed hn) hkY h3
  have h : At U g.method c below := by rw [hg]; exact X.here
  have hlocals9 : W9 + (maxL + 11) + (headSpec ws rm).room.locals ≤ R.locals := hlocals
  have happ : (headSpec ws rm).appliesLoose y e.platform (U.calling g mk a) = true :=
    Spec.appliesLoose_calling (g := g) h hdg hn hkY hinitY
      (X.room_calling (g := g) (R' := (headSpec ws rm).room) hsize hmY hcY hframes (by rw [hlY]; omega) h4 h5) h1
  obtain ⟨mid, hmid⟩ := h.above
  have hfr : (U.setTop g).frames = (.java g :: mid) ++ below := by rw [State.frames_setTop' g h.top, hmid]; rfl
  obtain ⟨o, s₂, hsteps, -, hend, hq⟩ := Steps.callFree hM p X.admits X.cas X.clock (acts := []) hfr happ hPc trivial
  have hq' : vx_Q Qc XC mc ms free a (U.calling g mk a) o s₂ := hq
  rw [State.frames_setTop' g h.top] at hend
  obtain ⟨g₀, hg0⟩ := Option.isSome_iff_exists.mp h.top
  obtain ⟨r, hr⟩ := State.topJava?_eq_some.mp hg0
  have hr' : (({ U with heap := s₂.heap, slotsUsed := s₂.slotsUsed } : State).setVm s₂.vm).frames = .java g₀ :: r := hr
  rcases hq' with ⟨hqc, L, hfe, hL⟩ | ⟨q, rfl, E, ce, L, hx, hce, hcv, hcl, hW₂, hsm, hL⟩
  · obtain ⟨⟨v, rfl⟩, hW₂, e2, q2, q3, q4, q5, q6⟩ := id hfe
    have e3 : s₂ = ({ (U.calling g mk a).setFrames s₂.frames with heap := s₂.heap, slotsUsed := s₂.slotsUsed } : State).setVm s₂.vm := by
      have : s₂ = ({ s₂ with vm := (U.calling g mk a).vm } : State).setVm s₂.vm := rfl
      rw [e2] at this
      exact this
    obtain ⟨c₂, i₂, len₂, hc₂, hd₂, hf₂⟩ := hend
    have hW' : U.WarmedH s₂.vm := hW₂
    have hcc : c₂ = c := by
      have h1 : s₂.code? g.method = U.code? g.method := by
        rw [State.code?_eq, State.code?_eq, hW'.alike.method?]
      exact Option.some.inj (hc₂.symm.trans (h1.trans h.code))
    subst hcc
    have hlen : len₂ = len := by rw [hdg] at hd₂; cases hd₂; rfl
    subst hlen
    have hs₂ : s₂ = (({ U with heap := s₂.heap, slotsUsed := s₂.slotsUsed } : State).setVm s₂.vm).setTop { g with pc := g.pc + len₂, stack := v.toList ++ g.stack } := by
      refine e3.trans ?_
      rw [hf₂, State.calling_eq h.top, State.setFrames_setFrames, State.setTop_of_frames _ hr', hr]
      rfl
    have hsame : U.sameButNew ({ U with heap := s₂.heap, slotsUsed := s₂.slotsUsed } : State) L mc ms := by
      refine ⟨?_, q2, q3, q4, q5, q6⟩
      obtain ⟨t, ht, -⟩ := State.frames_cons hr
      show ({ U with heap := s₂.heap, slotsUsed := s₂.slotsUsed } : State) = { U.setFrames U.frames with heap := s₂.heap, slotsUsed := s₂.slotsUsed }
      rw [State.setFrames_self ht]
    subst hg
    refine Or.inl ⟨v, ⟨(({ U with heap := s₂.heap, slotsUsed := s₂.slotsUsed } : State).setVm s₂.vm), Ls ++ L, c0 + mc, s0 + ms⟩,
      ⟨X.admits, X.cas, X.clock, X.frames, X.room, X.hears, X.method, X.code, (X.here.setHeapUsed s₂.heap s₂.slotsUsed).setVm hW'.alike, X.tail, State.WarmedH.trans X.warmed hW', X.limits, X.bytes, X.same.trans (hsame.setVm s.vm)⟩,
      ⟨g, mk, s₂, L, rfl, rfl, hqc, rfl, hL, rfl, rfl⟩, ?_⟩
    show Steps p.tables e below _ ((({ U with heap := s₂.heap, slotsUsed := s₂.slotsUsed } : State).setVm s₂.vm).setTop { g with pc := g.pc + len₂, stack := v.toList ++ g.stack })
    rw [← hs₂]
    exact hsteps
  · obtain ⟨e2, q2, q3, q4, q5, q6⟩ := id hsm
    have e3 : s₂ = ({ (U.calling g mk a).setFrames s₂.frames with heap := s₂.heap, slotsUsed := s₂.slotsUsed } : State).setVm s₂.vm := by
      have : s₂ = ({ s₂ with vm := (U.calling g mk a).vm } : State).setVm s₂.vm := rfl
      rw [e2] at this
      exact this
    have hf₂ : s₂.frames = .throwing q :: .java g :: U.frames.tail := hend
    have hW' : U.WarmedH s₂.vm := hW₂
    have hs₂ : s₂ = ((({ U with heap := s₂.heap, slotsUsed := s₂.slotsUsed } : State).setVm s₂.vm).setTop g).pushFrame (.throwing q) := by
      refine e3.trans ?_
      rw [hf₂, State.calling_eq h.top, State.setFrames_setFrames, State.pushFrame, State.frames_setTop _ hr', State.setTop_of_frames _ hr', State.setFrames_setFrames, hr]
      rfl
    have hsame : U.sameButNew ({ U with heap := s₂.heap, slotsUsed := s₂.slotsUsed } : State) L mc ms := by
      refine ⟨?_, q2, q3, q4, q5, q6⟩
      obtain ⟨t, ht, -⟩ := State.frames_cons hr
      show ({ U with heap := s₂.heap, slotsUsed := s₂.slotsUsed } : State) = { U.setFrames U.frames with heap := s₂.heap, slotsUsed := s₂.slotsUsed }
      rw [State.setFrames_self ht]
    subst hg
    refine Or.inr ⟨q, ⟨(({ U with heap := s₂.heap, slotsUsed := s₂.slotsUsed } : State).setVm s₂.vm), Ls ++ L, c0 + mc, s0 + ms⟩,
      ⟨X.admits, X.cas, X.clock, X.frames, X.room, X.hears, X.method, X.code, (X.here.setHeapUsed s₂.heap s₂.slotsUsed).setVm hW'.alike, X.tail, State.WarmedH.trans X.warmed hW', X.limits, X.bytes, X.same.trans (hsame.setVm s.vm)⟩,
      ⟨g, mk, s₂, L, E, ce, rfl, rfl, hx, hce, hcv, hcl, rfl, hL, rfl, rfl⟩, ?_⟩
    show Steps p.tables e below _ (((({ U with heap := s₂.heap, slotsUsed := s₂.slotsUsed } : State).setVm s₂.vm).setTop g).pushFrame (.throwing q))
    rw [← hs₂]
    exact hsteps
end Payer
section Calls
variable {p : Program} {l : Launch} {e : Env} {R : Room} {s : State} {m : MethodId} {args : Array Value} {below : List Frame} {meth : Method} {c : Code} {T : State} {locs : List Loc} {cells slots : Nat}
theorem vx_callV (X : Stand p l e R s m args below meth c T locs cells slots) (hexec : p.tables.exec = Jvm.exec) {own C : String} {index : Nat} {y : MethodName} {bytes : ByteArray} {maxL : Nat} {ret : Option FieldType}
    (hown : s.vm.findClass own = some m.cls) (hlink : (Cond.methodLink own index y).before args s = true) (hinst : (Cond.instanceMethod y).before args s = true) (hsel : (Cond.selects C y y).before args s = true)
    (hcode : (Cond.code y bytes maxL ret).before args s = true) (hy : y.cls ≠ "java/lang/invoke/MethodHandle" ∧ y.cls ≠ "java/lang/invoke/VarHandle")
    {W9 : Nat} {Pre : Pt → Array Value → Prop} {Post : Pt → Array Value → Option Value → Pt → Prop} {PostX : Pt → Array Value → Addr → Pt → Prop} (hK : vx_Back l R p e below s args y 3 W9 Pre Post PostX)
    {b : Addr} {cellB : Cell} (hcell : T.heap[b]? = some cellB) (hobj : cellB.vm.isStatics = false) (hcls : s.vm.findClass C = some cellB.cls)
    {g : JFrame} (hg : g.method = m) (hsize : g.locals.size = c.maxLocals) {argsL rest : List Value} (hlen : ∀ sig, parseMethodDescriptor y.desc = some sig → argsL.length = sig.parameters.length)
    (hstack : g.stack = argsL.reverse ++ .ref b :: rest) (hW : 2 * g.monitorRoom + (rest.map fun v => v.category).sum ≤ W9) (hdg : decode c.code g.pc = .ok (.invokevirtual index, 3))
    (hpre : ∀ vm₁, s.WarmedH vm₁ → Pre ⟨T.setVm vm₁, locs, cells, slots⟩ (Value.ref b :: argsL).toArray) :
    (∃ (v : Option Value) (vm₁ : Vm) (B : Pt), s.WarmedH vm₁ ∧ Stand p l e R s m args below meth c B.U B.locs B.cells B.slots ∧ Post ⟨T.setVm vm₁, locs, cells, slots⟩ (Value.ref b :: argsL).toArray v B ∧
      ∀ target, Steps p.tables e below (B.U.setTop { g with pc := g.pc + 3, stack := v.toList ++ rest }) target → Steps p.tables e below (T.setTop g) target) ∨
    (∃ (q : Addr) (vm₁ : Vm) (B : Pt), s.WarmedH vm₁ ∧ Stand p l e R s m args below meth c B.U B.locs B.cells B.slots ∧ PostX ⟨T.setVm vm₁, locs, cells, slots⟩ (Value.ref b :: argsL).toArray q B ∧
      Steps p.tables e below (T.setTop g) ((B.U.setTop { g with stack := rest }).pushFrame (.throwing q))) := by
  obtain ⟨mk, methM, hnamed, hmethM, hstM, habM⟩ := Cond.instanceMethod_spec hinst
  obtain ⟨methM', cM, hmethM', -, -, -, -, -, -, hsigM⟩ := Cond.code_spec hnamed hcode
  cases hmethM.symm.trans hmethM'
  obtain ⟨c2, r2, m2, q1, q2, q3, q4, kP, hkP, hkPi⟩ := Cond.selects_spec hsel
  cases hcls.symm.trans q1
  cases (State.methodFound?_of_named hnamed hy).symm.trans q2
  cases hnamed.symm.trans q3
  have hselP : selectMethod e.platform s.vm cellB.cls mk = .method mk := by rw [Launch.admits_selectMethod X.admits]; exact q4
  obtain ⟨vm₁, X₁, hstep₁⟩ := X.invokevirtual hexec hown hlink hnamed hmethM hstM hkP hkPi hy (a := b) (cell := cellB) hcell
    (fun z h => by rw [h] at hobj; cases hobj) hselP hmethM habM hkP hkPi (g := g) hg (argsL := argsL) (rest := rest) (hlen _ hsigM) hstack hdg
  rcases hK m meth c ⟨T.setVm vm₁, locs, cells, slots⟩ { g with stack := rest } (.invokevirtual index) mk (Value.ref b :: argsL).toArray X₁ hg hsize hdg hW (X₁.named hnamed) (hpre vm₁ X₁.warmed) with ⟨v, B, X', hpost, hsteps⟩ | ⟨q, B, X', hpost, hsteps⟩
  · exact Or.inl ⟨v, vm₁, B, X₁.warmed, X', hpost, fun target h => hstep₁ _ fun acts => by rw [doInvoke_state]; exact hsteps.trans h⟩
  · exact Or.inr ⟨q, vm₁, B, X₁.warmed, X', hpost, hstep₁ _ fun acts => by rw [doInvoke_state]; exact hsteps⟩
theorem vx_callS (X : Stand p l e R s m args below meth c T locs cells slots) (hexec : p.tables.exec = Jvm.exec) {own : String} {index : Nat} {y : MethodName} {bytes : ByteArray} {maxL : Nat} {ret : Option FieldType}
    (hown : s.vm.findClass own = some m.cls) (hlink : (Cond.methodLink own index y).before args s = true) (hstat : (Cond.static y).before args s = true) (hinit : (Cond.initialized y.cls).before args s = true)
    (hcode : (Cond.code y bytes maxL ret).before args s = true) (hy : y.cls ≠ "java/lang/invoke/MethodHandle" ∧ y.cls ≠ "java/lang/invoke/VarHandle")
    {W9 : Nat} {Pre : Pt → Array Value → Prop} {Post : Pt → Array Value → Option Value → Pt → Prop} {PostX : Pt → Array Value → Addr → Pt → Prop} (hK : vx_Back l R p e below s args y 3 W9 Pre Post PostX)
    {g : JFrame} (hg : g.method = m) (hsize : g.locals.size = c.maxLocals) {argsL rest : List Value} (hlen : ∀ sig, parseMethodDescriptor y.desc = some sig → argsL.length = sig.parameters.length)
    (hstack : g.stack = argsL.reverse ++ rest) (hW : 2 * g.monitorRoom + (rest.map fun v => v.category).sum ≤ W9) (hdg : decode c.code g.pc = .ok (.invokestatic index, 3))
    (hpre : ∀ vm₁, s.WarmedH vm₁ → Pre ⟨T.setVm vm₁, locs, cells, slots⟩ argsL.toArray) :
    (∃ (v : Option Value) (vm₁ : Vm) (B : Pt), s.WarmedH vm₁ ∧ Stand p l e R s m args below meth c B.U B.locs B.cells B.slots ∧ Post ⟨T.setVm vm₁, locs, cells, slots⟩ argsL.toArray v B ∧
      ∀ target, Steps p.tables e below (B.U.setTop { g with pc := g.pc + 3, stack := v.toList ++ rest }) target → Steps p.tables e below (T.setTop g) target) ∨
    (∃ (q : Addr) (vm₁ : Vm) (B : Pt), s.WarmedH vm₁ ∧ Stand p l e R s m args below meth c B.U B.locs B.cells B.slots ∧ PostX ⟨T.setVm vm₁, locs, cells, slots⟩ argsL.toArray q B ∧
      Steps p.tables e below (T.setTop g) ((B.U.setTop { g with stack := rest }).pushFrame (.throwing q))) := by
  obtain ⟨mk, hnamed⟩ := Cond.code_named hcode
  obtain ⟨methM, cM, hmethM, -, -, -, -, -, -, hsigM⟩ := Cond.code_spec hnamed hcode
  have hstatic : methM.isStatic = true := Cond.static_spec hnamed hmethM hstat
  obtain ⟨kP, hkP, -⟩ := className_of_methodNamed hnamed
  have hinitP : kP.init = .initialized := Cond.initialized_spec (findClass_of_methodNamed hnamed) hkP hinit
  obtain ⟨vm₁, X₁, hstep₁⟩ := X.invokestatic hexec hown hlink hnamed hmethM hstatic hkP hinitP hy (g := g) hg (argsL := argsL) (rest := rest) (hlen _ hsigM) hstack hdg
  rcases hK m meth c ⟨T.setVm vm₁, locs, cells, slots⟩ { g with stack := rest } (.invokestatic index) mk argsL.toArray X₁ hg hsize hdg hW (X₁.named hnamed) (hpre vm₁ X₁.warmed) with ⟨v, B, X', hpost, hsteps⟩ | ⟨q, B, X', hpost, hsteps⟩
  · exact Or.inl ⟨v, vm₁, B, X₁.warmed, X', hpost, fun target h => hstep₁ _ fun acts => by rw [doInvoke_state]; exact hsteps.trans h⟩
  · exact Or.inr ⟨q, vm₁, B, X₁.warmed, X', hpost, hstep₁ _ fun acts => by rw [doInvoke_state]; exact hsteps⟩
end Calls
theorem vx_cls {s : State} {T : State} {vm₁ : Vm} {E : String} {k : ClassId} (hW : s.WarmedH vm₁) (h : (T.setVm vm₁).vm.findClass E = some k) : s.vm.findClass E = some k := by
  have h1 : vm₁.findClass E = some k := h
  rw [hW.alike.findClass] at h1
  exact h1
/-- the method's frame g, with q thrown over it -/
def vx_W (p : Program) (l : Launch) (e : Env) (R : Room) (s : State) (m : MethodId) (args : Array Value) (below : List Frame) (meth : Method) (c : Code) (H : Heap) (locs : List Loc) (cells slots : Nat) (Q : State → Prop) (g : JFrame) (q : Addr) : Prop :=
  ∀ T : State, T.heap = H → Stand p l e R s m args below meth c T locs cells slots → ∃ t, Steps p.tables e below ((T.setTop g).pushFrame (.throwing q)) t ∧ Q t
def vx_Run (p : Program) (l : Launch) (e : Env) (R : Room) (s : State) (m : MethodId) (args : Array Value) (below : List Frame) (meth : Method) (c : Code) (H : Heap) (locs : List Loc) (cells slots mc ms : Nat) (g : JFrame) (rest : List Value) (Qa : State → Outcome → State → Prop) (XC : String → State → State → Prop) (free : Addr → Prop) : Prop :=
  ∀ T : State, T.heap = H → Stand p l e R s m args below meth c T locs cells slots →
    (∃ (v : Option Value) (st₀ t T' : State) (L : List Loc), st₀.heap = H ∧ Stand p l e R s m args below meth c T' (locs ++ L) (cells + mc) (slots + ms) ∧ (∀ q ∈ L, free q.base) ∧ T'.heap = t.heap ∧ T'.vm = t.vm ∧ Qa st₀ (.returned v) t ∧
      Goes p e below T g T' { g with pc := g.pc + 3, stack := v.toList ++ rest }) ∨
    (∃ (q : Addr) (st₀ t T' : State) (L : List Loc) (E : String) (ce : Cell), st₀.heap = H ∧ Stand p l e R s m args below meth c T' (locs ++ L) (cells + mc) (slots + ms) ∧ (∀ z ∈ L, free z.base) ∧ T'.heap = t.heap ∧ T'.vm = t.vm ∧ XC E st₀ t ∧ t.heap[q]? = some ce ∧ ce.vm = .none ∧ s.vm.findClass E = some ce.cls ∧
      Steps p.tables e below (T.setTop g) ((T'.setTop { g with stack := rest }).pushFrame (.throwing q)))
def vx_X {S : Type} (px : S → Prop) (B : String → S → State → Prop) (A : Nat → Prop) : String → State → State → Prop := fun E st t => ∃ u : S, px u ∧ B E u t ∧ va_F A st t
section Runs
variable {p : Program} {l : Launch} {e : Env} {R : Room} {s : State} {m : MethodId} {args : Array Value} {below : List Frame} {meth : Method} {c : Code} {H : Heap} {locs : List Loc} {cells slots : Nat}
variable {y : MethodName} {bytes cc : ByteArray} {maxL nL mc ms n index : Nat} {ret : Option FieldType} {ws : List Cond} {rm : Room} {Pc : Array Value → State → Prop} {Qc : Array Value → State → Outcome → State → Prop} {XC : String → State → State → Prop} {free : Addr → Prop} {Ts : List Cond} {own C : String} {b : Addr} {As rest : List Value} {g : JFrame}
theorem vx_callBack (cb : CallB R s args own index y bytes maxL ret ws rm mc ms n) (hM : vx_Met l y ws rm Pc Qc XC mc ms free) (hbl : FrameBlind Pc) : vx_Back l R p e below s args y 3 8 (PreOf R mc ms Pc) (PostOf Qc mc ms free) (vx_Post XC mc ms free) := by
  obtain ⟨hrc, hrs, hfr, hlo, hws, hcw, -, hini, -⟩ := cb
  exact vx_back (bytes := bytes) (maxL := maxL) (ret := ret) hM hbl hrc hrs hfr hlo hws hcw (fun a' U hW => word_at hW (Or.inl (by first | rfl | simp [Cond.onTables, Cond.keeps, Cond.steady])) hini)
theorem vx_runV (S : CallFix p m c cc nL s args Ts own) (hM : vx_Met l y ws rm Pc Qc XC mc ms free) (cw : CallW R s args own C index y bytes maxL ret ws rm mc ms n) (hp : PreV s H C b Pc As)
    (hg : g.method = m) (hn : As.length = n) (hsize : g.locals.size = nL) (hstack : g.stack = As.reverse ++ .ref b :: rest) (hW : 2 * g.monitorRoom + (rest.map fun v => v.category).sum ≤ 8) (hdg : decode cc g.pc = .ok (.invokevirtual index, 3)) (hf : cells + mc ≤ R.cells ∧ slots + ms ≤ R.slots) :
    vx_Run p l e R s m args below meth c H locs cells slots mc ms g rest (Qc (Value.ref b :: As).toArray) XC free := by
  have hK : vx_Back l R p e below s args y 3 8 (PreOf R mc ms Pc) (PostOf Qc mc ms free) (vx_Post XC mc ms free) := vx_callBack cw.1 hM hp.1
  obtain ⟨⟨-, -, -, -, -, -, hcode, -, hy, hlen, hl⟩, hin, hse⟩ := cw
  obtain ⟨hx, hb, hml, ho, -⟩ := S
  obtain ⟨-, ⟨cellB, hcB, hoB, hclB⟩, hPc⟩ := hp
  intro T hT X
  rcases vx_callV X hx (C := C) (bytes := bytes) (maxL := maxL) (ret := ret) ho hl hin hse hcode hy hK (by rw [hT]; exact hcB) hoB hclB hg (hsize.trans hml.symm) (argsL := As) (rest := rest) (fun sig h => hn.trans (hlen sig h)) hstack hW (by rw [hb]; exact hdg)
    (fun vm₁ hW₁ => ⟨hf.1, hf.2, hPc (T.setVm vm₁) hT hW₁⟩) with ⟨v, vm₁, ⟨U', l2, c2, s2⟩, hW₁, X', ⟨g', mk, t, L, e1, e2, hq, h1, hL, h2, h3⟩, st⟩ | ⟨q, vm₁, ⟨U', l2, c2, s2⟩, hW₁, X', ⟨g', mk, t, L, E, ce, e1, e2, hq, hce, hcv, hcl, h1, hL, h2, h3⟩, st⟩
  · dsimp only [Pt.U, Pt.locs, Pt.cells, Pt.slots] at X' e1 e2 h1 h2 h3 st
    subst h1; subst h2; subst h3
    exact Or.inl ⟨v, (T.setVm vm₁).calling g' mk (Value.ref b :: As).toArray, t, U', L, hT, X', hL, e1, e2, hq, st⟩
  · dsimp only [Pt.U, Pt.locs, Pt.cells, Pt.slots] at X' e1 e2 h1 h2 h3 st hcl
    subst h1; subst h2; subst h3
    exact Or.inr ⟨q, (T.setVm vm₁).calling g' mk (Value.ref b :: As).toArray, t, U', L, E, ce, hT, X', hL, e1, e2, hq, hce, hcv, vx_cls hW₁ hcl, st⟩
theorem vx_runS (S : CallFix p m c cc nL s args Ts own) (hM : vx_Met l y ws rm Pc Qc XC mc ms free) (cw : CallB R s args own index y bytes maxL ret ws rm mc ms n ∧ (Cond.static y).before args s = true) (hp : PreS s H Pc As)
    (hg : g.method = m) (hn : As.length = n) (hsize : g.locals.size = nL) (hstack : g.stack = As.reverse ++ rest) (hW : 2 * g.monitorRoom + (rest.map fun v => v.category).sum ≤ 8) (hdg : decode cc g.pc = .ok (.invokestatic index, 3)) (hf : cells + mc ≤ R.cells ∧ slots + ms ≤ R.slots) :
    vx_Run p l e R s m args below meth c H locs cells slots mc ms g rest (Qc As.toArray) XC free := by
  have hK : vx_Back l R p e below s args y 3 8 (PreOf R mc ms Pc) (PostOf Qc mc ms free) (vx_Post XC mc ms free) := vx_callBack cw.1 hM hp.1
  obtain ⟨⟨-, -, -, -, -, -, hcode, hini, hy, hlen, hl⟩, hstt⟩ := cw
  obtain ⟨hx, hb, hml, ho, -⟩ := S
  intro T hT X
  rcases vx_callS X hx (bytes := bytes) (maxL := maxL) (ret := ret) ho hl hstt hini hcode hy hK hg (hsize.trans hml.symm) (argsL := As) (rest := rest) (fun sig h => hn.trans (hlen sig h)) hstack hW (by rw [hb]; exact hdg)
    (fun vm₁ hW₁ => ⟨hf.1, hf.2, hp.2 (T.setVm vm₁) hT hW₁⟩) with ⟨v, vm₁, ⟨U', l2, c2, s2⟩, hW₁, X', ⟨g', mk, t, L, e1, e2, hq, h1, hL, h2, h3⟩, st⟩ | ⟨q, vm₁, ⟨U', l2, c2, s2⟩, hW₁, X', ⟨g', mk, t, L, E, ce, e1, e2, hq, hce, hcv, hcl, h1, hL, h2, h3⟩, st⟩
  · dsimp only [Pt.U, Pt.locs, Pt.cells, Pt.slots] at X' e1 e2 h1 h2 h3 st
    subst h1; subst h2; subst h3
    exact Or.inl ⟨v, (T.setVm vm₁).calling g' mk As.toArray, t, U', L, hT, X', hL, e1, e2, hq, st⟩
  · dsimp only [Pt.U, Pt.locs, Pt.cells, Pt.slots] at X' e1 e2 h1 h2 h3 st hcl
    subst h1; subst h2; subst h3
    exact Or.inr ⟨q, (T.setVm vm₁).calling g' mk As.toArray, t, U', L, E, ce, hT, X', hL, e1, e2, hq, hce, hcv, vx_cls hW₁ hcl, st⟩
end Runs
section Rows
variable {p : Program} {l : Launch} {e : Env} {R : Room} {s : State} {m : MethodId} {args : Array Value} {below : List Frame} {meth : Method} {c : Code} {H : Heap} {locs : List Loc} {cells slots : Nat} {Q : State → Prop}
variable {mc ms : Nat} {free : Addr → Prop} {A0 A1 : Nat → Prop} {H0 : Heap} {a : Array Value} {pc : Nat} {ls : Array Slot} {st0 rest : List Value}
theorem vx_keep {st₀ t T' : State} {L : List Loc} (h0 : st₀.heap = H) (e1 : T'.heap = t.heap) (hS : va_S A0 H0 H locs) (hA : ∀ q, q < H.size → A1 q → A0 q) (hf : ∀ q, free q → A0 q) (hL : ∀ q ∈ L, free q.base) (hF : va_F A1 st₀ t) :
    H.size ≤ T'.heap.size ∧ (∀ q : Nat, q < H.size → ¬ A1 q → T'.heap[q]? = H[q]?) ∧ va_S A0 H0 T'.heap (locs ++ L) := by
  obtain ⟨hz, hk⟩ := hF
  rw [h0] at hz hk
  exact ⟨by rw [e1]; exact hz, fun q h1 h2 => by rw [e1]; exact hk q h1 h2,
    ⟨Nat.le_trans hS.1 (by rw [e1]; exact hz), fun q h1 h2 => by rw [e1, hk q (Nat.lt_of_lt_of_le h1 hS.1) (fun z => h2 (hA q (Nat.lt_of_lt_of_le h1 hS.1) z))]; exact hS.2.1 q h1 h2, fun q hq => by
      rcases List.mem_append.mp hq with h | h
      · exact hS.2.2 q h
      · exact hf _ (hL q h)⟩⟩
theorem vx_calli {S SX : Type} {post : Int32 → S → Prop} {px : SX → Prop} {B : S → State → Prop} {BX : String → SX → State → Prop} {AX : Nat → Prop} (hr : vx_Run p l e R s m args below meth c H locs cells slots mc ms (F0 m pc ls st0) rest (va_Qi post B A1 a) (vx_X px BX AX) free) (hS : va_S A0 H0 H locs) (hA : ∀ q, q < H.size → A1 q → A0 q) (hf : ∀ q, free q → A0 q) (hAX : ∀ q, q < H.size → AX q → A0 q)
    (kx : ∀ (E : String) (ce : Cell) (q9 : Addr) (u : SX) (t : State) (H1 : Heap) (locs1 : List Loc), t.heap = H1 → s.vm.Alike t.vm → px u → BX E u t → H.size ≤ H1.size → (∀ q : Nat, q < H.size → ¬ AX q → H1[q]? = H[q]?) → va_S A0 H0 H1 locs1 → H1[q9]? = some ce → ce.vm = .none → s.vm.findClass E = some ce.cls → vx_W p l e R s m args below meth c H1 locs1 (cells + mc) (slots + ms) Q (F0 m pc ls rest) q9)
    (kk : ∀ (r : Int32) (u : S) (t : State) (H1 : Heap) (locs1 : List Loc), t.heap = H1 → s.vm.Alike t.vm → post r u → B u t → H.size ≤ H1.size → (∀ q : Nat, q < H.size → ¬ A1 q → H1[q]? = H[q]?) → va_S A0 H0 H1 locs1 → W p l e R s m args below meth c H1 locs1 (cells + mc) (slots + ms) Q (F0 m (pc + 3) ls (.int r :: rest))) : W p l e R s m args below meth c H locs cells slots Q (F0 m pc ls st0) := by
  intro T hT X
  rcases hr T hT X with ⟨v, st₀, t, T', L, h0, X', hL, e1, e2, ⟨⟨r, u, hv, hp, hb⟩, hF⟩, st⟩ | ⟨q, st₀, t, T', L, E, ce, h0, X', hL, e1, e2, ⟨u, hp, hb, hF⟩, hce, hcv, hcl, st⟩
  · cases hv
    obtain ⟨k1, k2, k3⟩ := vx_keep h0 e1 hS hA hf hL hF
    obtain ⟨t2, a1, b1⟩ := kk r u t T'.heap (locs ++ L) e1.symm (by rw [← e2]; exact X'.warmed.alike) hp hb k1 k2 k3 T' rfl X'
    exact ⟨t2, st t2 a1, b1⟩
  · obtain ⟨k1, k2, k3⟩ := vx_keep h0 e1 hS hAX hf hL hF
    obtain ⟨t2, a1, b1⟩ := kx E ce q u t T'.heap (locs ++ L) e1.symm (by rw [← e2]; exact X'.warmed.alike) hp hb k1 k2 k3 (by rw [e1]; exact hce) hcv hcl T' rfl X'
    exact ⟨t2, st.trans a1, b1⟩
theorem vx_calll {S SX : Type} {post : Int64 → S → Prop} {px : SX → Prop} {B : S → State → Prop} {BX : String → SX → State → Prop} {AX : Nat → Prop} (hr : vx_Run p l e R s m args below meth c H locs cells slots mc ms (F0 m pc ls st0) rest (va_Ql post B A1 a) (vx_X px BX AX) free) (hS : va_S A0 H0 H locs) (hA : ∀ q, q < H.size → A1 q → A0 q) (hf : ∀ q, free q → A0 q) (hAX : ∀ q, q < H.size → AX q → A0 q)
    (kx : ∀ (E : String) (ce : Cell) (q9 : Addr) (u : SX) (t : State) (H1 : Heap) (locs1 : List Loc), t.heap = H1 → s.vm.Alike t.vm → px u → BX E u t → H.size ≤ H1.size → (∀ q : Nat, q < H.size → ¬ AX q → H1[q]? = H[q]?) → va_S A0 H0 H1 locs1 → H1[q9]? = some ce → ce.vm = .none → s.vm.findClass E = some ce.cls → vx_W p l e R s m args below meth c H1 locs1 (cells + mc) (slots + ms) Q (F0 m pc ls rest) q9)
    (kk : ∀ (r : Int64) (u : S) (t : State) (H1 : Heap) (locs1 : List Loc), t.heap = H1 → s.vm.Alike t.vm → post r u → B u t → H.size ≤ H1.size → (∀ q : Nat, q < H.size → ¬ A1 q → H1[q]? = H[q]?) → va_S A0 H0 H1 locs1 → W p l e R s m args below meth c H1 locs1 (cells + mc) (slots + ms) Q (F0 m (pc + 3) ls (.long r :: rest))) : W p l e R s m args below meth c H locs cells slots Q (F0 m pc ls st0) := by
  intro T hT X
  rcases hr T hT X with ⟨v, st₀, t, T', L, h0, X', hL, e1, e2, ⟨⟨r, u, hv, hp, hb⟩, hF⟩, st⟩ | ⟨q, st₀, t, T', L, E, ce, h0, X', hL, e1, e2, ⟨u, hp, hb, hF⟩, hce, hcv, hcl, st⟩
  · cases hv
    obtain ⟨k1, k2, k3⟩ := vx_keep h0 e1 hS hA hf hL hF
    obtain ⟨t2, a1, b1⟩ := kk r u t T'.heap (locs ++ L) e1.symm (by rw [← e2]; exact X'.warmed.alike) hp hb k1 k2 k3 T' rfl X'
    exact ⟨t2, st t2 a1, b1⟩
  · obtain ⟨k1, k2, k3⟩ := vx_keep h0 e1 hS hAX hf hL hF
    obtain ⟨t2, a1, b1⟩ := kx E ce q u t T'.heap (locs ++ L) e1.symm (by rw [← e2]; exact X'.warmed.alike) hp hb k1 k2 k3 (by rw [e1]; exact hce) hcv hcl T' rfl X'
    exact ⟨t2, st.trans a1, b1⟩
theorem vx_callf {S SX : Type} {post : UInt32 → S → Prop} {px : SX → Prop} {B : S → State → Prop} {BX : String → SX → State → Prop} {AX : Nat → Prop} (hr : vx_Run p l e R s m args below meth c H locs cells slots mc ms (F0 m pc ls st0) rest (va_Qf post B A1 a) (vx_X px BX AX) free) (hS : va_S A0 H0 H locs) (hA : ∀ q, q < H.size → A1 q → A0 q) (hf : ∀ q, free q → A0 q) (hAX : ∀ q, q < H.size → AX q → A0 q)
    (kx : ∀ (E : String) (ce : Cell) (q9 : Addr) (u : SX) (t : State) (H1 : Heap) (locs1 : List Loc), t.heap = H1 → s.vm.Alike t.vm → px u → BX E u t → H.size ≤ H1.size → (∀ q : Nat, q < H.size → ¬ AX q → H1[q]? = H[q]?) → va_S A0 H0 H1 locs1 → H1[q9]? = some ce → ce.vm = .none → s.vm.findClass E = some ce.cls → vx_W p l e R s m args below meth c H1 locs1 (cells + mc) (slots + ms) Q (F0 m pc ls rest) q9)
    (kk : ∀ (r : UInt32) (u : S) (t : State) (H1 : Heap) (locs1 : List Loc), t.heap = H1 → s.vm.Alike t.vm → post r u → B u t → H.size ≤ H1.size → (∀ q : Nat, q < H.size → ¬ A1 q → H1[q]? = H[q]?) → va_S A0 H0 H1 locs1 → W p l e R s m args below meth c H1 locs1 (cells + mc) (slots + ms) Q (F0 m (pc + 3) ls (.float r :: rest))) : W p l e R s m args below meth c H locs cells slots Q (F0 m pc ls st0) := by
  intro T hT X
  rcases hr T hT X with ⟨v, st₀, t, T', L, h0, X', hL, e1, e2, ⟨⟨r, u, hv, hp, hb⟩, hF⟩, st⟩ | ⟨q, st₀, t, T', L, E, ce, h0, X', hL, e1, e2, ⟨u, hp, hb, hF⟩, hce, hcv, hcl, st⟩
  · cases hv
    obtain ⟨k1, k2, k3⟩ := vx_keep h0 e1 hS hA hf hL hF
    obtain ⟨t2, a1, b1⟩ := kk r u t T'.heap (locs ++ L) e1.symm (by rw [← e2]; exact X'.warmed.alike) hp hb k1 k2 k3 T' rfl X'
    exact ⟨t2, st t2 a1, b1⟩
  · obtain ⟨k1, k2, k3⟩ := vx_keep h0 e1 hS hAX hf hL hF
    obtain ⟨t2, a1, b1⟩ := kx E ce q u t T'.heap (locs ++ L) e1.symm (by rw [← e2]; exact X'.warmed.alike) hp hb k1 k2 k3 (by rw [e1]; exact hce) hcv hcl T' rfl X'
    exact ⟨t2, st.trans a1, b1⟩
theorem vx_calld {S SX : Type} {post : UInt64 → S → Prop} {px : SX → Prop} {B : S → State → Prop} {BX : String → SX → State → Prop} {AX : Nat → Prop} (hr : vx_Run p l e R s m args below meth c H locs cells slots mc ms (F0 m pc ls st0) rest (va_Qd post B A1 a) (vx_X px BX AX) free) (hS : va_S A0 H0 H locs) (hA : ∀ q, q < H.size → A1 q → A0 q) (hf : ∀ q, free q → A0 q) (hAX : ∀ q, q < H.size → AX q → A0 q)
    (kx : ∀ (E : String) (ce : Cell) (q9 : Addr) (u : SX) (t : State) (H1 : Heap) (locs1 : List Loc), t.heap = H1 → s.vm.Alike t.vm → px u → BX E u t → H.size ≤ H1.size → (∀ q : Nat, q < H.size → ¬ AX q → H1[q]? = H[q]?) → va_S A0 H0 H1 locs1 → H1[q9]? = some ce → ce.vm = .none → s.vm.findClass E = some ce.cls → vx_W p l e R s m args below meth c H1 locs1 (cells + mc) (slots + ms) Q (F0 m pc ls rest) q9)
    (kk : ∀ (r : UInt64) (u : S) (t : State) (H1 : Heap) (locs1 : List Loc), t.heap = H1 → s.vm.Alike t.vm → post r u → B u t → H.size ≤ H1.size → (∀ q : Nat, q < H.size → ¬ A1 q → H1[q]? = H[q]?) → va_S A0 H0 H1 locs1 → W p l e R s m args below meth c H1 locs1 (cells + mc) (slots + ms) Q (F0 m (pc + 3) ls (.double r :: rest))) : W p l e R s m args below meth c H locs cells slots Q (F0 m pc ls st0) := by
  intro T hT X
  rcases hr T hT X with ⟨v, st₀, t, T', L, h0, X', hL, e1, e2, ⟨⟨r, u, hv, hp, hb⟩, hF⟩, st⟩ | ⟨q, st₀, t, T', L, E, ce, h0, X', hL, e1, e2, ⟨u, hp, hb, hF⟩, hce, hcv, hcl, st⟩
  · cases hv
    obtain ⟨k1, k2, k3⟩ := vx_keep h0 e1 hS hA hf hL hF
    obtain ⟨t2, a1, b1⟩ := kk r u t T'.heap (locs ++ L) e1.symm (by rw [← e2]; exact X'.warmed.alike) hp hb k1 k2 k3 T' rfl X'
    exact ⟨t2, st t2 a1, b1⟩
  · obtain ⟨k1, k2, k3⟩ := vx_keep h0 e1 hS hAX hf hL hF
    obtain ⟨t2, a1, b1⟩ := kx E ce q u t T'.heap (locs ++ L) e1.symm (by rw [← e2]; exact X'.warmed.alike) hp hb k1 k2 k3 (by rw [e1]; exact hce) hcv hcl T' rfl X'
    exact ⟨t2, st.trans a1, b1⟩
theorem vx_callv {S SX : Type} {post : S → Prop} {px : SX → Prop} {B : S → State → Prop} {BX : String → SX → State → Prop} {AX : Nat → Prop} (hr : vx_Run p l e R s m args below meth c H locs cells slots mc ms (F0 m pc ls st0) rest (va_Qv post B A1 a) (vx_X px BX AX) free) (hS : va_S A0 H0 H locs) (hA : ∀ q, q < H.size → A1 q → A0 q) (hf : ∀ q, free q → A0 q) (hAX : ∀ q, q < H.size → AX q → A0 q)
    (kx : ∀ (E : String) (ce : Cell) (q9 : Addr) (u : SX) (t : State) (H1 : Heap) (locs1 : List Loc), t.heap = H1 → s.vm.Alike t.vm → px u → BX E u t → H.size ≤ H1.size → (∀ q : Nat, q < H.size → ¬ AX q → H1[q]? = H[q]?) → va_S A0 H0 H1 locs1 → H1[q9]? = some ce → ce.vm = .none → s.vm.findClass E = some ce.cls → vx_W p l e R s m args below meth c H1 locs1 (cells + mc) (slots + ms) Q (F0 m pc ls rest) q9)
    (kk : ∀ (u : S) (t : State) (H1 : Heap) (locs1 : List Loc), t.heap = H1 → s.vm.Alike t.vm → post u → B u t → H.size ≤ H1.size → (∀ q : Nat, q < H.size → ¬ A1 q → H1[q]? = H[q]?) → va_S A0 H0 H1 locs1 → W p l e R s m args below meth c H1 locs1 (cells + mc) (slots + ms) Q (F0 m (pc + 3) ls (rest))) : W p l e R s m args below meth c H locs cells slots Q (F0 m pc ls st0) := by
  intro T hT X
  rcases hr T hT X with ⟨v, st₀, t, T', L, h0, X', hL, e1, e2, ⟨⟨u, hv, hp, hb⟩, hF⟩, st⟩ | ⟨q, st₀, t, T', L, E, ce, h0, X', hL, e1, e2, ⟨u, hp, hb, hF⟩, hce, hcv, hcl, st⟩
  · cases hv
    obtain ⟨k1, k2, k3⟩ := vx_keep h0 e1 hS hA hf hL hF
    obtain ⟨t2, a1, b1⟩ := kk u t T'.heap (locs ++ L) e1.symm (by rw [← e2]; exact X'.warmed.alike) hp hb k1 k2 k3 T' rfl X'
    exact ⟨t2, st t2 a1, b1⟩
  · obtain ⟨k1, k2, k3⟩ := vx_keep h0 e1 hS hAX hf hL hF
    obtain ⟨t2, a1, b1⟩ := kx E ce q u t T'.heap (locs ++ L) e1.symm (by rw [← e2]; exact X'.warmed.alike) hp hb k1 k2 k3 (by rw [e1]; exact hce) hcv hcl T' rfl X'
    exact ⟨t2, st.trans a1, b1⟩
/-- caught by the row x of this method's table; the rows ahead don't take it -/
theorem vx_catch {own name : String} {E : String} {ce : Cell} {q : Addr} (hown : s.vm.findClass own = some m.cls) (pre : List ExceptionTableEntry) (x : ExceptionTableEntry) (suf : List ExceptionTableEntry) (hsplit : c.exceptionTable.toList = pre ++ x :: suf)
    (hpass : ∀ z ∈ pre, covers z pc = false ∨ (z.catchType ≠ 0 ∧ ∃ nm : String, (Cond.classLink own z.catchType nm).before args s = true ∧ va_Nc E nm s)) (hx : covers x pc = true) (h0 : x.catchType ≠ 0)
    (hlink : (Cond.classLink own x.catchType name).before args s = true) (hcast : (Cond.castable E name).before args s = true) (hcell : H[q]? = some ce) (hv : ce.vm = .none) (hcl : s.vm.findClass E = some ce.cls)
    (kk : W p l e R s m args below meth c H locs cells slots Q (F0 m x.handlerPc ls [.ref q])) : vx_W p l e R s m args below meth c H locs cells slots Q (F0 m pc ls rest) q := by
  intro T hT X
  have hpl : e.platform.magicAccessors = ({} : Platform).magicAccessors := by rw [X.admits.platform]
  obtain ⟨c3, c4, hc3, hc4, hasg⟩ := Cond.castable_spec hcast
  cases Option.some.inj (hc3.symm.trans hcl)
  obtain ⟨c5, hc5, hcl5⟩ := Cond.classLink_spec hown hlink e.platform hpl
  cases Option.some.inj (hc4.symm.trans hc5)
  obtain ⟨vm', X', st⟩ := X.thenCaughtThrough q (g := F0 m pc ls rest) rfl (Steps.refl _) (by rw [hT]; exact hcell) (by rw [hv]; rfl) (by obtain ⟨k9, h9, -⟩ := Vm.findClass_spec hcl; exact ⟨k9, h9⟩) pre x suf hsplit
    (fun z hz => by
      rcases hpass z hz with h | ⟨hz0, nm, hl1, hn1⟩
      · exact Or.inl h
      · obtain ⟨c6, hc6, hcl6⟩ := Cond.classLink_spec hown hl1 e.platform hpl
        obtain ⟨a8, b8, h1, h2, h3⟩ := hn1
        cases Option.some.inj (h1.symm.trans hcl)
        cases Option.some.inj (h2.symm.trans hc6)
        exact Or.inr ⟨hz0, _, hcl6, h3⟩) hx (Or.inr ⟨h0, c4, hcl5, hasg⟩)
  obtain ⟨t, a1, b1⟩ := kk (T.setVm vm') hT X'
  exact ⟨t, st.trans a1, b1⟩
end Rows
section Ends
variable {p : Program} {l : Launch} {e : Env} {R : Room} {s : State} {m : MethodId} {args : Array Value} {below : List Frame} {meth : Method} {c : Code} {H : Heap} {locs : List Loc} {cells slots : Nat} {Q : State → Prop}
variable {mc ms : Nat} {free : Addr → Prop} {A0 A1 : Nat → Prop} {H0 : Heap} {a : Array Value} {ls : Array Slot} {st0 rest : List Value}
variable {Qc : Array Value → State → Outcome → State → Prop} {XC : String → State → State → Prop}
/-- what a body that may throw owes at its end -/
def vx_MQ (below : List Frame) (Qc : Array Value → State → Outcome → State → Prop) (XC : String → State → State → Prop) (a : Array Value) (s : State) (mc ms : Nat) (free : Addr → Prop) : State → Prop := fun t =>
  ∃ o, t.status = .running ∧ Ended t below o ∧ vx_Q Qc XC mc ms free a s o t
theorem vx_ret {g : JFrame} {mc ms : Nat} (k : W p l e R s m args below meth c H locs cells slots (MQ below Qc args s mc ms free) g) : W p l e R s m args below meth c H locs cells slots (vx_MQ below Qc XC args s mc ms free) g := by
  intro T hT X
  obtain ⟨t, a1, o, b1, b2, b3, b4⟩ := k T hT X
  exact ⟨t, a1, o, b1, b2, Or.inl ⟨b3, b4⟩⟩
/-- not caught here: it goes on to the caller -/
theorem vx_widen {g : JFrame} {q : Addr} {k n : Nat} (h1 : cells ≤ k) (h2 : slots ≤ n) (kk : vx_W p l e R s m args below meth c H locs k n Q g q) : vx_W p l e R s m args below meth c H locs cells slots Q g q := fun T hT X => kk T hT (stand_widen X h1 h2)
theorem vx_out {pc : Nat} {E : String} {ce : Cell} {q : Addr} {mc ms : Nat} (hout : ∀ x ∈ c.exceptionTable.toList, covers x pc = false) (hlocks : meth.locks = false) (hcell : H[q]? = some ce) (hv : ce.vm = .none) (hcl : s.vm.findClass E = some ce.cls)
    (hx : ∀ t : State, t.heap = H → s.vm.Alike t.vm → XC E s t) (hf : ∀ z ∈ locs, free z.base) (hc : cells ≤ mc) (hs : slots ≤ ms) :
    vx_W p l e R s m args below meth c H locs cells slots (vx_MQ below Qc XC args s mc ms free) (F0 m pc ls rest) q := by
  intro T hT X
  obtain ⟨st1, hrun, hend, hW, hsm⟩ := X.leaveThrown q (g := F0 m pc ls rest) rfl rfl rfl hout hlocks
  have hcell9 : (T.setFrames (.throwing q :: below)).heap[q]? = some ce := by
    show T.heap[q]? = some ce
    rw [hT]; exact hcell
  exact ⟨_, st1, .threw q, hrun, hend, Or.inr ⟨q, rfl, E, ce, locs, hx _ hT hW.alike, hcell9, hv, hcl, hW, hsm.mono hc hs, hf⟩⟩
theorem vx_frame {U : State} {k n : Nat} (h : s.sameButNew ({ U with vm := s.vm } : State) locs k n) : s.heap.size ≤ U.heap.size ∧ ∀ q : Nat, q < s.heap.size → (∀ z ∈ locs, z.base ≠ q) → U.heap[q]? = s.heap[q]? := by
  obtain ⟨-, h2, -, -, -, h6⟩ := h
  refine ⟨h2, fun q hq hz => ?_⟩
  obtain ⟨c9, e1, e2, e3, e4⟩ := h6 q _ (Array.getElem?_eq_getElem hq)
  have hs : c9.slots = (s.heap[q]).slots := Array.ext_getElem? fun i => e4 i fun hm => hz _ hm rfl
  have h9 : c9 = s.heap[q] := by
    rw [hs] at e2
    exact e2
  have e5 : U.heap[q]? = some c9 := e1
  rw [e5, h9, Array.getElem?_eq_getElem hq]
/-- the words of a throw but the four that speak of the heap -/
def vx_no (w : Cond) : Bool := decide (w ≠ .isRef (.static Bundle.tN "UNASSIGNED_STACK" Bundle.steD)) && decide (w ≠ .isRef (.static Bundle.tN "SUPPRESSED_SENTINEL" Bundle.listD)) && decide (w ≠ .laysStatic Bundle.tN "UNASSIGNED_STACK" Bundle.steD) && decide (w ≠ .laysStatic Bundle.tN "SUPPRESSED_SENTINEL" Bundle.listD)
def vx_at0 (own : String) (ic : Nat) (X : String) (names : List String) : List Cond := (Bundle.ownAtoms0 own ic X names).filter vx_no
def vx_atS (own : String) (ic : Nat) (X : String) (names : List String) : List Cond := (Bundle.ownAtoms own ic X names).filter vx_no
/-- a word that the tables alone decide, or a good one -/
def vx_ot (w : Cond) : Bool := w.onTables || goodWord w
theorem vx_ot_at {args a' : Array Value} {s U : State} {w : Cond} (hW : s.WarmedH U.vm) (hvm : s.vm = U.vm) (hg : vx_ot w = true) (h : w.before args s = true) : w.before a' U = true := by
  simp only [vx_ot, Bool.or_eq_true] at hg
  rcases hg with hg | hg
  · exact va_tabs hg hvm h
  · exact word_at hW (good_of_word hg) h
/-- a list's words: the good ones out of the method's own list, the others by premises of their own -/
theorem vx_hat {args : Array Value} {s : State} {L B : List Cond} (h1 : ∀ w ∈ L.filter goodWord, w.before args s = true) (h2 : ∀ w ∈ L.filter (fun w => !goodWord w), w ∈ B) (h3 : ∀ w ∈ B, w.before args s = true) : ∀ w ∈ L, w.before args s = true := by
  intro w hw
  by_cases g : goodWord w = true
  · exact h1 w (List.mem_filter.mpr ⟨hw, g⟩)
  · refine h3 w (h2 w (List.mem_filter.mpr ⟨hw, ?_⟩))
    show (!goodWord w) = true
    cases hgw : goodWord w
    · rfl
    · exact absurd hgw g
theorem vx_c {args : Array Value} {s : State} {w : Cond} {B : List Cond} (h : w.before args s = true) (t : ∀ w ∈ B, w.before args s = true) : ∀ w' ∈ w :: B, w'.before args s = true := fun w' h' => (List.mem_cons.mp h').elim (fun e => by rw [e]; exact h) (t w')
theorem vx_n {args : Array Value} {s : State} : ∀ w ∈ ([] : List Cond), w.before args s = true := fun _ h => nomatch h
theorem vx_own {args : Array Value} {s : State} {L : List Cond} (h1 : ∀ w ∈ L.filter vx_no, w.before args s = true)
    (hU : (Cond.isRef (.static Bundle.tN "UNASSIGNED_STACK" Bundle.steD)).before args s = true) (hN : (Cond.isRef (.static Bundle.tN "SUPPRESSED_SENTINEL" Bundle.listD)).before args s = true)
    (lU : (Cond.laysStatic Bundle.tN "UNASSIGNED_STACK" Bundle.steD).before args s = true) (lN : (Cond.laysStatic Bundle.tN "SUPPRESSED_SENTINEL" Bundle.listD).before args s = true) : ∀ w ∈ L, w.before args s = true := by
  intro w hw
  by_cases e1 : w = .isRef (.static Bundle.tN "UNASSIGNED_STACK" Bundle.steD)
  · rw [e1]; exact hU
  · by_cases e2 : w = .isRef (.static Bundle.tN "SUPPRESSED_SENTINEL" Bundle.listD)
    · rw [e2]; exact hN
    · by_cases e3 : w = .laysStatic Bundle.tN "UNASSIGNED_STACK" Bundle.steD
      · rw [e3]; exact lU
      · by_cases e4 : w = .laysStatic Bundle.tN "SUPPRESSED_SENTINEL" Bundle.listD
        · rw [e4]; exact lN
        · exact h1 w (List.mem_filter.mpr ⟨hw, by unfold vx_no; rw [decide_eq_true e1, decide_eq_true e2, decide_eq_true e3, decide_eq_true e4]; rfl⟩)
/-- where a static field lies, its class's statics cell in H -/
def vx_L (C n d : String) (A : Nat → Prop) (U : State) (H : Heap) : Prop := ∃ (c : ClassId) (k : Class) (i : Nat) (f : Field) (a : Nat) (cell : Cell), U.vm.findClass C = some c ∧ U.fieldFound? C n d = some (c, k, i, f) ∧ f.isStatic = true ∧ k.statics = some a ∧ H[a]? = some cell ∧ cell.vm.isStatics = true ∧ cell.cls = c ∧ f.slot < cell.slots.size ∧ k.staticTypes[f.slot]? = some f.type ∧ ¬ A a
theorem vx_L.moved {C n d : String} {A : Nat → Prop} {u U : State} {H : Heap} (hvm : u.vm.Alike U.vm) (h : vx_L C n d A u H) : vx_L C n d A U H := by
  obtain ⟨c, k, i, f, a, cell, h1, h2, h3, h4, h5, h6, h7, h8, h9, h10⟩ := h
  obtain ⟨k', hi', he⟩ := State.fieldFound?_setVm hvm h2
  exact ⟨c, k', i, f, a, cell, by rw [hvm.findClass]; exact h1, hi', h3, by rw [he]; exact h4, h5, h6, h7, h8, by rw [he]; exact h9, h10⟩
theorem vx_L.kept {C n d : String} {A : Nat → Prop} {U : State} {H H1 : Heap} (h : vx_L C n d A U H) (hq : ∀ a : Nat, a < H.size → ¬ A a → H1[a]? = H[a]?) : vx_L C n d A U H1 := by
  obtain ⟨c, k, i, f, a, cell, h1, h2, h3, h4, h5, h6, h7, h8, h9, h10⟩ := h
  exact ⟨c, k, i, f, a, cell, h1, h2, h3, h4, by rw [hq a (Array.getElem?_eq_some_iff.mp h5).1 h10]; exact h5, h6, h7, h8, h9, h10⟩
theorem vx_L.narrow {C n d : String} {A B : Nat → Prop} {U : State} {H : Heap} (h : vx_L C n d A U H) (hAB : ∀ q, B q → A q) : vx_L C n d B U H := by
  obtain ⟨c, k, i, f, a, cell, h1, h2, h3, h4, h5, h6, h7, h8, h9, h10⟩ := h
  exact ⟨c, k, i, f, a, cell, h1, h2, h3, h4, h5, h6, h7, h8, h9, fun z => h10 (hAB _ z)⟩
theorem vx_L.word {C n d : String} {A : Nat → Prop} {s : State} {args : Array Value} (h : vx_L C n d A s s.heap) : (Cond.laysStatic C n d).before args s = true := by
  obtain ⟨c, k, i, f, a, cell, h1, h2, h3, h4, h5, h6, h7, h8, h9, -⟩ := h
  show (Cond.laysStatic C n d).holds args s none s [] = true
  exact Cond.laysStatic_of h1 h2 h3 h4 h5 h6 h7 h8 h9
/-- .. and what it holds: null or some reference -/
def vx_Zq (C n d : String) (A : Nat → Prop) (U : State) (H : Heap) : Prop := va_Zq C n d A U H ∧ vx_L C n d A U H
theorem vx_Zq.moved {C n d : String} {A : Nat → Prop} {u U : State} {H : Heap} (hvm : u.vm.Alike U.vm) (h : vx_Zq C n d A u H) : vx_Zq C n d A U H := ⟨va_Zq.moved hvm h.1, vx_L.moved hvm h.2⟩
theorem vx_Zq.kept {C n d : String} {A : Nat → Prop} {U : State} {H H1 : Heap} (h : vx_Zq C n d A U H) (hq : ∀ a : Nat, a < H.size → ¬ A a → H1[a]? = H[a]?) : vx_Zq C n d A U H1 := ⟨va_Zq.kept h.1 hq, vx_L.kept h.2 hq⟩
theorem vx_Zq.narrow {C n d : String} {A B : Nat → Prop} {U : State} {H : Heap} (h : vx_Zq C n d A U H) (hAB : ∀ q, B q → A q) : vx_Zq C n d B U H := ⟨va_Zq.narrow h.1 hAB, vx_L.narrow h.2 hAB⟩
theorem vx_Zqof {args : Array Value} {s : State} {C n d : String} {A : Nat → Prop} (hl : (Cond.laysStatic C n d).before args s = true) (hini : (Cond.initialized C).before args s = true) (h : (Cond.isRef (.static C n d)).before args s = true) (hA : ∀ a : Nat, a < s.heap.size → ¬ A a) : vx_Zq C n d A s s.heap := by
  refine ⟨va_Zqof hl hini h hA, ?_⟩
  obtain ⟨c, k, i, f, a, cell, h1, h2, h3, h4, h5, h6, h7, h8, h9⟩ := Cond.laysStatic_spec hl
  exact ⟨c, k, i, f, a, cell, h1, h2, h3, h4, h5, h6, h7, h8, h9, hA a (Array.getElem?_eq_some_iff.mp h5).1⟩
theorem vx_isRef {C n d : String} {v : Value} {A : Nat → Prop} {s : State} {args : Array Value} (h : va_Z C n d v A s s.heap) (hv : v.isRef = true) : (Cond.isRef (.static C n d)).before args s = true := by
  obtain ⟨cf, kf, fi, f, a, cell, h1, h2, h3, h4, h5, h6, h7, -⟩ := h
  have he : (Term.static C n d).eval args s none [] s = some v := by
    simp [Term.eval, State.fieldNamed?, h1, h2, h4, h5, h6, h7]
  simp only [Cond.before, Cond.holds, Cond.value, he]
  cases v <;> simp_all [Value.isRef]
theorem vx_isRefq {C n d : String} {A : Nat → Prop} {s : State} {args : Array Value} (h : va_Zq C n d A s s.heap) : (Cond.isRef (.static C n d)).before args s = true := by
  rcases h with h | ⟨t, h⟩
  · exact vx_isRef h rfl
  · exact vx_isRef h rfl
/-- the same frame, seen from here: as if the method were called anew in this heap -/
theorem vx_rebase {T : State} (X : Stand p l e R s m args below meth c T locs cells slots) {R' : Room} (hf : R'.frames ≤ R.frames) (hl : R'.locals ≤ R.locals) (hc : cells + R'.cells ≤ R.cells) (hs : slots + R'.slots ≤ R.slots) :
    Stand p l e R' ((T.setVm s.vm).setFrames (.invoking m args :: below)) m args below meth c T [] 0 0 := by
  have htop : (T.setVm s.vm).topJava?.isSome := X.here.top
  have hF : ((T.setVm s.vm).setFrames (.invoking m args :: below)).frames = .invoking m args :: below := State.frames_setFrames _ (State.cur_lt_of_top htop)
  obtain ⟨g₀, hg0⟩ := Option.isSome_iff_exists.mp htop
  obtain ⟨r, hr⟩ := State.topJava?_eq_some.mp hg0
  have hl9 : e.platform.stackLimits (T.setVm s.vm).me = e.platform.stackLimits s.me := X.limits
  have hb9 : (T.setVm s.vm).me.stackBytes = s.me.stackBytes := X.bytes
  refine ⟨X.admits, X.cas, X.clock, hF, ?_, X.hears, X.method, X.code, X.here, X.tail, X.warmed, ?_, ?_, ?_⟩
  · have h := X.room
    have hU : ((T.setVm s.vm).setFrames (.invoking m args :: below)).localsInUse = s.localsInUse := by
      rw [State.localsInUse_invoking hF (meth := meth) (c := c) X.method X.code, State.localsInUse_invoking X.frames X.method X.code]
    simp only [State.hasRoom, Bool.and_eq_true, decide_eq_true_eq] at h ⊢
    obtain ⟨⟨⟨⟨h1, h2, h3, h4, h5, h6⟩, h7⟩, h8⟩, h9⟩ := h
    rw [X.frames, List.length_cons] at h2 h3
    have q1 := X.heapSize
    have q2 := X.used
    simp only [hF, hU, List.length_cons, State.stackLimits_setFrames, State.stackBytes_setFrames, hl9, hb9]
    refine ⟨⟨⟨⟨by omega, by omega, by omega, by omega, by omega, h6⟩, ?_⟩, ?_⟩, X.book⟩
    · show T.heap.size + R'.cells ≤ e.platform.maxCells
      omega
    · show T.slotsUsed + R'.slots ≤ e.platform.maxSlots
      omega
  · rw [State.stackLimits_setFrames]; rfl
  · rw [State.stackBytes_setFrames]; rfl
  · refine ⟨?_, Nat.le_refl _, Nat.le_refl _, ?_, ?_, fun a c9 h9 => ⟨c9, h9, rfl, rfl, fun _ _ => rfl⟩⟩
    · obtain ⟨t, ht, -⟩ := State.frames_cons hr
      show T.setVm s.vm = { ((T.setVm s.vm).setFrames (.invoking m args :: below)).setFrames (T.setVm s.vm).frames with heap := T.heap, slotsUsed := T.slotsUsed }
      rw [State.setFrames_setFrames, State.setFrames_self ht]
      rfl
    · show T.slotsUsed = T.slotsUsed + ((T.heap.toList.drop T.heap.size).map (·.slots.size)).sum
      rw [List.drop_eq_nil_of_le (Nat.le_of_eq Array.length_toList)]
      rfl
    · show ((T.heap.toList.drop T.heap.size).map (·.slots.size)).sum ≤ 0
      rw [List.drop_eq_nil_of_le (Nat.le_of_eq Array.length_toList)]
      exact Nat.le_refl _
/-- 'throw new E()': new; dup; invokespecial; athrow -/
theorem vx_throw0 {cc : ByteArray} {pc : Nat} (hexec : p.tables.exec = Jvm.exec) (hb : c.code = cc) (hl : l.stackTraces = false) {own cls : String} {names : List String} {ik ic mc ms : Nat} {A : Nat → Prop}
    (hown : s.vm.findClass own = some m.cls) (hcls : Bundle.fit cls = true) (hnames : ∀ n ∈ names, Bundle.fit n = true)
    (hk : (Cond.classLink own ik cls).before args s = true) (hini : (Cond.initialized cls).before args s = true) (hat : ∀ w ∈ vx_at0 own ic cls names, w.before args s = true)
    (hgood : ∀ w ∈ Cond.classLink own ik cls :: Cond.initialized cls :: vx_at0 own ic cls names, vx_ot w = true)
    (hU : vx_Zq Bundle.tN "UNASSIGNED_STACK" Bundle.steD A s s.heap) (hN : vx_Zq Bundle.tN "SUPPRESSED_SENTINEL" Bundle.listD A s s.heap) (hS : va_S A s.heap H locs) (hsize : ls.size = c.maxLocals)
    (d0 : decode cc pc = .ok (.new ik, 3)) (d3 : decode cc (pc + 3) = .ok (.dup, 1)) (d4 : decode cc (pc + 4) = .ok (.invokespecial ic, 3)) (d7 : decode cc (pc + 7) = .ok (.athrow, 1))
    (hout : ∀ x ∈ c.exceptionTable.toList, covers x (pc + 7) = false)
    (hRframes : names.length + 3 < R.frames) (hRlocals : (rest.map fun v => v.category).sum + (13 * (names.length + 1) + 42) ≤ R.locals) (hRcells : cells + 1 ≤ R.cells) (hRslots : slots + 6 ≤ R.slots) (hlocks : meth.locks = false)
    (hx : ∀ t : State, s.vm.Alike t.vm → H.size ≤ t.heap.size → (∀ q : Nat, q < H.size → t.heap[q]? = H[q]?) → XC cls s t)
    (hf : ∀ z ∈ locs, free z.base) (hc : cells + 1 ≤ mc) (hs : slots + 6 ≤ ms) :
    W p l e R s m args below meth c H locs cells slots (vx_MQ below Qc XC args s mc ms free) (F0 m pc ls rest) := by
  intro T hT X
  have htr : e.platform.stackTraces = false := (show e.platform.stackTraces = l.stackTraces by rw [X.admits.platform]).trans hl
  have Y := vx_rebase X (R' := { frames := R.frames, locals := R.locals, cells := 1, slots := 6 }) (Nat.le_refl _) (Nat.le_refl _) hRcells hRslots
  obtain ⟨s', hA⟩ : ∃ z, z = (T.setVm s.vm).setFrames (.invoking m args :: below) := ⟨_, rfl⟩
  rw [← hA] at Y
  have hvm : s'.vm = s.vm := by rw [hA]; rfl
  have hhp : s'.heap = H := by rw [hA]; exact hT
  have hW0 : s.WarmedH s'.vm := by rw [hvm]; exact State.WarmedH.refl s
  have hat' : ∀ w ∈ vx_at0 own ic cls names, w.before args s' = true := fun w hw => vx_ot_at hW0 hvm.symm (hgood w (List.mem_cons_of_mem _ (List.mem_cons_of_mem _ hw))) (hat w hw)
  have hk' : (Cond.classLink own ik cls).before args s' = true := vx_ot_at hW0 hvm.symm (hgood _ List.mem_cons_self) hk
  have hini' : (Cond.initialized cls).before args s' = true := vx_ot_at hW0 hvm.symm (hgood _ (List.mem_cons_of_mem _ List.mem_cons_self)) hini
  have hU' : vx_Zq Bundle.tN "UNASSIGNED_STACK" Bundle.steD A s' s'.heap := by rw [hhp]; exact vx_Zq.moved hW0.alike (hU.kept hS.2.1)
  have hN' : vx_Zq Bundle.tN "SUPPRESSED_SENTINEL" Bundle.listD A s' s'.heap := by rw [hhp]; exact vx_Zq.moved hW0.alike (hN.kept hS.2.1)
  have h : ∀ w ∈ Bundle.ownAtoms0 own ic cls names, w.before args s' = true := vx_own hat' (vx_isRefq hU'.1) (vx_isRefq hN'.1) hU'.2.word hN'.2.word
  have hown' : s'.vm.findClass own = some m.cls := by rw [hvm]; exact hown
  have hins : (Cond.instantiable cls 6).before args s' = true := h _ (by simp [Bundle.ownAtoms0])
  obtain ⟨vm₁, cX, kX, hfX, hkX, -, -, X₁, st1⟩ := Y.newCold hexec (own := own) (C := cls) (index := ik) (n := 6) hown' hk' hins hini'
    (g := F0 m pc ls rest) rfl (by rw [hb]; exact d0) (Nat.le_refl _) (Nat.le_refl _)
  generalize hT1 : (T.setVm vm₁).pushCell { cls := cX, slots := kX.instanceTypes.map defaultValue, vm := .none } = T1 at X₁ st1
  have hcat : (Value.ref T.heap.size).category = 1 := rfl
  have hcellA : T1.heap[T.heap.size]? = some (freshCell cX kX) := by rw [← hT1]; exact State.heap_pushCell_size _ _
  have d3' : decode c.code (pc + 3) = .ok (.dup, 1) := by rw [hb]; exact d3
  obtain ⟨U, hsteps, hrun, hend, hW, hsame, ce, hce, hO⟩ := X₁.ctorThrow0 hexec htr (own := own) (cls := cls) (names := names) (ic := ic) hown' hcls hnames h (fun x hx => nomatch hx) hfX hkX hcellA (by rw [hhp, hT]; exact Nat.le_refl _)
    (g := { method := m, pc := pc + 4, locals := ls, stack := .ref T.heap.size :: .ref T.heap.size :: rest, locked := none }) rfl hsize rfl rfl (rest := rest) rfl
    (by rw [hb]; exact d4) (by rw [hb]; exact d7) hout hRframes (by simp only [List.map_cons, List.sum_cons, hcat]; omega) hlocks
  obtain ⟨f1, f2⟩ := vx_frame hsame
  rw [hhp] at f1 f2
  have hWs : s.WarmedH U.vm := State.WarmedH.trans hW0 hW
  have hcl : s.vm.findClass cls = some ce.cls := by
    have h9 := hO.cls
    rw [hvm] at h9
    exact h9
  have hall : s.sameButNew ({ U with vm := s.vm } : State) locs mc ms := by
    subst hA
    obtain ⟨e1, e2⟩ := hsame
    rw [State.setFrames_setFrames] at e1
    have h2 : (T.setVm s.vm).sameButNew ({ U with vm := s.vm } : State) [] (0 + 1) (0 + 6) := ⟨e1, e2⟩
    have h3 := X.same.trans h2
    rw [List.append_nil] at h3
    exact h3.mono hc hs
  refine ⟨U, ?_, .threw T.heap.size, hrun, hend, Or.inr ⟨T.heap.size, rfl, cls, ce, locs, hx U hWs.alike f1 (fun q hq => f2 q hq (fun z hz => nomatch hz)), hce, hO.vm, hcl, hWs, hall, hf⟩⟩
  refine st1 _ ?_
  show Steps p.tables e below (T1.setTop { method := m, pc := pc + 3, locals := ls, stack := .ref T.heap.size :: rest, locked := none }) _
  jvm_step X₁.here [X₁.here.top, hexec, d3', Value.category]
  exact hsteps
/-- 'throw new E("text")': new; dup; ldc; invokespecial; athrow -/
theorem vx_throwS {cc : ByteArray} {pc : Nat} (hexec : p.tables.exec = Jvm.exec) (hb : c.code = cc) (hl : l.stackTraces = false) {own cls text : String} {names : List String} {ik is ic mc ms sa : Nat} {A : Nat → Prop}
    (hown : s.vm.findClass own = some m.cls) (hcls : Bundle.fit cls = true) (hnames : ∀ n ∈ names, Bundle.fit n = true)
    (hk : (Cond.classLink own ik cls).before args s = true) (hini : (Cond.initialized cls).before args s = true) (hstr : vk_R own is text sa s) (hat : ∀ w ∈ vx_atS own ic cls names, w.before args s = true)
    (hgood : ∀ w ∈ Cond.classLink own ik cls :: Cond.initialized cls :: vx_atS own ic cls names, vx_ot w = true)
    (hU : vx_Zq Bundle.tN "UNASSIGNED_STACK" Bundle.steD A s s.heap) (hN : vx_Zq Bundle.tN "SUPPRESSED_SENTINEL" Bundle.listD A s s.heap) (hS : va_S A s.heap H locs) (hsize : ls.size = c.maxLocals)
    (d0 : decode cc pc = .ok (.new ik, 3)) (d3 : decode cc (pc + 3) = .ok (.dup, 1)) (d4 : decode cc (pc + 4) = .ok (.ldc is, 2)) (d6 : decode cc (pc + 6) = .ok (.invokespecial ic, 3)) (d9 : decode cc (pc + 9) = .ok (.athrow, 1))
    (hout : ∀ x ∈ c.exceptionTable.toList, covers x (pc + 9) = false)
    (hRframes : names.length + 3 < R.frames) (hRlocals : (rest.map fun v => v.category).sum + (13 * (names.length + 1) + 43) ≤ R.locals) (hRcells : cells + 1 ≤ R.cells) (hRslots : slots + 6 ≤ R.slots) (hlocks : meth.locks = false)
    (hx : ∀ t : State, s.vm.Alike t.vm → H.size ≤ t.heap.size → (∀ q : Nat, q < H.size → t.heap[q]? = H[q]?) → XC cls s t)
    (hf : ∀ z ∈ locs, free z.base) (hc : cells + 1 ≤ mc) (hs : slots + 6 ≤ ms) :
    W p l e R s m args below meth c H locs cells slots (vx_MQ below Qc XC args s mc ms free) (F0 m pc ls rest) := by
  intro T hT X
  have htr : e.platform.stackTraces = false := (show e.platform.stackTraces = l.stackTraces by rw [X.admits.platform]).trans hl
  have Y := vx_rebase X (R' := { frames := R.frames, locals := R.locals, cells := 1, slots := 6 }) (Nat.le_refl _) (Nat.le_refl _) hRcells hRslots
  obtain ⟨s', hA⟩ : ∃ z, z = (T.setVm s.vm).setFrames (.invoking m args :: below) := ⟨_, rfl⟩
  rw [← hA] at Y
  have hvm : s'.vm = s.vm := by rw [hA]; rfl
  have hhp : s'.heap = H := by rw [hA]; exact hT
  have hW0 : s.WarmedH s'.vm := by rw [hvm]; exact State.WarmedH.refl s
  have hat' : ∀ w ∈ vx_atS own ic cls names, w.before args s' = true := fun w hw => vx_ot_at hW0 hvm.symm (hgood w (List.mem_cons_of_mem _ (List.mem_cons_of_mem _ hw))) (hat w hw)
  have hk' : (Cond.classLink own ik cls).before args s' = true := vx_ot_at hW0 hvm.symm (hgood _ List.mem_cons_self) hk
  have hini' : (Cond.initialized cls).before args s' = true := vx_ot_at hW0 hvm.symm (hgood _ (List.mem_cons_of_mem _ List.mem_cons_self)) hini
  have hU' : vx_Zq Bundle.tN "UNASSIGNED_STACK" Bundle.steD A s' s'.heap := by rw [hhp]; exact vx_Zq.moved hW0.alike (hU.kept hS.2.1)
  have hN' : vx_Zq Bundle.tN "SUPPRESSED_SENTINEL" Bundle.listD A s' s'.heap := by rw [hhp]; exact vx_Zq.moved hW0.alike (hN.kept hS.2.1)
  have h : ∀ w ∈ Bundle.ownAtoms own ic cls names, w.before args s' = true := vx_own hat' (vx_isRefq hU'.1) (vx_isRefq hN'.1) hU'.2.word hN'.2.word
  have hown' : s'.vm.findClass own = some m.cls := by rw [hvm]; exact hown
  have hins : (Cond.instantiable cls 6).before args s' = true := h _ (by simp [Bundle.ownAtoms])
  obtain ⟨vm₁, cX, kX, hfX, hkX, -, -, X₁, st1⟩ := Y.newCold hexec (own := own) (C := cls) (index := ik) (n := 6) hown' hk' hins hini'
    (g := F0 m pc ls rest) rfl (by rw [hb]; exact d0) (Nat.le_refl _) (Nat.le_refl _)
  generalize hT1 : (T.setVm vm₁).pushCell { cls := cX, slots := kX.instanceTypes.map defaultValue, vm := .none } = T1 at X₁ st1
  have hcat : (Value.ref T.heap.size).category = 1 := rfl
  have hcellA : T1.heap[T.heap.size]? = some (freshCell cX kX) := by rw [← hT1]; exact State.heap_pushCell_size _ _
  have d3' : decode c.code (pc + 3) = .ok (.dup, 1) := by rw [hb]; exact d3
  have d4' : decode c.code (pc + 4) = .ok (.ldc is, 2) := by rw [hb]; exact d4
  have hstr' : vk_R own is text sa s' := vk_R.warm hW0 hstr
  obtain ⟨U, hsteps, hrun, hend, hW, hsame, ce, hce, hO⟩ := X₁.ctorThrowS hexec htr (own := own) (cls := cls) (names := names) (ic := ic) hown' hcls hnames h (fun x hx => nomatch hx) hfX hkX hcellA (by rw [hhp, hT]; exact Nat.le_refl _) (msg := .ref sa) rfl
    (g := { method := m, pc := pc + 6, locals := ls, stack := .ref sa :: .ref T.heap.size :: .ref T.heap.size :: rest, locked := none }) rfl hsize rfl rfl (rest := rest) rfl
    (by rw [hb]; exact d6) (by rw [hb]; exact d9) hout hRframes (by simp only [List.map_cons, List.sum_cons, hcat]; omega) hlocks
  obtain ⟨f1, f2⟩ := vx_frame hsame
  rw [hhp] at f1 f2
  have hWs : s.WarmedH U.vm := State.WarmedH.trans hW0 hW
  have hcl : s.vm.findClass cls = some ce.cls := by
    have h9 := hO.cls
    rw [hvm] at h9
    exact h9
  have hall : s.sameButNew ({ U with vm := s.vm } : State) locs mc ms := by
    subst hA
    obtain ⟨e1, e2⟩ := hsame
    rw [State.setFrames_setFrames] at e1
    have h2 : (T.setVm s.vm).sameButNew ({ U with vm := s.vm } : State) [] (0 + 1) (0 + 6) := ⟨e1, e2⟩
    have h3 := X.same.trans h2
    rw [List.append_nil] at h3
    exact h3.mono hc hs
  refine ⟨U, ?_, .threw T.heap.size, hrun, hend, Or.inr ⟨T.heap.size, rfl, cls, ce, locs, hx U hWs.alike f1 (fun q hq => f2 q hq (fun z hz => nomatch hz)), hce, hO.vm, hcl, hWs, hall, hf⟩⟩
  refine st1 _ ?_
  show Steps p.tables e below (T1.setTop { method := m, pc := pc + 3, locals := ls, stack := .ref T.heap.size :: rest, locked := none }) _
  jvm_step X₁.here [X₁.here.top, hexec, d3', Value.category]
  exact X₁.ldcString hexec (own := own) (text := text) (index := is) (a := sa) hown' hstr'.1 hstr'.2
    (g := { method := m, pc := pc + 4, locals := ls, stack := .ref T.heap.size :: .ref T.heap.size :: rest, locked := none }) rfl d4' _ hsteps
/-- 'throw new E("text")', the text by a wide index -/
theorem vx_throwSW {cc : ByteArray} {pc : Nat} (hexec : p.tables.exec = Jvm.exec) (hb : c.code = cc) (hl : l.stackTraces = false) {own cls text : String} {names : List String} {ik is ic mc ms sa : Nat} {A : Nat → Prop}
    (hown : s.vm.findClass own = some m.cls) (hcls : Bundle.fit cls = true) (hnames : ∀ n ∈ names, Bundle.fit n = true)
    (hk : (Cond.classLink own ik cls).before args s = true) (hini : (Cond.initialized cls).before args s = true) (hstr : vk_R own is text sa s) (hat : ∀ w ∈ vx_atS own ic cls names, w.before args s = true)
    (hgood : ∀ w ∈ Cond.classLink own ik cls :: Cond.initialized cls :: vx_atS own ic cls names, vx_ot w = true)
    (hU : vx_Zq Bundle.tN "UNASSIGNED_STACK" Bundle.steD A s s.heap) (hN : vx_Zq Bundle.tN "SUPPRESSED_SENTINEL" Bundle.listD A s s.heap) (hS : va_S A s.heap H locs) (hsize : ls.size = c.maxLocals)
    (d0 : decode cc pc = .ok (.new ik, 3)) (d3 : decode cc (pc + 3) = .ok (.dup, 1)) (d4 : decode cc (pc + 4) = .ok (.ldc_w is, 3)) (d7 : decode cc (pc + 7) = .ok (.invokespecial ic, 3)) (d10 : decode cc (pc + 10) = .ok (.athrow, 1))
    (hout : ∀ x ∈ c.exceptionTable.toList, covers x (pc + 10) = false)
    (hRframes : names.length + 3 < R.frames) (hRlocals : (rest.map fun v => v.category).sum + (13 * (names.length + 1) + 43) ≤ R.locals) (hRcells : cells + 1 ≤ R.cells) (hRslots : slots + 6 ≤ R.slots) (hlocks : meth.locks = false)
    (hx : ∀ t : State, s.vm.Alike t.vm → H.size ≤ t.heap.size → (∀ q : Nat, q < H.size → t.heap[q]? = H[q]?) → XC cls s t)
    (hf : ∀ z ∈ locs, free z.base) (hc : cells + 1 ≤ mc) (hs : slots + 6 ≤ ms) :
    W p l e R s m args below meth c H locs cells slots (vx_MQ below Qc XC args s mc ms free) (F0 m pc ls rest) := by
  intro T hT X
  have htr : e.platform.stackTraces = false := (show e.platform.stackTraces = l.stackTraces by rw [X.admits.platform]).trans hl
  have Y := vx_rebase X (R' := { frames := R.frames, locals := R.locals, cells := 1, slots := 6 }) (Nat.le_refl _) (Nat.le_refl _) hRcells hRslots
  obtain ⟨s', hA⟩ : ∃ z, z = (T.setVm s.vm).setFrames (.invoking m args :: below) := ⟨_, rfl⟩
  rw [← hA] at Y
  have hvm : s'.vm = s.vm := by rw [hA]; rfl
  have hhp : s'.heap = H := by rw [hA]; exact hT
  have hW0 : s.WarmedH s'.vm := by rw [hvm]; exact State.WarmedH.refl s
  have hat' : ∀ w ∈ vx_atS own ic cls names, w.before args s' = true := fun w hw => vx_ot_at hW0 hvm.symm (hgood w (List.mem_cons_of_mem _ (List.mem_cons_of_mem _ hw))) (hat w hw)
  have hk' : (Cond.classLink own ik cls).before args s' = true := vx_ot_at hW0 hvm.symm (hgood _ List.mem_cons_self) hk
  have hini' : (Cond.initialized cls).before args s' = true := vx_ot_at hW0 hvm.symm (hgood _ (List.mem_cons_of_mem _ List.mem_cons_self)) hini
  have hU' : vx_Zq Bundle.tN "UNASSIGNED_STACK" Bundle.steD A s' s'.heap := by rw [hhp]; exact vx_Zq.moved hW0.alike (hU.kept hS.2.1)
  have hN' : vx_Zq Bundle.tN "SUPPRESSED_SENTINEL" Bundle.listD A s' s'.heap := by rw [hhp]; exact vx_Zq.moved hW0.alike (hN.kept hS.2.1)
  have h : ∀ w ∈ Bundle.ownAtoms own ic cls names, w.before args s' = true := vx_own hat' (vx_isRefq hU'.1) (vx_isRefq hN'.1) hU'.2.word hN'.2.word
  have hown' : s'.vm.findClass own = some m.cls := by rw [hvm]; exact hown
  have hins : (Cond.instantiable cls 6).before args s' = true := h _ (by simp [Bundle.ownAtoms])
  obtain ⟨vm₁, cX, kX, hfX, hkX, -, -, X₁, st1⟩ := Y.newCold hexec (own := own) (C := cls) (index := ik) (n := 6) hown' hk' hins hini'
    (g := F0 m pc ls rest) rfl (by rw [hb]; exact d0) (Nat.le_refl _) (Nat.le_refl _)
  generalize hT1 : (T.setVm vm₁).pushCell { cls := cX, slots := kX.instanceTypes.map defaultValue, vm := .none } = T1 at X₁ st1
  have hcat : (Value.ref T.heap.size).category = 1 := rfl
  have hcellA : T1.heap[T.heap.size]? = some (freshCell cX kX) := by rw [← hT1]; exact State.heap_pushCell_size _ _
  have d3' : decode c.code (pc + 3) = .ok (.dup, 1) := by rw [hb]; exact d3
  have d4' : decode c.code (pc + 4) = .ok (.ldc_w is, 3) := by rw [hb]; exact d4
  have hstr' : vk_R own is text sa s' := vk_R.warm hW0 hstr
  obtain ⟨U, hsteps, hrun, hend, hW, hsame, ce, hce, hO⟩ := X₁.ctorThrowS hexec htr (own := own) (cls := cls) (names := names) (ic := ic) hown' hcls hnames h (fun x hx => nomatch hx) hfX hkX hcellA (by rw [hhp, hT]; exact Nat.le_refl _) (msg := .ref sa) rfl
    (g := { method := m, pc := pc + 7, locals := ls, stack := .ref sa :: .ref T.heap.size :: .ref T.heap.size :: rest, locked := none }) rfl hsize rfl rfl (rest := rest) rfl
    (by rw [hb]; exact d7) (by rw [hb]; exact d10) hout hRframes (by simp only [List.map_cons, List.sum_cons, hcat]; omega) hlocks
  obtain ⟨f1, f2⟩ := vx_frame hsame
  rw [hhp] at f1 f2
  have hWs : s.WarmedH U.vm := State.WarmedH.trans hW0 hW
  have hcl : s.vm.findClass cls = some ce.cls := by
    have h9 := hO.cls
    rw [hvm] at h9
    exact h9
  have hall : s.sameButNew ({ U with vm := s.vm } : State) locs mc ms := by
    subst hA
    obtain ⟨e1, e2⟩ := hsame
    rw [State.setFrames_setFrames] at e1
    have h2 : (T.setVm s.vm).sameButNew ({ U with vm := s.vm } : State) [] (0 + 1) (0 + 6) := ⟨e1, e2⟩
    have h3 := X.same.trans h2
    rw [List.append_nil] at h3
    exact h3.mono hc hs
  refine ⟨U, ?_, .threw T.heap.size, hrun, hend, Or.inr ⟨T.heap.size, rfl, cls, ce, locs, hx U hWs.alike f1 (fun q hq => f2 q hq (fun z hz => nomatch hz)), hce, hO.vm, hcl, hWs, hall, hf⟩⟩
  refine st1 _ ?_
  show Steps p.tables e below (T1.setTop { method := m, pc := pc + 3, locals := ls, stack := .ref T.heap.size :: rest, locked := none }) _
  jvm_step X₁.here [X₁.here.top, hexec, d3', Value.category]
  exact X₁.ldcStringW hexec (own := own) (text := text) (index := is) (a := sa) hown' hstr'.1 hstr'.2
    (g := { method := m, pc := pc + 4, locals := ls, stack := .ref T.heap.size :: .ref T.heap.size :: rest, locked := none }) rfl d4' _ hsteps
end Ends
section Bodies
variable {l : Launch}
theorem vx_ofW {y : MethodName} {ws ws' : List Cond} {rm : Room} {Pc : Array Value → State → Prop} {Qc : Array Value → State → Outcome → State → Prop} {XC : String → State → State → Prop} {mc ms : Nat} {free : Addr → Prop} {cc : ByteArray} {maxL : Nat} {ret : Option FieldType}
    (hy : plainName y.cls = true) (hw : ws = Cond.code y cc maxL ret :: ws')
    (body : ∀ p e s m args below meth c s₁, BodyLoose p l y (headSpec ws rm) cc maxL ret e s m args below meth c s₁ → c.maxLocals = maxL → (∀ x ∈ c.exceptionTable.toList, False) → Pc args s →
      W p l e (headSpec ws rm).room s m args below meth c s.heap [] 0 0 (vx_MQ below Qc XC args s mc ms free) (entryFrame m args maxL)) : vx_Met l y ws rm Pc Qc XC mc ms free := by
  refine MetFree.of_bodyS (code := cc) (maxLocals := maxL) (ret := ret) hy ?_ ?_
  · intro args s m h hn
    obtain ⟨meth, c, h1, h2, h3, h4, h5, h6, -, -⟩ := Cond.code_spec hn (atoms_spec (ws := ws) h _ (by rw [hw]; exact List.mem_cons_self))
    exact ⟨meth, c, h1, h2, h3, h4, h5, h6⟩
  · intro p e s m args below meth c s₁ B hml hP _
    have hh0 : s₁.heap = s.heap := by rw [B.state]; rfl
    have ht : ∀ x ∈ c.exceptionTable.toList, False := by
      obtain ⟨meth9, c9, h1, h2, -, -, -, -, h7, -⟩ := Cond.code_spec B.named (atoms_spec (ws := ws) B.pre _ (by rw [hw]; exact List.mem_cons_self))
      cases Option.some.inj (h1.symm.trans B.method)
      cases Option.some.inj (h2.symm.trans (Stand.of_body B).code)
      intro x hx
      rw [Array.isEmpty_iff.mp h7] at hx
      cases hx
    obtain ⟨t, a1, o, b1, b2, b3⟩ := body p e s m args below meth c s₁ B hml ht hP s₁ hh0 (Stand.of_body B)
    exact ⟨t, o, a1, b1, b2, b3⟩
/-- the table of a body with handlers -/
theorem vx_table {p : Program} {x y : MethodName} {S : Spec} {cc bytes : ByteArray} {maxL maxL' : Nat} {ret ret' : Option FieldType} {e : Env} {s s₁ : State} {m : MethodId} {args : Array Value} {below : List Frame} {meth : Method} {c : Code} {hh : List (Nat × Nat × Nat × Nat)}
    (B : BodyLoose p l y S cc maxL ret e s m args below meth c s₁) (h : (Cond.codeWith y bytes maxL' ret' hh).before args s = true) : c.exceptionTable.toList = tableOf hh := by
  obtain ⟨m9, meth9, c9, hn9, h1, h2, -, -, h6, -⟩ := Cond.codeWith_spec h
  cases Option.some.inj (hn9.symm.trans B.named)
  cases Option.some.inj (h1.symm.trans B.method)
  cases Option.some.inj (h2.symm.trans (Stand.of_body B).code)
  rw [← h6, table_eq]
end Bodies
end VXA
/-! ===== END ===== -/
/-! ===== BEGIN a static call of a method with an exception table ===== -/
section VXS
variable {p : Program} {l : Launch} {e : Env} {R : Room} {s : State} {m : MethodId} {args : Array Value} {below : List Frame} {meth : Method} {c : Code} {T : State} {H : Heap} {locs : List Loc} {cells slots : Nat}
abbrev vx_CSW (R : Room) (s : State) (args : Array Value) (own : String) (index : Nat) (y : MethodName) (bytes : ByteArray) (maxL : Nat) (ret : Option FieldType) (hh : List (Nat × Nat × Nat × Nat)) (ws : List Cond) (rm : Room) (mc ms n : Nat) : Prop :=
  (rm.cells = mc ∧ rm.slots = ms ∧ rm.frames + 1 ≤ R.frames ∧ 8 + (maxL + 11) + rm.locals ≤ R.locals ∧ (∀ w ∈ ws, ∀ (a' : Array Value) (U : State), s.WarmedH U.vm → w.before a' U = true) ∧ Cond.codeWith y bytes maxL ret hh ∈ ws) ∧
  (Cond.codeWith y bytes maxL ret hh).before args s = true ∧ (Cond.initialized y.cls).before args s = true ∧ (y.cls ≠ "java/lang/invoke/MethodHandle" ∧ y.cls ≠ "java/lang/invoke/VarHandle") ∧
  (∀ sig, parseMethodDescriptor y.desc = some sig → n = sig.parameters.length) ∧ (Cond.methodLink own index y).before args s = true ∧ (Cond.static y).before args s = true
theorem vx_cwSW {own : String} {index maxL mc ms : Nat} {y : MethodName} {bytes : ByteArray} {ret : Option FieldType} {hh : List (Nat × Nat × Nat × Nat)} {Ts ws ws' : List Cond} {rm : Room} (n : Nat) (ht : ∀ w ∈ Ts, w.before args s = true) (hT : GoodIn Ts (va_wsS own index y ws)) (hw : ws = Cond.codeWith y bytes maxL ret hh :: ws') (hrc : rm.cells = mc) (hrs : rm.slots = ms)
    (hd : y.cls ≠ "java/lang/invoke/MethodHandle" ∧ y.cls ≠ "java/lang/invoke/VarHandle" ∧ (parseMethodDescriptor y.desc).map (fun d => d.parameters.length) = some n) (hR : rm.frames + 1 ≤ R.frames ∧ 8 + (maxL + 11) + rm.locals ≤ R.locals) :
    vx_CSW R s args own index y bytes maxL ret hh ws rm mc ms n := by
  have ok : ∀ w ∈ va_wsS own index y ws, w.before args s = true := fun w h => ht w (hT w h).1
  have hG : GoodIn Ts ws := fun w h => hT w (by unfold va_wsS; exact List.mem_append_right _ h)
  have hc : Cond.codeWith y bytes maxL ret hh ∈ ws := by rw [hw]; exact List.mem_cons_self
  refine ⟨⟨hrc, hrs, hR.1, hR.2, pay_in ht hG, hc⟩, ht _ (hG _ hc).1, ok _ (by simp [va_wsS]), ⟨hd.1, hd.2.1⟩, fun sig h => ?_, ok _ (by simp [va_wsS]), ok _ (by simp [va_wsS])⟩
  have h2 := hd.2.2
  rw [h] at h2
  exact (Option.some.inj h2).symm
theorem vx_callSW (X : Stand p l e R s m args below meth c T locs cells slots) (hexec : p.tables.exec = Jvm.exec) {own : String} {index : Nat} {y : MethodName} {bytes : ByteArray} {maxL : Nat} {ret : Option FieldType} {hh : List (Nat × Nat × Nat × Nat)}
    (hown : s.vm.findClass own = some m.cls) (hlink : (Cond.methodLink own index y).before args s = true) (hstat : (Cond.static y).before args s = true) (hinit : (Cond.initialized y.cls).before args s = true)
    (hcode : (Cond.codeWith y bytes maxL ret hh).before args s = true) (hy : y.cls ≠ "java/lang/invoke/MethodHandle" ∧ y.cls ≠ "java/lang/invoke/VarHandle")
    {W9 : Nat} {Pre : Pt → Array Value → Prop} {Post : Pt → Array Value → Option Value → Pt → Prop} (hK : Back l R p e below s args y 3 W9 Pre Post)
    {g : JFrame} (hg : g.method = m) (hsize : g.locals.size = c.maxLocals) {argsL rest : List Value} (hlen : ∀ sig, parseMethodDescriptor y.desc = some sig → argsL.length = sig.parameters.length)
    (hstack : g.stack = argsL.reverse ++ rest) (hW : 2 * g.monitorRoom + (rest.map fun v => v.category).sum ≤ W9) (hdg : decode c.code g.pc = .ok (.invokestatic index, 3))
    (hpre : ∀ vm₁, s.WarmedH vm₁ → Pre ⟨T.setVm vm₁, locs, cells, slots⟩ argsL.toArray) :
    ∃ (v : Option Value) (vm₁ : Vm) (B : Pt), s.WarmedH vm₁ ∧ Stand p l e R s m args below meth c B.U B.locs B.cells B.slots ∧ Post ⟨T.setVm vm₁, locs, cells, slots⟩ argsL.toArray v B ∧
      ∀ target, Steps p.tables e below (B.U.setTop { g with pc := g.pc + 3, stack := v.toList ++ rest }) target → Steps p.tables e below (T.setTop g) target := by
  obtain ⟨mk, methM, cM, hnamed, hmethM, -, -, -, -, -, -, hsigM⟩ := Cond.codeWith_spec hcode
  have hstatic : methM.isStatic = true := Cond.static_spec hnamed hmethM hstat
  obtain ⟨kP, hkP, -⟩ := className_of_methodNamed hnamed
  have hinitP : kP.init = .initialized := Cond.initialized_spec (findClass_of_methodNamed hnamed) hkP hinit
  obtain ⟨vm₁, X₁, hstep₁⟩ := X.invokestatic hexec hown hlink hnamed hmethM hstatic hkP hinitP hy (g := g) hg (argsL := argsL) (rest := rest) (hlen _ hsigM) hstack hdg
  obtain ⟨v, B, X', hpost, hsteps⟩ := hK m meth c ⟨T.setVm vm₁, locs, cells, slots⟩ { g with stack := rest } (.invokestatic index) mk argsL.toArray X₁ hg hsize hdg hW (X₁.named hnamed) (hpre vm₁ X₁.warmed)
  exact ⟨v, vm₁, B, X₁.warmed, X', hpost, fun target h => hstep₁ _ fun acts => by rw [doInvoke_state]; exact hsteps.trans h⟩
theorem vx_runSW {y : MethodName} {bytes cc : ByteArray} {maxL nL mc ms n index : Nat} {ret : Option FieldType} {hh : List (Nat × Nat × Nat × Nat)} {ws : List Cond} {rm : Room} {Pc : Array Value → State → Prop} {Qc : Array Value → State → Outcome → State → Prop} {free : Addr → Prop} {Ts : List Cond} {own : String} {As rest : List Value} {g : JFrame}
    (S : CallFix p m c cc nL s args Ts own) (hM : Met l y ws rm Pc Qc mc ms free) (cw : vx_CSW R s args own index y bytes maxL ret hh ws rm mc ms n) (hp : PreS s H Pc As)
    (hg : g.method = m) (hn : As.length = n) (hsize : g.locals.size = nL) (hstack : g.stack = As.reverse ++ rest) (hW : 2 * g.monitorRoom + (rest.map fun v => v.category).sum ≤ 8) (hdg : decode cc g.pc = .ok (.invokestatic index, 3)) (hf : cells + mc ≤ R.cells ∧ slots + ms ≤ R.slots) :
    va_Run p l e R s m args below meth c H locs cells slots mc ms g rest (Qc As.toArray) (free) := by
  obtain ⟨⟨hrc, hrs, hfr, hlo, hws, hcw⟩, hcode, hini, hy, hlen, hl, hstt⟩ := cw
  have hK : Back l R p e below s args y 3 8 (PreOf R mc ms Pc) (PostOf Qc mc ms free) := va_backW (hh := hh) (bytes := bytes) (maxL := maxL) (ret := ret) hM hp.1 hrc hrs hfr hlo hws hcw (fun a' U hW => word_at hW (Or.inl (by first | rfl | simp [Cond.onTables, Cond.keeps, Cond.steady])) hini)
  obtain ⟨hx, hb, hml, ho, -⟩ := S
  intro T hT X
  obtain ⟨v, vm₁, ⟨U', l2, c2, s2⟩, hW₁, X', ⟨g', mk, t, L, e1, e2, hq, h1, hL, h2, h3⟩, st⟩ := vx_callSW X hx (hh := hh) (bytes := bytes) (maxL := maxL) (ret := ret) ho hl hstt hini hcode hy hK hg (hsize.trans hml.symm) (argsL := As) (rest := rest) (fun sig h => hn.trans (hlen sig h)) hstack hW (by rw [hb]; exact hdg)
    (fun vm₁ hW₁ => ⟨hf.1, hf.2, hp.2 (T.setVm vm₁) hT hW₁⟩)
  dsimp only [Pt.U, Pt.locs, Pt.cells, Pt.slots] at X' e1 e2 h1 h2 h3 st
  subst h1; subst h2; subst h3
  exact ⟨v, (T.setVm vm₁).calling g' mk As.toArray, t, U', L, hT, X', hL, e1, e2, hq, st⟩
/-- not caught here, past rows that name other classes: it goes on to the caller -/
theorem vx_outP {p : Program} {l : Launch} {e : Env} {R : Room} {s : State} {m : MethodId} {args : Array Value} {below : List Frame} {meth : Method} {c : Code} {H : Heap} {locs : List Loc} {cells slots : Nat} {free : Addr → Prop} {ls : Array Slot} {rest : List Value} {Qc : Array Value → State → Outcome → State → Prop} {XC : String → State → State → Prop}
    {pc : Nat} {own E : String} {ce : Cell} {q : Addr} {mc ms : Nat} (hown : s.vm.findClass own = some m.cls) (hlocks : meth.locks = false)
    (hpass : ∀ z ∈ c.exceptionTable.toList, covers z pc = false ∨ (z.catchType ≠ 0 ∧ ∃ nm : String, (Cond.classLink own z.catchType nm).before args s = true ∧ va_Nc E nm s)) (hcell : H[q]? = some ce) (hv : ce.vm = .none) (hcl : s.vm.findClass E = some ce.cls)
    (hx : ∀ t : State, t.heap = H → s.vm.Alike t.vm → XC E s t) (hf : ∀ z ∈ locs, free z.base) (hc : cells ≤ mc) (hs : slots ≤ ms) :
    vx_W p l e R s m args below meth c H locs cells slots (vx_MQ below Qc XC args s mc ms free) (F0 m pc ls rest) q := by
  intro T hT X
  have hpl : e.platform.magicAccessors = ({} : Platform).magicAccessors := by rw [X.admits.platform]
  obtain ⟨vm', hW', X', st⟩ := X.outThrough hlocks q (g := F0 m pc ls rest) rfl rfl rfl (cell := ce) (by rw [hT]; exact hcell) (by rw [hv]; rfl)
    (by obtain ⟨k9, h9, -⟩ := Vm.findClass_spec hcl; exact ⟨k9, h9⟩) (fun z hz => by
      rcases hpass z hz with h | ⟨hz0, nm, hl1, hn1⟩
      · exact Or.inl h
      · obtain ⟨c6, hc6, hcl6⟩ := Cond.classLink_spec hown hl1 e.platform hpl
        obtain ⟨a8, b8, h1, h2, h3⟩ := hn1
        cases Option.some.inj (h1.symm.trans hcl)
        cases Option.some.inj (h2.symm.trans hc6)
        exact Or.inr ⟨hz0, _, hcl6, h3⟩)
  obtain ⟨g₀, hfr⟩ := X'.frames_eq
  have hcell9 : ((T.setVm vm').setFrames (.throwing q :: below)).heap[q]? = some ce := by
    show T.heap[q]? = some ce
    rw [hT]; exact hcell
  have hend : Ended ((T.setVm vm').setFrames (.throwing q :: below)) below (.threw q) := State.frames_setFrames _ (State.cur_lt_of_frames hfr)
  refine ⟨(T.setVm vm').setFrames (.throwing q :: below), ?_, .threw q, X'.here.running, hend, Or.inr ⟨q, rfl, E, ce, locs, hx _ hT (X'.ends _).1.alike, hcell9, hv, hcl, (X'.ends _).1, (X'.ends _).2.mono hc hs, hf⟩⟩
  rw [X.pushThrowing_eq]
  exact st
/-- a thing of a world lies in the heap -/
theorem vx_lt {D : va_G} {cl : List vw_C} {ws : va_W} {H1 : Heap} (h : va_P D cl ws H1) {k : Nat} {q : Nat × va_E} (hk : ws[k]? = some q) : q.1 < H1.size := (h k q hk).lt
end VXS
/-! ===== END ===== -/
/-! ===== BEGIN methods with a table of their own: called by a name, returning or throwing ===== -/
section VXH
/-! vx_backW, vx_callVX, vx_callSX, vx_callVW, vx_runVW, vx_runVX, vx_runSX, vx_ofWH follow the same proofs as their sisters above (Free/Laws.lean, Shelf42/LK1.lean); vx_outP calls Shelf42/NT130.lean (outThrough). -/
section
variable {l : Launch} {R : Room} {p : Program} {e : Env} {below : List Frame} {s : State} {sargs : Array Value} {y : MethodName} {len W9 : Nat}
theorem vx_backW {ws : List Cond} {rm : Room} {Pc : Array Value → State → Prop} {Qc : Array Value → State → Outcome → State → Prop} {XC : String → State → State → Prop} {mc ms : Nat} {free : Addr → Prop} {bytes : ByteArray} {maxL : Nat} {ret : Option FieldType} {hh : List (Nat × Nat × Nat × Nat)}
    (hM : vx_Met l y ws rm Pc Qc XC mc ms free) (hblind : FrameBlind Pc) (hrc : rm.cells = mc) (hrs : rm.slots = ms)
    (hframes : rm.frames + 1 ≤ R.frames) (hlocals : W9 + (maxL + 11) + rm.locals ≤ R.locals)
    (hws : ∀ w ∈ ws, ∀ a' U, s.WarmedH U.vm → w.before a' U = true) (hcode : Cond.codeWith y bytes maxL ret hh ∈ ws) (hinit : ∀ a' U, s.WarmedH U.vm → (Cond.initialized y.cls).before a' U = true) :
    vx_Back l R p e below s sargs y len W9 (PreOf R mc ms Pc) (PostOf Qc mc ms free) (vx_Post XC mc ms free) := by
  intro m meth c A g ig mk a X hg hsize hdg hW hn hp
  have h1 : (headSpec ws rm).pre.before a A.U = true := atoms_intro fun w hw => hws w hw _ _ X.warmed
  have h2 : (Cond.codeWith y bytes maxL ret hh).before a A.U = true := hws _ hcode _ _ X.warmed
  have h3 : (Cond.initialized y.cls).before a A.U = true := hinit _ _ X.warmed
  have h4 : A.cells + (headSpec ws rm).room.cells ≤ R.cells := by rw [show (headSpec ws rm).room.cells = mc from hrc]; exact hp.1
  have h5 : A.slots + (headSpec ws rm).room.slots ≤ R.slots := by rw [show (headSpec ws rm).room.slots = ms from hrs]; exact hp.2.1
  have hPc : Pc a (A.U.calling g mk a) := hblind _ _ _ _ hp.2.2
  obtain ⟨U, Ls, c0, s0⟩ := A
  dsimp only [Pt.U, Pt.locs, Pt.cells, Pt.slots] at h1 h2 h3 h4 h5 X hn hPc ⊢
  obtain ⟨m9, methY, cY, hn9, hmY, hcY, -, hlY, -⟩ := Cond.codeWith_spec h2
  cases Option.some.inj (hn9.symm.trans hn)
  obtain ⟨kY, hkY, -⟩ := className_of_methodNamed hn
  have hinitY : kY.init = .initialized := Cond.initialized_spec (findClass_of_methodNamed hn) hkY h3
  have h : At U g.method c below := by rw [hg]; exact X.here
  have hlocals9 : W9 + (maxL + 11) + (headSpec ws rm).room.locals ≤ R.locals := hlocals
  have happ : (headSpec ws rm).appliesLoose y e.platform (U.calling g mk a) = true :=
    Spec.appliesLoose_calling (g := g) h hdg hn hkY hinitY
      (X.room_calling (g := g) (R' := (headSpec ws rm).room) hsize hmY hcY hframes (by rw [hlY]; omega) h4 h5) h1
  obtain ⟨mid, hmid⟩ := h.above
  have hfr : (U.setTop g).frames = (.java g :: mid) ++ below := by rw [State.frames_setTop' g h.top, hmid]; rfl
  obtain ⟨o, s₂, hsteps, -, hend, hq⟩ := Steps.callFree hM p X.admits X.cas X.clock (acts := []) hfr happ hPc trivial
  have hq' : vx_Q Qc XC mc ms free a (U.calling g mk a) o s₂ := hq
  rw [State.frames_setTop' g h.top] at hend
  obtain ⟨g₀, hg0⟩ := Option.isSome_iff_exists.mp h.top
  obtain ⟨r, hr⟩ := State.topJava?_eq_some.mp hg0
  have hr' : (({ U with heap := s₂.heap, slotsUsed := s₂.slotsUsed } : State).setVm s₂.vm).frames = .java g₀ :: r := hr
  rcases hq' with ⟨hqc, L, hfe, hL⟩ | ⟨q, rfl, E, ce, L, hx, hce, hcv, hcl, hW₂, hsm, hL⟩
  · obtain ⟨⟨v, rfl⟩, hW₂, e2, q2, q3, q4, q5, q6⟩ := id hfe
    have e3 : s₂ = ({ (U.calling g mk a).setFrames s₂.frames with heap := s₂.heap, slotsUsed := s₂.slotsUsed } : State).setVm s₂.vm := by
      have : s₂ = ({ s₂ with vm := (U.calling g mk a).vm } : State).setVm s₂.vm := rfl
      rw [e2] at this
      exact this
    obtain ⟨c₂, i₂, len₂, hc₂, hd₂, hf₂⟩ := hend
    have hW' : U.WarmedH s₂.vm := hW₂
    have hcc : c₂ = c := by
      have h1 : s₂.code? g.method = U.code? g.method := by
        rw [State.code?_eq, State.code?_eq, hW'.alike.method?]
      exact Option.some.inj (hc₂.symm.trans (h1.trans h.code))
    subst hcc
    have hlen : len₂ = len := by rw [hdg] at hd₂; cases hd₂; rfl
    subst hlen
    have hs₂ : s₂ = (({ U with heap := s₂.heap, slotsUsed := s₂.slotsUsed } : State).setVm s₂.vm).setTop { g with pc := g.pc + len₂, stack := v.toList ++ g.stack } := by
      refine e3.trans ?_
      rw [hf₂, State.calling_eq h.top, State.setFrames_setFrames, State.setTop_of_frames _ hr', hr]
      rfl
    have hsame : U.sameButNew ({ U with heap := s₂.heap, slotsUsed := s₂.slotsUsed } : State) L mc ms := by
      refine ⟨?_, q2, q3, q4, q5, q6⟩
      obtain ⟨t, ht, -⟩ := State.frames_cons hr
      show ({ U with heap := s₂.heap, slotsUsed := s₂.slotsUsed } : State) = { U.setFrames U.frames with heap := s₂.heap, slotsUsed := s₂.slotsUsed }
      rw [State.setFrames_self ht]
    subst hg
    refine Or.inl ⟨v, ⟨(({ U with heap := s₂.heap, slotsUsed := s₂.slotsUsed } : State).setVm s₂.vm), Ls ++ L, c0 + mc, s0 + ms⟩,
      ⟨X.admits, X.cas, X.clock, X.frames, X.room, X.hears, X.method, X.code, (X.here.setHeapUsed s₂.heap s₂.slotsUsed).setVm hW'.alike, X.tail, State.WarmedH.trans X.warmed hW', X.limits, X.bytes, X.same.trans (hsame.setVm s.vm)⟩,
      ⟨g, mk, s₂, L, rfl, rfl, hqc, rfl, hL, rfl, rfl⟩, ?_⟩
    show Steps p.tables e below _ ((({ U with heap := s₂.heap, slotsUsed := s₂.slotsUsed } : State).setVm s₂.vm).setTop { g with pc := g.pc + len₂, stack := v.toList ++ g.stack })
    rw [← hs₂]
    exact hsteps
  · obtain ⟨e2, q2, q3, q4, q5, q6⟩ := id hsm
    have e3 : s₂ = ({ (U.calling g mk a).setFrames s₂.frames with heap := s₂.heap, slotsUsed := s₂.slotsUsed } : State).setVm s₂.vm := by
      have : s₂ = ({ s₂ with vm := (U.calling g mk a).vm } : State).setVm s₂.vm := rfl
      rw [e2] at this
      exact this
    have hf₂ : s₂.frames = .throwing q :: .java g :: U.frames.tail := hend
    have hW' : U.WarmedH s₂.vm := hW₂
    have hs₂ : s₂ = ((({ U with heap := s₂.heap, slotsUsed := s₂.slotsUsed } : State).setVm s₂.vm).setTop g).pushFrame (.throwing q) := by
      refine e3.trans ?_
      rw [hf₂, State.calling_eq h.top, State.setFrames_setFrames, State.pushFrame, State.frames_setTop _ hr', State.setTop_of_frames _ hr', State.setFrames_setFrames, hr]
      rfl
    have hsame : U.sameButNew ({ U with heap := s₂.heap, slotsUsed := s₂.slotsUsed } : State) L mc ms := by
      refine ⟨?_, q2, q3, q4, q5, q6⟩
      obtain ⟨t, ht, -⟩ := State.frames_cons hr
      show ({ U with heap := s₂.heap, slotsUsed := s₂.slotsUsed } : State) = { U.setFrames U.frames with heap := s₂.heap, slotsUsed := s₂.slotsUsed }
      rw [State.setFrames_self ht]
    subst hg
    refine Or.inr ⟨q, ⟨(({ U with heap := s₂.heap, slotsUsed := s₂.slotsUsed } : State).setVm s₂.vm), Ls ++ L, c0 + mc, s0 + ms⟩,
      ⟨X.admits, X.cas, X.clock, X.frames, X.room, X.hears, X.method, X.code, (X.here.setHeapUsed s₂.heap s₂.slotsUsed).setVm hW'.alike, X.tail, State.WarmedH.trans X.warmed hW', X.limits, X.bytes, X.same.trans (hsame.setVm s.vm)⟩,
      ⟨g, mk, s₂, L, E, ce, rfl, rfl, hx, hce, hcv, hcl, rfl, hL, rfl, rfl⟩, ?_⟩
    show Steps p.tables e below _ (((({ U with heap := s₂.heap, slotsUsed := s₂.slotsUsed } : State).setVm s₂.vm).setTop g).pushFrame (.throwing q))
    rw [← hs₂]
    exact hsteps
end
variable {p : Program} {l : Launch} {e : Env} {R : Room} {s : State} {m : MethodId} {args : Array Value} {below : List Frame} {meth : Method} {c : Code} {T : State} {H : Heap} {locs : List Loc} {cells slots : Nat}
theorem vx_callVX (X : Stand p l e R s m args below meth c T locs cells slots) (hexec : p.tables.exec = Jvm.exec) {own C : String} {index : Nat} {y : MethodName} {bytes : ByteArray} {maxL : Nat} {ret : Option FieldType} {hh : List (Nat × Nat × Nat × Nat)}
    (hown : s.vm.findClass own = some m.cls) (hlink : (Cond.methodLink own index y).before args s = true) (hinst : (Cond.instanceMethod y).before args s = true) (hsel : (Cond.selects C y y).before args s = true)
    (hcode : (Cond.codeWith y bytes maxL ret hh).before args s = true) (hy : y.cls ≠ "java/lang/invoke/MethodHandle" ∧ y.cls ≠ "java/lang/invoke/VarHandle")
    {W9 : Nat} {Pre : Pt → Array Value → Prop} {Post : Pt → Array Value → Option Value → Pt → Prop} {PostX : Pt → Array Value → Addr → Pt → Prop} (hK : vx_Back l R p e below s args y 3 W9 Pre Post PostX)
    {b : Addr} {cellB : Cell} (hcell : T.heap[b]? = some cellB) (hobj : cellB.vm.isStatics = false) (hcls : s.vm.findClass C = some cellB.cls)
    {g : JFrame} (hg : g.method = m) (hsize : g.locals.size = c.maxLocals) {argsL rest : List Value} (hlen : ∀ sig, parseMethodDescriptor y.desc = some sig → argsL.length = sig.parameters.length)
    (hstack : g.stack = argsL.reverse ++ .ref b :: rest) (hW : 2 * g.monitorRoom + (rest.map fun v => v.category).sum ≤ W9) (hdg : decode c.code g.pc = .ok (.invokevirtual index, 3))
    (hpre : ∀ vm₁, s.WarmedH vm₁ → Pre ⟨T.setVm vm₁, locs, cells, slots⟩ (Value.ref b :: argsL).toArray) :
    (∃ (v : Option Value) (vm₁ : Vm) (B : Pt), s.WarmedH vm₁ ∧ Stand p l e R s m args below meth c B.U B.locs B.cells B.slots ∧ Post ⟨T.setVm vm₁, locs, cells, slots⟩ (Value.ref b :: argsL).toArray v B ∧
      ∀ target, Steps p.tables e below (B.U.setTop { g with pc := g.pc + 3, stack := v.toList ++ rest }) target → Steps p.tables e below (T.setTop g) target) ∨
    (∃ (q : Addr) (vm₁ : Vm) (B : Pt), s.WarmedH vm₁ ∧ Stand p l e R s m args below meth c B.U B.locs B.cells B.slots ∧ PostX ⟨T.setVm vm₁, locs, cells, slots⟩ (Value.ref b :: argsL).toArray q B ∧
      Steps p.tables e below (T.setTop g) ((B.U.setTop { g with stack := rest }).pushFrame (.throwing q))) := by
  obtain ⟨mk, methM, hnamed, hmethM, hstM, habM⟩ := Cond.instanceMethod_spec hinst
  obtain ⟨m8, methM', cM, hn8, hmethM', -, -, -, -, -, -, hsigM⟩ := Cond.codeWith_spec hcode
  cases Option.some.inj (hn8.symm.trans hnamed)
  cases hmethM.symm.trans hmethM'
  obtain ⟨c2, r2, m2, q1, q2, q3, q4, kP, hkP, hkPi⟩ := Cond.selects_spec hsel
  cases hcls.symm.trans q1
  cases (State.methodFound?_of_named hnamed hy).symm.trans q2
  cases hnamed.symm.trans q3
  have hselP : selectMethod e.platform s.vm cellB.cls mk = .method mk := by rw [Launch.admits_selectMethod X.admits]; exact q4
  obtain ⟨vm₁, X₁, hstep₁⟩ := X.invokevirtual hexec hown hlink hnamed hmethM hstM hkP hkPi hy (a := b) (cell := cellB) hcell
    (fun z h => by rw [h] at hobj; cases hobj) hselP hmethM habM hkP hkPi (g := g) hg (argsL := argsL) (rest := rest) (hlen _ hsigM) hstack hdg
  rcases hK m meth c ⟨T.setVm vm₁, locs, cells, slots⟩ { g with stack := rest } (.invokevirtual index) mk (Value.ref b :: argsL).toArray X₁ hg hsize hdg hW (X₁.named hnamed) (hpre vm₁ X₁.warmed) with ⟨v, B, X', hpost, hsteps⟩ | ⟨q, B, X', hpost, hsteps⟩
  · exact Or.inl ⟨v, vm₁, B, X₁.warmed, X', hpost, fun target h => hstep₁ _ fun acts => by rw [doInvoke_state]; exact hsteps.trans h⟩
  · exact Or.inr ⟨q, vm₁, B, X₁.warmed, X', hpost, hstep₁ _ fun acts => by rw [doInvoke_state]; exact hsteps⟩
theorem vx_callSX (X : Stand p l e R s m args below meth c T locs cells slots) (hexec : p.tables.exec = Jvm.exec) {own : String} {index : Nat} {y : MethodName} {bytes : ByteArray} {maxL : Nat} {ret : Option FieldType} {hh : List (Nat × Nat × Nat × Nat)}
    (hown : s.vm.findClass own = some m.cls) (hlink : (Cond.methodLink own index y).before args s = true) (hstat : (Cond.static y).before args s = true) (hinit : (Cond.initialized y.cls).before args s = true)
    (hcode : (Cond.codeWith y bytes maxL ret hh).before args s = true) (hy : y.cls ≠ "java/lang/invoke/MethodHandle" ∧ y.cls ≠ "java/lang/invoke/VarHandle")
    {W9 : Nat} {Pre : Pt → Array Value → Prop} {Post : Pt → Array Value → Option Value → Pt → Prop} {PostX : Pt → Array Value → Addr → Pt → Prop} (hK : vx_Back l R p e below s args y 3 W9 Pre Post PostX)
    {g : JFrame} (hg : g.method = m) (hsize : g.locals.size = c.maxLocals) {argsL rest : List Value} (hlen : ∀ sig, parseMethodDescriptor y.desc = some sig → argsL.length = sig.parameters.length)
    (hstack : g.stack = argsL.reverse ++ rest) (hW : 2 * g.monitorRoom + (rest.map fun v => v.category).sum ≤ W9) (hdg : decode c.code g.pc = .ok (.invokestatic index, 3))
    (hpre : ∀ vm₁, s.WarmedH vm₁ → Pre ⟨T.setVm vm₁, locs, cells, slots⟩ argsL.toArray) :
    (∃ (v : Option Value) (vm₁ : Vm) (B : Pt), s.WarmedH vm₁ ∧ Stand p l e R s m args below meth c B.U B.locs B.cells B.slots ∧ Post ⟨T.setVm vm₁, locs, cells, slots⟩ argsL.toArray v B ∧
      ∀ target, Steps p.tables e below (B.U.setTop { g with pc := g.pc + 3, stack := v.toList ++ rest }) target → Steps p.tables e below (T.setTop g) target) ∨
    (∃ (q : Addr) (vm₁ : Vm) (B : Pt), s.WarmedH vm₁ ∧ Stand p l e R s m args below meth c B.U B.locs B.cells B.slots ∧ PostX ⟨T.setVm vm₁, locs, cells, slots⟩ argsL.toArray q B ∧
      Steps p.tables e below (T.setTop g) ((B.U.setTop { g with stack := rest }).pushFrame (.throwing q))) := by
  obtain ⟨mk, methM, cM, hnamed, hmethM, -, -, -, -, -, -, hsigM⟩ := Cond.codeWith_spec hcode
  have hstatic : methM.isStatic = true := Cond.static_spec hnamed hmethM hstat
  obtain ⟨kP, hkP, -⟩ := className_of_methodNamed hnamed
  have hinitP : kP.init = .initialized := Cond.initialized_spec (findClass_of_methodNamed hnamed) hkP hinit
  obtain ⟨vm₁, X₁, hstep₁⟩ := X.invokestatic hexec hown hlink hnamed hmethM hstatic hkP hinitP hy (g := g) hg (argsL := argsL) (rest := rest) (hlen _ hsigM) hstack hdg
  rcases hK m meth c ⟨T.setVm vm₁, locs, cells, slots⟩ { g with stack := rest } (.invokestatic index) mk argsL.toArray X₁ hg hsize hdg hW (X₁.named hnamed) (hpre vm₁ X₁.warmed) with ⟨v, B, X', hpost, hsteps⟩ | ⟨q, B, X', hpost, hsteps⟩
  · exact Or.inl ⟨v, vm₁, B, X₁.warmed, X', hpost, fun target h => hstep₁ _ fun acts => by rw [doInvoke_state]; exact hsteps.trans h⟩
  · exact Or.inr ⟨q, vm₁, B, X₁.warmed, X', hpost, hstep₁ _ fun acts => by rw [doInvoke_state]; exact hsteps⟩
theorem vx_callVW (X : Stand p l e R s m args below meth c T locs cells slots) (hexec : p.tables.exec = Jvm.exec) {own C : String} {index : Nat} {y : MethodName} {bytes : ByteArray} {maxL : Nat} {ret : Option FieldType} {hh : List (Nat × Nat × Nat × Nat)}
    (hown : s.vm.findClass own = some m.cls) (hlink : (Cond.methodLink own index y).before args s = true) (hinst : (Cond.instanceMethod y).before args s = true) (hsel : (Cond.selects C y y).before args s = true)
    (hcode : (Cond.codeWith y bytes maxL ret hh).before args s = true) (hy : y.cls ≠ "java/lang/invoke/MethodHandle" ∧ y.cls ≠ "java/lang/invoke/VarHandle")
    {W9 : Nat} {Pre : Pt → Array Value → Prop} {Post : Pt → Array Value → Option Value → Pt → Prop} (hK : Back l R p e below s args y 3 W9 Pre Post)
    {b : Addr} {cellB : Cell} (hcell : T.heap[b]? = some cellB) (hobj : cellB.vm.isStatics = false) (hcls : s.vm.findClass C = some cellB.cls)
    {g : JFrame} (hg : g.method = m) (hsize : g.locals.size = c.maxLocals) {argsL rest : List Value} (hlen : ∀ sig, parseMethodDescriptor y.desc = some sig → argsL.length = sig.parameters.length)
    (hstack : g.stack = argsL.reverse ++ .ref b :: rest) (hW : 2 * g.monitorRoom + (rest.map fun v => v.category).sum ≤ W9) (hdg : decode c.code g.pc = .ok (.invokevirtual index, 3))
    (hpre : ∀ vm₁, s.WarmedH vm₁ → Pre ⟨T.setVm vm₁, locs, cells, slots⟩ (Value.ref b :: argsL).toArray) :
    ∃ (v : Option Value) (vm₁ : Vm) (B : Pt), s.WarmedH vm₁ ∧ Stand p l e R s m args below meth c B.U B.locs B.cells B.slots ∧ Post ⟨T.setVm vm₁, locs, cells, slots⟩ (Value.ref b :: argsL).toArray v B ∧
      ∀ target, Steps p.tables e below (B.U.setTop { g with pc := g.pc + 3, stack := v.toList ++ rest }) target → Steps p.tables e below (T.setTop g) target := by
  obtain ⟨mk, methM, hnamed, hmethM, hstM, habM⟩ := Cond.instanceMethod_spec hinst
  obtain ⟨m8, methM', cM, hn8, hmethM', -, -, -, -, -, -, hsigM⟩ := Cond.codeWith_spec hcode
  cases Option.some.inj (hn8.symm.trans hnamed)
  cases hmethM.symm.trans hmethM'
  obtain ⟨c2, r2, m2, q1, q2, q3, q4, kP, hkP, hkPi⟩ := Cond.selects_spec hsel
  cases hcls.symm.trans q1
  cases (State.methodFound?_of_named hnamed hy).symm.trans q2
  cases hnamed.symm.trans q3
  have hselP : selectMethod e.platform s.vm cellB.cls mk = .method mk := by rw [Launch.admits_selectMethod X.admits]; exact q4
  obtain ⟨vm₁, X₁, hstep₁⟩ := X.invokevirtual hexec hown hlink hnamed hmethM hstM hkP hkPi hy (a := b) (cell := cellB) hcell
    (fun z h => by rw [h] at hobj; cases hobj) hselP hmethM habM hkP hkPi (g := g) hg (argsL := argsL) (rest := rest) (hlen _ hsigM) hstack hdg
  obtain ⟨v, B, X', hpost, hsteps⟩ := hK m meth c ⟨T.setVm vm₁, locs, cells, slots⟩ { g with stack := rest } (.invokevirtual index) mk (Value.ref b :: argsL).toArray X₁ hg hsize hdg hW (X₁.named hnamed) (hpre vm₁ X₁.warmed)
  exact ⟨v, vm₁, B, X₁.warmed, X', hpost, fun target h => hstep₁ _ fun acts => by rw [doInvoke_state]; exact hsteps.trans h⟩
abbrev vx_CVW (R : Room) (s : State) (args : Array Value) (own C : String) (index : Nat) (y : MethodName) (bytes : ByteArray) (maxL : Nat) (ret : Option FieldType) (hh : List (Nat × Nat × Nat × Nat)) (ws : List Cond) (rm : Room) (mc ms n : Nat) : Prop :=
  (rm.cells = mc ∧ rm.slots = ms ∧ rm.frames + 1 ≤ R.frames ∧ 8 + (maxL + 11) + rm.locals ≤ R.locals ∧ (∀ w ∈ ws, ∀ (a' : Array Value) (U : State), s.WarmedH U.vm → w.before a' U = true) ∧ Cond.codeWith y bytes maxL ret hh ∈ ws) ∧
  (Cond.codeWith y bytes maxL ret hh).before args s = true ∧ (Cond.initialized y.cls).before args s = true ∧ (y.cls ≠ "java/lang/invoke/MethodHandle" ∧ y.cls ≠ "java/lang/invoke/VarHandle") ∧
  (∀ sig, parseMethodDescriptor y.desc = some sig → n = sig.parameters.length) ∧ (Cond.methodLink own index y).before args s = true ∧ (Cond.instanceMethod y).before args s = true ∧ (Cond.selects C y y).before args s = true
theorem vx_cwVW {own C : String} {index maxL mc ms : Nat} {y : MethodName} {bytes : ByteArray} {ret : Option FieldType} {hh : List (Nat × Nat × Nat × Nat)} {Ts ws ws' : List Cond} {rm : Room} (n : Nat) (ht : ∀ w ∈ Ts, w.before args s = true) (hT : GoodIn Ts (wsV own index C y ws)) (hw : ws = Cond.codeWith y bytes maxL ret hh :: ws') (hrc : rm.cells = mc) (hrs : rm.slots = ms)
    (hd : y.cls = C ∧ y.cls ≠ "java/lang/invoke/MethodHandle" ∧ y.cls ≠ "java/lang/invoke/VarHandle" ∧ (parseMethodDescriptor y.desc).map (fun d => d.parameters.length) = some n) (hR : rm.frames + 1 ≤ R.frames ∧ 8 + (maxL + 11) + rm.locals ≤ R.locals) :
    vx_CVW R s args own C index y bytes maxL ret hh ws rm mc ms n := by
  obtain ⟨hC, hd⟩ := hd
  subst hC
  have ok : ∀ w ∈ wsV own index y.cls y ws, w.before args s = true := fun w h => ht w (hT w h).1
  have hG : GoodIn Ts ws := fun w h => hT w (by unfold wsV; exact List.mem_append_right _ h)
  have hc : Cond.codeWith y bytes maxL ret hh ∈ ws := by rw [hw]; exact List.mem_cons_self
  refine ⟨⟨hrc, hrs, hR.1, hR.2, pay_in ht hG, hc⟩, ht _ (hG _ hc).1, ok _ (by simp [wsV]), ⟨hd.1, hd.2.1⟩, fun sig h => ?_, ok _ (by simp [wsV]), ok _ (by simp [wsV]), ok _ (by simp [wsV])⟩
  have h2 := hd.2.2
  rw [h] at h2
  exact (Option.some.inj h2).symm
theorem vx_runVW {y : MethodName} {bytes cc : ByteArray} {maxL nL mc ms n index : Nat} {ret : Option FieldType} {hh : List (Nat × Nat × Nat × Nat)} {ws : List Cond} {rm : Room} {Pc : Array Value → State → Prop} {Qc : Array Value → State → Outcome → State → Prop} {free : Addr → Prop} {Ts : List Cond} {own C : String} {b : Addr} {As rest : List Value} {g : JFrame}
    (S : CallFix p m c cc nL s args Ts own) (hM : Met l y ws rm Pc Qc mc ms free) (cw : vx_CVW R s args own C index y bytes maxL ret hh ws rm mc ms n) (hp : PreV s H C b Pc As)
    (hg : g.method = m) (hn : As.length = n) (hsize : g.locals.size = nL) (hstack : g.stack = As.reverse ++ .ref b :: rest) (hW : 2 * g.monitorRoom + (rest.map fun v => v.category).sum ≤ 8) (hdg : decode cc g.pc = .ok (.invokevirtual index, 3)) (hf : cells + mc ≤ R.cells ∧ slots + ms ≤ R.slots) :
    va_Run p l e R s m args below meth c H locs cells slots mc ms g rest (Qc (Value.ref b :: As).toArray) free := by
  obtain ⟨⟨hrc, hrs, hfr, hlo, hws, hcw⟩, hcode, hini, hy, hlen, hl, hin, hse⟩ := cw
  have hK : Back l R p e below s args y 3 8 (PreOf R mc ms Pc) (PostOf Qc mc ms free) := va_backW (hh := hh) (bytes := bytes) (maxL := maxL) (ret := ret) hM hp.1 hrc hrs hfr hlo hws hcw (fun a' U hW => word_at hW (Or.inl (by first | rfl | simp [Cond.onTables, Cond.keeps, Cond.steady])) hini)
  obtain ⟨hx, hb, hml, ho, -⟩ := S
  obtain ⟨-, ⟨cellB, hcB, hoB, hclB⟩, hPc⟩ := hp
  intro T hT X
  obtain ⟨v, vm₁, ⟨U', l2, c2, s2⟩, hW₁, X', ⟨g', mk, t, L, e1, e2, hq, h1, hL, h2, h3⟩, st⟩ := vx_callVW X hx (C := C) (hh := hh) (bytes := bytes) (maxL := maxL) (ret := ret) ho hl hin hse hcode hy hK (by rw [hT]; exact hcB) hoB hclB hg (hsize.trans hml.symm) (argsL := As) (rest := rest) (fun sig h => hn.trans (hlen sig h)) hstack hW (by rw [hb]; exact hdg)
    (fun vm₁ hW₁ => ⟨hf.1, hf.2, hPc (T.setVm vm₁) hT hW₁⟩)
  dsimp only [Pt.U, Pt.locs, Pt.cells, Pt.slots] at X' e1 e2 h1 h2 h3 st
  subst h1; subst h2; subst h3
  exact ⟨v, (T.setVm vm₁).calling g' mk (Value.ref b :: As).toArray, t, U', L, hT, X', hL, e1, e2, hq, st⟩
section
variable {y : MethodName} {bytes cc : ByteArray} {maxL nL mc ms n index : Nat} {ret : Option FieldType} {ws : List Cond} {rm : Room} {Pc : Array Value → State → Prop} {Qc : Array Value → State → Outcome → State → Prop} {XC : String → State → State → Prop} {free : Addr → Prop} {Ts : List Cond} {own C : String} {b : Addr} {As rest : List Value} {g : JFrame}
theorem vx_runVX {hh : List (Nat × Nat × Nat × Nat)} (S : CallFix p m c cc nL s args Ts own) (hM : vx_Met l y ws rm Pc Qc XC mc ms free) (cw : vx_CVW R s args own C index y bytes maxL ret hh ws rm mc ms n) (hp : PreV s H C b Pc As)
    (hg : g.method = m) (hn : As.length = n) (hsize : g.locals.size = nL) (hstack : g.stack = As.reverse ++ .ref b :: rest) (hW : 2 * g.monitorRoom + (rest.map fun v => v.category).sum ≤ 8) (hdg : decode cc g.pc = .ok (.invokevirtual index, 3)) (hf : cells + mc ≤ R.cells ∧ slots + ms ≤ R.slots) :
    vx_Run p l e R s m args below meth c H locs cells slots mc ms g rest (Qc (Value.ref b :: As).toArray) XC free := by
  obtain ⟨⟨hrc, hrs, hfr, hlo, hws, hcw⟩, hcode, hini, hy, hlen, hl, hin, hse⟩ := cw
  have hK : vx_Back l R p e below s args y 3 8 (PreOf R mc ms Pc) (PostOf Qc mc ms free) (vx_Post XC mc ms free) := vx_backW (hh := hh) (bytes := bytes) (maxL := maxL) (ret := ret) hM hp.1 hrc hrs hfr hlo hws hcw (fun a' U hW => word_at hW (Or.inl (by first | rfl | simp [Cond.onTables, Cond.keeps, Cond.steady])) hini)
  obtain ⟨hx, hb, hml, ho, -⟩ := S
  obtain ⟨-, ⟨cellB, hcB, hoB, hclB⟩, hPc⟩ := hp
  intro T hT X
  rcases vx_callVX X hx (C := C) (hh := hh) (bytes := bytes) (maxL := maxL) (ret := ret) ho hl hin hse hcode hy hK (by rw [hT]; exact hcB) hoB hclB hg (hsize.trans hml.symm) (argsL := As) (rest := rest) (fun sig h => hn.trans (hlen sig h)) hstack hW (by rw [hb]; exact hdg)
    (fun vm₁ hW₁ => ⟨hf.1, hf.2, hPc (T.setVm vm₁) hT hW₁⟩) with ⟨v, vm₁, ⟨U', l2, c2, s2⟩, hW₁, X', ⟨g', mk, t, L, e1, e2, hq, h1, hL, h2, h3⟩, st⟩ | ⟨q, vm₁, ⟨U', l2, c2, s2⟩, hW₁, X', ⟨g', mk, t, L, E, ce, e1, e2, hq, hce, hcv, hcl, h1, hL, h2, h3⟩, st⟩
  · dsimp only [Pt.U, Pt.locs, Pt.cells, Pt.slots] at X' e1 e2 h1 h2 h3 st
    subst h1; subst h2; subst h3
    exact Or.inl ⟨v, (T.setVm vm₁).calling g' mk (Value.ref b :: As).toArray, t, U', L, hT, X', hL, e1, e2, hq, st⟩
  · dsimp only [Pt.U, Pt.locs, Pt.cells, Pt.slots] at X' e1 e2 h1 h2 h3 st hcl
    subst h1; subst h2; subst h3
    exact Or.inr ⟨q, (T.setVm vm₁).calling g' mk (Value.ref b :: As).toArray, t, U', L, E, ce, hT, X', hL, e1, e2, hq, hce, hcv, vx_cls hW₁ hcl, st⟩
theorem vx_runSX {hh : List (Nat × Nat × Nat × Nat)} (S : CallFix p m c cc nL s args Ts own) (hM : vx_Met l y ws rm Pc Qc XC mc ms free) (cw : vx_CSW R s args own index y bytes maxL ret hh ws rm mc ms n) (hp : PreS s H Pc As)
    (hg : g.method = m) (hn : As.length = n) (hsize : g.locals.size = nL) (hstack : g.stack = As.reverse ++ rest) (hW : 2 * g.monitorRoom + (rest.map fun v => v.category).sum ≤ 8) (hdg : decode cc g.pc = .ok (.invokestatic index, 3)) (hf : cells + mc ≤ R.cells ∧ slots + ms ≤ R.slots) :
    vx_Run p l e R s m args below meth c H locs cells slots mc ms g rest (Qc As.toArray) XC free := by
  obtain ⟨⟨hrc, hrs, hfr, hlo, hws, hcw⟩, hcode, hini, hy, hlen, hl, hstt⟩ := cw
  have hK : vx_Back l R p e below s args y 3 8 (PreOf R mc ms Pc) (PostOf Qc mc ms free) (vx_Post XC mc ms free) := vx_backW (hh := hh) (bytes := bytes) (maxL := maxL) (ret := ret) hM hp.1 hrc hrs hfr hlo hws hcw (fun a' U hW => word_at hW (Or.inl (by first | rfl | simp [Cond.onTables, Cond.keeps, Cond.steady])) hini)
  obtain ⟨hx, hb, hml, ho, -⟩ := S
  intro T hT X
  rcases vx_callSX X hx (hh := hh) (bytes := bytes) (maxL := maxL) (ret := ret) ho hl hstt hini hcode hy hK hg (hsize.trans hml.symm) (argsL := As) (rest := rest) (fun sig h => hn.trans (hlen sig h)) hstack hW (by rw [hb]; exact hdg)
    (fun vm₁ hW₁ => ⟨hf.1, hf.2, hp.2 (T.setVm vm₁) hT hW₁⟩) with ⟨v, vm₁, ⟨U', l2, c2, s2⟩, hW₁, X', ⟨g', mk, t, L, e1, e2, hq, h1, hL, h2, h3⟩, st⟩ | ⟨q, vm₁, ⟨U', l2, c2, s2⟩, hW₁, X', ⟨g', mk, t, L, E, ce, e1, e2, hq, hce, hcv, hcl, h1, hL, h2, h3⟩, st⟩
  · dsimp only [Pt.U, Pt.locs, Pt.cells, Pt.slots] at X' e1 e2 h1 h2 h3 st
    subst h1; subst h2; subst h3
    exact Or.inl ⟨v, (T.setVm vm₁).calling g' mk As.toArray, t, U', L, hT, X', hL, e1, e2, hq, st⟩
  · dsimp only [Pt.U, Pt.locs, Pt.cells, Pt.slots] at X' e1 e2 h1 h2 h3 st hcl
    subst h1; subst h2; subst h3
    exact Or.inr ⟨q, (T.setVm vm₁).calling g' mk As.toArray, t, U', L, E, ce, hT, X', hL, e1, e2, hq, hce, hcv, vx_cls hW₁ hcl, st⟩
end
end VXH
theorem vx_ofWH {l : Launch} {y : MethodName} {ws ws' : List Cond} {rm : Room} {Pc : Array Value → State → Prop} {Qc : Array Value → State → Outcome → State → Prop} {XC : String → State → State → Prop} {mc ms : Nat} {free : Addr → Prop} {cc : ByteArray} {maxL : Nat} {ret : Option FieldType} {hh : List (Nat × Nat × Nat × Nat)}
    (hy : plainName y.cls = true) (hw : ws = Cond.codeWith y cc maxL ret hh :: ws')
    (body : ∀ p e s m args below meth c s₁, BodyLoose p l y (headSpec ws rm) cc maxL ret e s m args below meth c s₁ → c.maxLocals = maxL → Pc args s →
      W p l e (headSpec ws rm).room s m args below meth c s.heap [] 0 0 (vx_MQ below Qc XC args s mc ms free) (entryFrame m args maxL)) : vx_Met l y ws rm Pc Qc XC mc ms free := by
  refine MetFree.of_bodyS (code := cc) (maxLocals := maxL) (ret := ret) hy ?_ ?_
  · intro args s m h hn
    obtain ⟨m9, meth, c, hn9, h1, h2, h3, h4, -, h5, h6, -⟩ := Cond.codeWith_spec (atoms_spec (ws := ws) h _ (by rw [hw]; exact List.mem_cons_self))
    cases hn.symm.trans hn9
    exact ⟨meth, c, h1, h2, h3, h4, h5, h6⟩
  · intro p e s m args below meth c s₁ B hml hP _
    have hh0 : s₁.heap = s.heap := by rw [B.state]; rfl
    obtain ⟨t, a1, o, b1, b2, b3⟩ := body p e s m args below meth c s₁ B hml hP s₁ hh0 (Stand.of_body B)
    exact ⟨t, o, a1, b1, b2, b3⟩
/-! ===== END ===== -/
end
section
/-! the names: own, by a program out of the listing; every method has the words gt behind its own code -/
/-- the words of the tables that outlive a call -/
def gt : List Cond := lw_tbl.filter goodWord
theorem gt_mem {w : Cond} (h : w ∈ lw_tbl) (hg : goodWord w = true) : w ∈ gt := List.mem_filter.mpr ⟨h, hg⟩
theorem gt_in : ∀ w ∈ gt, w ∈ lw_tbl := fun w h => (List.mem_filter.mp h).1
theorem gt_good {w : Cond} (h : w ∈ gt) : (w.onTables && w.keeps) = true ∨ ∃ ty, w = .arrayClass ty := good_of_word (List.mem_filter.mp h).2
theorem gt_at (i : Nat) {w : Cond} (h : lw_tbl[i]? = some w) (hg : goodWord w = true) : w ∈ gt := gt_mem (List.mem_of_getElem? h) hg
theorem gg_V {x : Cond} {own C : String} {idx : Nat} {y : MethodName} {cc : ByteArray} {mx : Nat} {ret : Option FieldType} (h1 : Cond.methodLink own idx y ∈ gt) (h2 : Cond.instanceMethod y ∈ gt) (h3 : Cond.selects C y y ∈ gt) (h4 : Cond.initialized C ∈ gt) (h5 : Cond.code y cc mx ret ∈ gt) : GoodIn (x :: gt) (wsV own idx C y (Cond.code y cc mx ret :: gt)) := by
  have key : ∀ w ∈ wsV own idx C y (Cond.code y cc mx ret :: gt), w ∈ gt := by
    intro w hw
    unfold wsV at hw
    rcases List.mem_append.mp hw with h | h
    · simp only [List.mem_cons, List.not_mem_nil, or_false] at h
      rcases h with rfl | rfl | rfl | rfl <;> assumption
    · rcases List.mem_cons.mp h with rfl | h
      · exact h5
      · exact h
  exact fun w hw => ⟨List.mem_cons_of_mem _ (key w hw), gt_good (key w hw)⟩
theorem gg_S {x c9 : Cond} {own : String} {idx : Nat} {y : MethodName} (h1 : Cond.methodLink own idx y ∈ gt) (h2 : Cond.static y ∈ gt) (h4 : Cond.initialized y.cls ∈ gt) (h5 : c9 ∈ gt) : GoodIn (x :: gt) (va_wsS own idx y (c9 :: gt)) := by
  have key : ∀ w ∈ va_wsS own idx y (c9 :: gt), w ∈ gt := by
    intro w hw
    unfold va_wsS at hw
    rcases List.mem_append.mp hw with h | h
    · simp only [List.mem_cons, List.not_mem_nil, or_false] at h
      rcases h with rfl | rfl | rfl <;> assumption
    · rcases List.mem_cons.mp h with rfl | h
      · exact h5
      · exact h
  exact fun w hw => ⟨List.mem_cons_of_mem _ (key w hw), gt_good (key w hw)⟩
theorem gg_C {x c9 : Cond} (h5 : c9 ∈ gt) : GoodIn (x :: gt) (c9 :: gt) := fun w hw => by
  have h : w ∈ gt := by
    rcases List.mem_cons.mp hw with rfl | h
    · exact h5
    · exact h
  exact ⟨List.mem_cons_of_mem _ h, gt_good h⟩
def RX0 : String := "WindowMeters"
def TX0 : u_T := fun k => match k with
  | 0 => ("WindowMeters", "times", "[I", true)
  | 1 => ("WindowMeters", "keys", "[I", true)
  | 2 => ("WindowMeters", "values", "[I", true)
  | 3 => ("WindowMeters", "bySize", "[I", true)
  | 4 => ("WindowMeters", "tupleCount", "I", false)
  | 5 => ("WindowMeters", "kinds", "[I", true)
  | 6 => ("WindowMeters", "lengths", "[I", true)
  | 7 => ("WindowMeters", "windowCount", "I", false)
  | 8 => ("WindowMeters", "now", "I", false)
  | 9 => ("WindowMeters", "inside", "[Z", true)
  | _ => ("WindowMeters", "seenOfKey", "[I", true)
def tyX0 : Nat → FieldType := fun k => match k with
  | 0 => .array .int
  | 1 => .array .int
  | 2 => .array .int
  | 3 => .array .int
  | 4 => .int
  | 5 => .array .int
  | 6 => .array .int
  | 7 => .int
  | 8 => .int
  | 9 => .array .boolean
  | _ => .array .int
theorem nmX0 : ∀ a, a < 11 → ∀ b, b < 11 → a ≠ b → (TX0 a).2.1 ≠ (TX0 b).2.1 := by decide +kernel
theorem tyX0_ok : ∀ k, k < 11 → parseFieldDescriptor (TX0 k).2.2.1 = some (tyX0 k) := by decide +kernel
theorem wiX0 : ∀ w ∈ u_ws RX0 TX0 11, w ∈ gt := fun w h => gt_mem ((by decide +kernel : ∀ w ∈ u_ws RX0 TX0 11, w ∈ lw_tbl) w h) ((by decide +kernel : ∀ w ∈ u_ws RX0 TX0 11, goodWord w = true) w h)
def RX1 : String := "WindowMetersModel"
def TX1 : u_T := fun k => match k with
  | 0 => ("WindowMetersModel", "thrown", "I", false)
  | 1 => ("WindowMetersModel", "many", "I", false)
  | 2 => ("WindowMetersModel", "times", "[I", true)
  | 3 => ("WindowMetersModel", "keys", "[I", true)
  | 4 => ("WindowMetersModel", "values", "[I", true)
  | 5 => ("WindowMetersModel", "now", "I", false)
  | 6 => ("WindowMetersModel", "windows", "I", false)
  | 7 => ("WindowMetersModel", "kinds", "[I", true)
  | 8 => ("WindowMetersModel", "spans", "[I", true)
  | 9 => ("WindowMetersModel", "held", "I", false)
  | 10 => ("WindowMetersModel", "sorted", "[I", true)
  | _ => ("WindowMetersModel", "often", "I", false)
def tyX1 : Nat → FieldType := fun k => match k with
  | 0 => .int
  | 1 => .int
  | 2 => .array .int
  | 3 => .array .int
  | 4 => .array .int
  | 5 => .int
  | 6 => .int
  | 7 => .array .int
  | 8 => .array .int
  | 9 => .int
  | 10 => .array .int
  | _ => .int
theorem nmX1 : ∀ a, a < 12 → ∀ b, b < 12 → a ≠ b → (TX1 a).2.1 ≠ (TX1 b).2.1 := by decide +kernel
theorem tyX1_ok : ∀ k, k < 12 → parseFieldDescriptor (TX1 k).2.2.1 = some (tyX1 k) := by decide +kernel
theorem wiX1 : ∀ w ∈ u_ws RX1 TX1 12, w ∈ gt := fun w h => gt_mem ((by decide +kernel : ∀ w ∈ u_ws RX1 TX1 12, w ∈ lw_tbl) w h) ((by decide +kernel : ∀ w ∈ u_ws RX1 TX1 12, goodWord w = true) w h)
def RL : String := "WindowMetersLaw"
abbrev vwCl : List vw_C := [(RX0, TX0, 11), (RX1, TX1, 12)]
abbrev cX0_init : ByteArray := prog_1_method_1_code
def yX0_init : MethodName := ⟨RX0, "<init>", "()V"⟩
abbrev kX0_init : Cond := .code yX0_init cX0_init 1 none
def wsX0_init : List Cond := kX0_init :: gt
theorem kwX0_init : kX0_init ∈ gt := gt_mem (by decide +kernel) (by decide +kernel)
abbrev cX0_clear : ByteArray := prog_1_method_2_code
def yX0_clear : MethodName := ⟨RX0, "clear", "()V"⟩
abbrev kX0_clear : Cond := .code yX0_clear cX0_clear 1 none
def wsX0_clear : List Cond := kX0_clear :: gt
theorem kwX0_clear : kX0_clear ∈ gt := gt_mem (by decide +kernel) (by decide +kernel)
abbrev cX0_now : ByteArray := prog_1_method_11_code
def yX0_now : MethodName := ⟨RX0, "now", "()I"⟩
abbrev kX0_now : Cond := .code yX0_now cX0_now 1 (some .int)
def wsX0_now : List Cond := kX0_now :: gt
theorem kwX0_now : kX0_now ∈ gt := gt_mem (by decide +kernel) (by decide +kernel)
abbrev cL_window : ByteArray := method_3_code
def yL_window : MethodName := ⟨RL, "window", "(LWindowMeters;II[J)I"⟩
abbrev kL_window : Cond := .codeWith yL_window cL_window 5 (some .int) [(0, 10, 13, 13), (0, 10, 17, 15)]
def wsL_window : List Cond := kL_window :: gt
theorem kwL_window : kL_window ∈ gt := gt_mem (by decide +kernel) (by decide +kernel)
abbrev cX0_window : ByteArray := prog_1_method_3_code
def yX0_window : MethodName := ⟨RX0, "window", "(II)I"⟩
abbrev kX0_window : Cond := .code yX0_window cX0_window 4 (some .int)
def wsX0_window : List Cond := kX0_window :: gt
theorem kwX0_window : kX0_window ∈ gt := gt_mem (by decide +kernel) (by decide +kernel)
abbrev cL_tuple : ByteArray := method_4_code
def yL_tuple : MethodName := ⟨RL, "tuple", "(LWindowMeters;III[J)I"⟩
abbrev kL_tuple : Cond := .codeWith yL_tuple cL_tuple 6 (some .int) [(0, 12, 15, 13), (0, 12, 19, 15)]
def wsL_tuple : List Cond := kL_tuple :: gt
theorem kwL_tuple : kL_tuple ∈ gt := gt_mem (by decide +kernel) (by decide +kernel)
abbrev cX0_tuple : ByteArray := prog_1_method_4_code
def yX0_tuple : MethodName := ⟨RX0, "tuple", "(III)I"⟩
abbrev kX0_tuple : Cond := .code yX0_tuple cX0_tuple 5 (some .int)
def wsX0_tuple : List Cond := kX0_tuple :: gt
theorem kwX0_tuple : kX0_tuple ∈ gt := gt_mem (by decide +kernel) (by decide +kernel)
abbrev cX0_placeBySize : ByteArray := prog_1_method_13_code
def yX0_placeBySize : MethodName := ⟨RX0, "placeBySize", "(I)V"⟩
abbrev kX0_placeBySize : Cond := .code yX0_placeBySize cX0_placeBySize 3 none
def wsX0_placeBySize : List Cond := kX0_placeBySize :: gt
theorem kwX0_placeBySize : kX0_placeBySize ∈ gt := gt_mem (by decide +kernel) (by decide +kernel)
abbrev cL_tick : ByteArray := method_5_code
def yL_tick : MethodName := ⟨RL, "tick", "(LWindowMeters;I)I"⟩
abbrev kL_tick : Cond := .codeWith yL_tick cL_tick 3 (some .int) [(0, 5, 8, 13)]
def wsL_tick : List Cond := kL_tick :: gt
theorem kwL_tick : kL_tick ∈ gt := gt_mem (by decide +kernel) (by decide +kernel)
abbrev cX0_tick : ByteArray := prog_1_method_5_code
def yX0_tick : MethodName := ⟨RX0, "tick", "(I)V"⟩
abbrev kX0_tick : Cond := .code yX0_tick cX0_tick 2 none
def wsX0_tick : List Cond := kX0_tick :: gt
theorem kwX0_tick : kX0_tick ∈ gt := gt_mem (by decide +kernel) (by decide +kernel)
abbrev cL_meter : ByteArray := method_6_code
def yL_meter : MethodName := ⟨RL, "meter", "(LWindowMeters;II[J)I"⟩
abbrev kL_meter : Cond := .codeWith yL_meter cL_meter 5 (some .int) [(0, 10, 13, 28), (0, 10, 17, 13)]
def wsL_meter : List Cond := kL_meter :: gt
theorem kwL_meter : kL_meter ∈ gt := gt_mem (by decide +kernel) (by decide +kernel)
abbrev cX0_meter : ByteArray := prog_1_method_6_code
def yX0_meter : MethodName := ⟨RX0, "meter", "(II)I"⟩
abbrev kX0_meter : Cond := .code yX0_meter cX0_meter 3 (some .int)
def wsX0_meter : List Cond := kX0_meter :: gt
theorem kwX0_meter : kX0_meter ∈ gt := gt_mem (by decide +kernel) (by decide +kernel)
abbrev cX0_checkWindow : ByteArray := prog_1_method_12_code
def yX0_checkWindow : MethodName := ⟨RX0, "checkWindow", "(I)V"⟩
abbrev kX0_checkWindow : Cond := .code yX0_checkWindow cX0_checkWindow 2 none
def wsX0_checkWindow : List Cond := kX0_checkWindow :: gt
theorem kwX0_checkWindow : kX0_checkWindow ∈ gt := gt_mem (by decide +kernel) (by decide +kernel)
abbrev cX0_markInside : ByteArray := prog_1_method_14_code
def yX0_markInside : MethodName := ⟨RX0, "markInside", "(I)V"⟩
abbrev kX0_markInside : Cond := .code yX0_markInside cX0_markInside 3 none
def wsX0_markInside : List Cond := kX0_markInside :: gt
theorem kwX0_markInside : kX0_markInside ∈ gt := gt_mem (by decide +kernel) (by decide +kernel)
abbrev cX0_markRange : ByteArray := prog_1_method_15_code
def yX0_markRange : MethodName := ⟨RX0, "markRange", "(I)V"⟩
abbrev kX0_markRange : Cond := .code yX0_markRange cX0_markRange 3 none
def wsX0_markRange : List Cond := kX0_markRange :: gt
theorem kwX0_markRange : kX0_markRange ∈ gt := gt_mem (by decide +kernel) (by decide +kernel)
abbrev cX0_markRows : ByteArray := prog_1_method_16_code
def yX0_markRows : MethodName := ⟨RX0, "markRows", "(I)V"⟩
abbrev kX0_markRows : Cond := .code yX0_markRows cX0_markRows 3 none
def wsX0_markRows : List Cond := kX0_markRows :: gt
theorem kwX0_markRows : kX0_markRows ∈ gt := gt_mem (by decide +kernel) (by decide +kernel)
abbrev cX0_markKeys : ByteArray := prog_1_method_17_code
def yX0_markKeys : MethodName := ⟨RX0, "markKeys", "(I)V"⟩
abbrev kX0_markKeys : Cond := .code yX0_markKeys cX0_markKeys 4 none
def wsX0_markKeys : List Cond := kX0_markKeys :: gt
theorem kwX0_markKeys : kX0_markKeys ∈ gt := gt_mem (by decide +kernel) (by decide +kernel)
abbrev cJ_fill : ByteArray := prog_11_method_103_code
def yJ_fill : MethodName := ⟨"java/util/Arrays", "fill", "([II)V"⟩
abbrev kJ_fill : Cond := .code yJ_fill cJ_fill 4 none
def wsJ_fill : List Cond := kJ_fill :: gt
theorem kwJ_fill : kJ_fill ∈ gt := gt_mem (by decide +kernel) (by decide +kernel)
abbrev cX0_markBlock : ByteArray := prog_1_method_18_code
def yX0_markBlock : MethodName := ⟨RX0, "markBlock", "(I)V"⟩
abbrev kX0_markBlock : Cond := .code yX0_markBlock cX0_markBlock 5 none
def wsX0_markBlock : List Cond := kX0_markBlock :: gt
theorem kwX0_markBlock : kX0_markBlock ∈ gt := gt_mem (by decide +kernel) (by decide +kernel)
abbrev cX0_markRun : ByteArray := prog_1_method_19_code
def yX0_markRun : MethodName := ⟨RX0, "markRun", "(I)V"⟩
abbrev kX0_markRun : Cond := .code yX0_markRun cX0_markRun 5 none
def wsX0_markRun : List Cond := kX0_markRun :: gt
theorem kwX0_markRun : kX0_markRun ∈ gt := gt_mem (by decide +kernel) (by decide +kernel)
abbrev cX0_markOutside : ByteArray := prog_1_method_20_code
def yX0_markOutside : MethodName := ⟨RX0, "markOutside", "(I)V"⟩
abbrev kX0_markOutside : Cond := .code yX0_markOutside cX0_markOutside 3 none
def wsX0_markOutside : List Cond := kX0_markOutside :: gt
theorem kwX0_markOutside : kX0_markOutside ∈ gt := gt_mem (by decide +kernel) (by decide +kernel)
abbrev cX0_countInside : ByteArray := prog_1_method_21_code
def yX0_countInside : MethodName := ⟨RX0, "countInside", "()I"⟩
abbrev kX0_countInside : Cond := .code yX0_countInside cX0_countInside 3 (some .int)
def wsX0_countInside : List Cond := kX0_countInside :: gt
theorem kwX0_countInside : kX0_countInside ∈ gt := gt_mem (by decide +kernel) (by decide +kernel)
abbrev cX0_sumInside : ByteArray := prog_1_method_22_code
def yX0_sumInside : MethodName := ⟨RX0, "sumInside", "()I"⟩
abbrev kX0_sumInside : Cond := .code yX0_sumInside cX0_sumInside 3 (some .int)
def wsX0_sumInside : List Cond := kX0_sumInside :: gt
theorem kwX0_sumInside : kX0_sumInside ∈ gt := gt_mem (by decide +kernel) (by decide +kernel)
abbrev cX0_countUnlike : ByteArray := prog_1_method_23_code
def yX0_countUnlike : MethodName := ⟨RX0, "countUnlike", "()I"⟩
abbrev kX0_countUnlike : Cond := .code yX0_countUnlike cX0_countUnlike 5 (some .int)
def wsX0_countUnlike : List Cond := kX0_countUnlike :: gt
theorem kwX0_countUnlike : kX0_countUnlike ∈ gt := gt_mem (by decide +kernel) (by decide +kernel)
abbrev cX0_countMostFrequent : ByteArray := prog_1_method_24_code
def yX0_countMostFrequent : MethodName := ⟨RX0, "countMostFrequent", "()I"⟩
abbrev kX0_countMostFrequent : Cond := .code yX0_countMostFrequent cX0_countMostFrequent 4 (some .int)
def wsX0_countMostFrequent : List Cond := kX0_countMostFrequent :: gt
theorem kwX0_countMostFrequent : kX0_countMostFrequent ∈ gt := gt_mem (by decide +kernel) (by decide +kernel)
abbrev cX0_findMostFrequent : ByteArray := prog_1_method_25_code
def yX0_findMostFrequent : MethodName := ⟨RX0, "findMostFrequent", "()I"⟩
abbrev kX0_findMostFrequent : Cond := .code yX0_findMostFrequent cX0_findMostFrequent 7 (some .int)
def wsX0_findMostFrequent : List Cond := kX0_findMostFrequent :: gt
theorem kwX0_findMostFrequent : kX0_findMostFrequent ∈ gt := gt_mem (by decide +kernel) (by decide +kernel)
abbrev cL_kth : ByteArray := method_7_code
def yL_kth : MethodName := ⟨RL, "kth", "(LWindowMeters;II[J)I"⟩
abbrev kL_kth : Cond := .codeWith yL_kth cL_kth 5 (some .int) [(0, 10, 13, 28), (0, 10, 17, 33)]
def wsL_kth : List Cond := kL_kth :: gt
theorem kwL_kth : kL_kth ∈ gt := gt_mem (by decide +kernel) (by decide +kernel)
abbrev cX0_kth : ByteArray := prog_1_method_7_code
def yX0_kth : MethodName := ⟨RX0, "kth", "(II)I"⟩
abbrev kX0_kth : Cond := .code yX0_kth cX0_kth 4 (some .int)
def wsX0_kth : List Cond := kX0_kth :: gt
theorem kwX0_kth : kX0_kth ∈ gt := gt_mem (by decide +kernel) (by decide +kernel)
abbrev cX0_findKth : ByteArray := prog_1_method_26_code
def yX0_findKth : MethodName := ⟨RX0, "findKth", "(I)I"⟩
abbrev kX0_findKth : Cond := .code yX0_findKth cX0_findKth 5 (some .int)
def wsX0_findKth : List Cond := kX0_findKth :: gt
theorem kwX0_findKth : kX0_findKth ∈ gt := gt_mem (by decide +kernel) (by decide +kernel)
abbrev cL_frequent : ByteArray := method_8_code
def yL_frequent : MethodName := ⟨RL, "frequent", "(LWindowMeters;I[J)I"⟩
abbrev kL_frequent : Cond := .codeWith yL_frequent cL_frequent 4 (some .int) [(0, 9, 12, 28), (0, 9, 15, 33)]
def wsL_frequent : List Cond := kL_frequent :: gt
theorem kwL_frequent : kL_frequent ∈ gt := gt_mem (by decide +kernel) (by decide +kernel)
abbrev cX0_frequent : ByteArray := prog_1_method_8_code
def yX0_frequent : MethodName := ⟨RX0, "frequent", "(I)I"⟩
abbrev kX0_frequent : Cond := .code yX0_frequent cX0_frequent 3 (some .int)
def wsX0_frequent : List Cond := kX0_frequent :: gt
theorem kwX0_frequent : kX0_frequent ∈ gt := gt_mem (by decide +kernel) (by decide +kernel)
abbrev cL_below : ByteArray := method_9_code
def yL_below : MethodName := ⟨RL, "below", "(LWindowMeters;II[J)I"⟩
abbrev kL_below : Cond := .codeWith yL_below cL_below 5 (some .int) [(0, 10, 13, 28)]
def wsL_below : List Cond := kL_below :: gt
theorem kwL_below : kL_below ∈ gt := gt_mem (by decide +kernel) (by decide +kernel)
abbrev cX0_below : ByteArray := prog_1_method_9_code
def yX0_below : MethodName := ⟨RX0, "below", "(II)I"⟩
abbrev kX0_below : Cond := .code yX0_below cX0_below 5 (some .int)
def wsX0_below : List Cond := kX0_below :: gt
theorem kwX0_below : kX0_below ∈ gt := gt_mem (by decide +kernel) (by decide +kernel)
abbrev cL_has : ByteArray := method_10_code
def yL_has : MethodName := ⟨RL, "has", "(LWindowMeters;II[J)I"⟩
abbrev kL_has : Cond := .codeWith yL_has cL_has 5 (some .int) [(0, 17, 20, 28)]
def wsL_has : List Cond := kL_has :: gt
theorem kwL_has : kL_has ∈ gt := gt_mem (by decide +kernel) (by decide +kernel)
abbrev cX0_has : ByteArray := prog_1_method_10_code
def yX0_has : MethodName := ⟨RX0, "has", "(II)Z"⟩
abbrev kX0_has : Cond := .code yX0_has cX0_has 3 (some .boolean)
def wsX0_has : List Cond := kX0_has :: gt
theorem kwX0_has : kX0_has ∈ gt := gt_mem (by decide +kernel) (by decide +kernel)
abbrev cX1_init : ByteArray := prog_3_method_1_code
def yX1_init : MethodName := ⟨RX1, "<init>", "()V"⟩
abbrev kX1_init : Cond := .code yX1_init cX1_init 1 none
def wsX1_init : List Cond := kX1_init :: gt
theorem kwX1_init : kX1_init ∈ gt := gt_mem (by decide +kernel) (by decide +kernel)
abbrev cX1_thrown : ByteArray := prog_3_method_2_code
def yX1_thrown : MethodName := ⟨RX1, "thrown", "()I"⟩
abbrev kX1_thrown : Cond := .code yX1_thrown cX1_thrown 1 (some .int)
def wsX1_thrown : List Cond := kX1_thrown :: gt
theorem kwX1_thrown : kX1_thrown ∈ gt := gt_mem (by decide +kernel) (by decide +kernel)
abbrev cX1_clear : ByteArray := prog_3_method_5_code
def yX1_clear : MethodName := ⟨RX1, "clear", "()V"⟩
abbrev kX1_clear : Cond := .code yX1_clear cX1_clear 1 none
def wsX1_clear : List Cond := kX1_clear :: gt
theorem kwX1_clear : kX1_clear ∈ gt := gt_mem (by decide +kernel) (by decide +kernel)
abbrev cX1_window : ByteArray := prog_3_method_6_code
def yX1_window : MethodName := ⟨RX1, "window", "(II)I"⟩
abbrev kX1_window : Cond := .code yX1_window cX1_window 3 (some .int)
def wsX1_window : List Cond := kX1_window :: gt
theorem kwX1_window : kX1_window ∈ gt := gt_mem (by decide +kernel) (by decide +kernel)
abbrev cX1_in : ByteArray := prog_3_method_4_code
def yX1_in : MethodName := ⟨RX1, "in", "(III)Z"⟩
abbrev kX1_in : Cond := .code yX1_in cX1_in 3 (some .boolean)
def wsX1_in : List Cond := kX1_in :: gt
theorem kwX1_in : kX1_in ∈ gt := gt_mem (by decide +kernel) (by decide +kernel)
abbrev cX1_refuse : ByteArray := prog_3_method_3_code
def yX1_refuse : MethodName := ⟨RX1, "refuse", "(ZZ)Z"⟩
abbrev kX1_refuse : Cond := .code yX1_refuse cX1_refuse 3 (some .boolean)
def wsX1_refuse : List Cond := kX1_refuse :: gt
theorem kwX1_refuse : kX1_refuse ∈ gt := gt_mem (by decide +kernel) (by decide +kernel)
abbrev cX1_tuple : ByteArray := prog_3_method_7_code
def yX1_tuple : MethodName := ⟨RX1, "tuple", "(III)I"⟩
abbrev kX1_tuple : Cond := .code yX1_tuple cX1_tuple 4 (some .int)
def wsX1_tuple : List Cond := kX1_tuple :: gt
theorem kwX1_tuple : kX1_tuple ∈ gt := gt_mem (by decide +kernel) (by decide +kernel)
abbrev cX1_tick : ByteArray := prog_3_method_8_code
def yX1_tick : MethodName := ⟨RX1, "tick", "(I)V"⟩
abbrev kX1_tick : Cond := .code yX1_tick cX1_tick 2 none
def wsX1_tick : List Cond := kX1_tick :: gt
theorem kwX1_tick : kX1_tick ∈ gt := gt_mem (by decide +kernel) (by decide +kernel)
abbrev cX1_now : ByteArray := prog_3_method_9_code
def yX1_now : MethodName := ⟨RX1, "now", "()I"⟩
abbrev kX1_now : Cond := .code yX1_now cX1_now 1 (some .int)
def wsX1_now : List Cond := kX1_now :: gt
theorem kwX1_now : kX1_now ∈ gt := gt_mem (by decide +kernel) (by decide +kernel)
abbrev cX1_meter : ByteArray := prog_3_method_16_code
def yX1_meter : MethodName := ⟨RX1, "meter", "(II)I"⟩
abbrev kX1_meter : Cond := .code yX1_meter cX1_meter 6 (some .int)
def wsX1_meter : List Cond := kX1_meter :: gt
theorem kwX1_meter : kX1_meter ∈ gt := gt_mem (by decide +kernel) (by decide +kernel)
abbrev cX1_isWindow : ByteArray := prog_3_method_15_code
def yX1_isWindow : MethodName := ⟨RX1, "isWindow", "(I)Z"⟩
abbrev kX1_isWindow : Cond := .code yX1_isWindow cX1_isWindow 2 (some .boolean)
def wsX1_isWindow : List Cond := kX1_isWindow :: gt
theorem kwX1_isWindow : kX1_isWindow ∈ gt := gt_mem (by decide +kernel) (by decide +kernel)
abbrev cX1_hold : ByteArray := prog_3_method_13_code
def yX1_hold : MethodName := ⟨RX1, "hold", "(I)V"⟩
abbrev kX1_hold : Cond := .code yX1_hold cX1_hold 4 none
def wsX1_hold : List Cond := kX1_hold :: gt
theorem kwX1_hold : kX1_hold ∈ gt := gt_mem (by decide +kernel) (by decide +kernel)
abbrev cX1_isIn : ByteArray := prog_3_method_12_code
def yX1_isIn : MethodName := ⟨RX1, "isIn", "(II)Z"⟩
abbrev kX1_isIn : Cond := .code yX1_isIn cX1_isIn 5 (some .boolean)
def wsX1_isIn : List Cond := kX1_isIn :: gt
theorem kwX1_isIn : kX1_isIn ∈ gt := gt_mem (by decide +kernel) (by decide +kernel)
abbrev cX1_behindOfKey : ByteArray := prog_3_method_11_code
def yX1_behindOfKey : MethodName := ⟨RX1, "behindOfKey", "(I)I"⟩
abbrev kX1_behindOfKey : Cond := .code yX1_behindOfKey cX1_behindOfKey 4 (some .int)
def wsX1_behindOfKey : List Cond := kX1_behindOfKey :: gt
theorem kwX1_behindOfKey : kX1_behindOfKey ∈ gt := gt_mem (by decide +kernel) (by decide +kernel)
abbrev cX1_runs : ByteArray := prog_3_method_10_code
def yX1_runs : MethodName := ⟨RX1, "runs", "(II)Z"⟩
abbrev kX1_runs : Cond := .code yX1_runs cX1_runs 5 (some .boolean)
def wsX1_runs : List Cond := kX1_runs :: gt
theorem kwX1_runs : kX1_runs ∈ gt := gt_mem (by decide +kernel) (by decide +kernel)
abbrev cX1_most : ByteArray := prog_3_method_14_code
def yX1_most : MethodName := ⟨RX1, "most", "()I"⟩
abbrev kX1_most : Cond := .code yX1_most cX1_most 5 (some .int)
def wsX1_most : List Cond := kX1_most :: gt
theorem kwX1_most : kX1_most ∈ gt := gt_mem (by decide +kernel) (by decide +kernel)
abbrev cX1_kth : ByteArray := prog_3_method_17_code
def yX1_kth : MethodName := ⟨RX1, "kth", "(II)I"⟩
abbrev kX1_kth : Cond := .code yX1_kth cX1_kth 3 (some .int)
def wsX1_kth : List Cond := kX1_kth :: gt
theorem kwX1_kth : kX1_kth ∈ gt := gt_mem (by decide +kernel) (by decide +kernel)
abbrev cX1_frequent : ByteArray := prog_3_method_18_code
def yX1_frequent : MethodName := ⟨RX1, "frequent", "(I)I"⟩
abbrev kX1_frequent : Cond := .code yX1_frequent cX1_frequent 2 (some .int)
def wsX1_frequent : List Cond := kX1_frequent :: gt
theorem kwX1_frequent : kX1_frequent ∈ gt := gt_mem (by decide +kernel) (by decide +kernel)
abbrev cX1_below : ByteArray := prog_3_method_19_code
def yX1_below : MethodName := ⟨RX1, "below", "(II)I"⟩
abbrev kX1_below : Cond := .code yX1_below cX1_below 5 (some .int)
def wsX1_below : List Cond := kX1_below :: gt
theorem kwX1_below : kX1_below ∈ gt := gt_mem (by decide +kernel) (by decide +kernel)
abbrev cX1_has : ByteArray := prog_3_method_20_code
def yX1_has : MethodName := ⟨RX1, "has", "(II)Z"⟩
abbrev kX1_has : Cond := .code yX1_has cX1_has 3 (some .boolean)
def wsX1_has : List Cond := kX1_has :: gt
theorem kwX1_has : kX1_has ∈ gt := gt_mem (by decide +kernel) (by decide +kernel)
theorem in_WindowMetersLaw : Cond.initialized RL ∈ gt := gt_mem (by decide +kernel) (by decide +kernel)
theorem in_WindowMeters : Cond.initialized RX0 ∈ gt := gt_mem (by decide +kernel) (by decide +kernel)
theorem in_WindowMetersModel : Cond.initialized RX1 ∈ gt := gt_mem (by decide +kernel) (by decide +kernel)
theorem in_java_lang_Throwable : Cond.initialized "java/lang/Throwable" ∈ gt := gt_mem (by decide +kernel) (by decide +kernel)
theorem in_java_lang_Exception : Cond.initialized "java/lang/Exception" ∈ gt := gt_mem (by decide +kernel) (by decide +kernel)
theorem in_java_lang_RuntimeException : Cond.initialized "java/lang/RuntimeException" ∈ gt := gt_mem (by decide +kernel) (by decide +kernel)
theorem in_java_lang_IllegalArgumentException : Cond.initialized "java/lang/IllegalArgumentException" ∈ gt := gt_mem (by decide +kernel) (by decide +kernel)
theorem in_java_lang_UnsupportedOperationException : Cond.initialized "java/lang/UnsupportedOperationException" ∈ gt := gt_mem (by decide +kernel) (by decide +kernel)
theorem in_java_lang_IndexOutOfBoundsException : Cond.initialized "java/lang/IndexOutOfBoundsException" ∈ gt := gt_mem (by decide +kernel) (by decide +kernel)
theorem in_java_util_Arrays : Cond.initialized "java/util/Arrays" ∈ gt := gt_mem (by decide +kernel) (by decide +kernel)
theorem in_java_util_NoSuchElementException : Cond.initialized "java/util/NoSuchElementException" ∈ gt := gt_mem (by decide +kernel) (by decide +kernel)
theorem klL_8 : Cond.classLink RL 8 RX0 ∈ gt := gt_mem (by decide +kernel) (by decide +kernel)
theorem mlL_46 : Cond.methodLink RL 46 yX0_init ∈ gt := gt_mem (by decide +kernel) (by decide +kernel)
theorem mlX0_1 : Cond.methodLink RX0 1 objectInit ∈ gt := gt_mem (by decide +kernel) (by decide +kernel)
theorem flX0_9 : Cond.fieldLink RX0 9 "WindowMeters" "times" "[I" ∈ gt := gt_mem (by decide +kernel) (by decide +kernel)
theorem flX0_13 : Cond.fieldLink RX0 13 "WindowMeters" "keys" "[I" ∈ gt := gt_mem (by decide +kernel) (by decide +kernel)
theorem flX0_16 : Cond.fieldLink RX0 16 "WindowMeters" "values" "[I" ∈ gt := gt_mem (by decide +kernel) (by decide +kernel)
theorem flX0_19 : Cond.fieldLink RX0 19 "WindowMeters" "bySize" "[I" ∈ gt := gt_mem (by decide +kernel) (by decide +kernel)
theorem flX0_35 : Cond.fieldLink RX0 35 "WindowMeters" "tupleCount" "I" ∈ gt := gt_mem (by decide +kernel) (by decide +kernel)
theorem flX0_22 : Cond.fieldLink RX0 22 "WindowMeters" "kinds" "[I" ∈ gt := gt_mem (by decide +kernel) (by decide +kernel)
theorem flX0_25 : Cond.fieldLink RX0 25 "WindowMeters" "lengths" "[I" ∈ gt := gt_mem (by decide +kernel) (by decide +kernel)
theorem flX0_39 : Cond.fieldLink RX0 39 "WindowMeters" "windowCount" "I" ∈ gt := gt_mem (by decide +kernel) (by decide +kernel)
theorem flX0_42 : Cond.fieldLink RX0 42 "WindowMeters" "now" "I" ∈ gt := gt_mem (by decide +kernel) (by decide +kernel)
theorem flX0_28 : Cond.fieldLink RX0 28 "WindowMeters" "inside" "[Z" ∈ gt := gt_mem (by decide +kernel) (by decide +kernel)
theorem flX0_32 : Cond.fieldLink RX0 32 "WindowMeters" "seenOfKey" "[I" ∈ gt := gt_mem (by decide +kernel) (by decide +kernel)
theorem mlL_50 : Cond.methodLink RL 50 yX0_clear ∈ gt := gt_mem (by decide +kernel) (by decide +kernel)
theorem mlL_88 : Cond.methodLink RL 88 yX0_now ∈ gt := gt_mem (by decide +kernel) (by decide +kernel)
theorem mlL_54 : Cond.methodLink RL 54 yL_window ∈ gt := gt_mem (by decide +kernel) (by decide +kernel)
theorem klL_13 : Cond.classLink RL 13 "java/lang/IllegalArgumentException" ∈ gt := gt_mem (by decide +kernel) (by decide +kernel)
theorem klL_15 : Cond.classLink RL 15 "java/lang/UnsupportedOperationException" ∈ gt := gt_mem (by decide +kernel) (by decide +kernel)
theorem mlL_7 : Cond.methodLink RL 7 yX0_window ∈ gt := gt_mem (by decide +kernel) (by decide +kernel)
theorem klX0_45 : Cond.classLink RX0 45 "java/lang/IllegalArgumentException" ∈ gt := gt_mem (by decide +kernel) (by decide +kernel)
theorem cnX0_52 : Cond.constant RX0 52 1000000 ∈ gt := gt_mem (by decide +kernel) (by decide +kernel)
theorem klX0_55 : Cond.classLink RX0 55 "java/lang/UnsupportedOperationException" ∈ gt := gt_mem (by decide +kernel) (by decide +kernel)
theorem mlL_64 : Cond.methodLink RL 64 yL_tuple ∈ gt := gt_mem (by decide +kernel) (by decide +kernel)
theorem mlL_17 : Cond.methodLink RL 17 yX0_tuple ∈ gt := gt_mem (by decide +kernel) (by decide +kernel)
theorem mlX0_66 : Cond.methodLink RX0 66 yX0_placeBySize ∈ gt := gt_mem (by decide +kernel) (by decide +kernel)
theorem mlL_68 : Cond.methodLink RL 68 yL_tick ∈ gt := gt_mem (by decide +kernel) (by decide +kernel)
theorem mlL_21 : Cond.methodLink RL 21 yX0_tick ∈ gt := gt_mem (by decide +kernel) (by decide +kernel)
theorem mlL_72 : Cond.methodLink RL 72 yL_meter ∈ gt := gt_mem (by decide +kernel) (by decide +kernel)
theorem klL_28 : Cond.classLink RL 28 "java/lang/IndexOutOfBoundsException" ∈ gt := gt_mem (by decide +kernel) (by decide +kernel)
theorem mlL_25 : Cond.methodLink RL 25 yX0_meter ∈ gt := gt_mem (by decide +kernel) (by decide +kernel)
theorem mlX0_70 : Cond.methodLink RX0 70 yX0_checkWindow ∈ gt := gt_mem (by decide +kernel) (by decide +kernel)
theorem klX0_105 : Cond.classLink RX0 105 "java/lang/IndexOutOfBoundsException" ∈ gt := gt_mem (by decide +kernel) (by decide +kernel)
theorem mlX0_75 : Cond.methodLink RX0 75 yX0_markInside ∈ gt := gt_mem (by decide +kernel) (by decide +kernel)
theorem mlX0_112 : Cond.methodLink RX0 112 yX0_markRange ∈ gt := gt_mem (by decide +kernel) (by decide +kernel)
theorem mlX0_115 : Cond.methodLink RX0 115 yX0_markRows ∈ gt := gt_mem (by decide +kernel) (by decide +kernel)
theorem mlX0_118 : Cond.methodLink RX0 118 yX0_markKeys ∈ gt := gt_mem (by decide +kernel) (by decide +kernel)
theorem mlX0_130 : Cond.methodLink RX0 130 yJ_fill ∈ gt := gt_mem (by decide +kernel) (by decide +kernel)
theorem mlX0_121 : Cond.methodLink RX0 121 yX0_markBlock ∈ gt := gt_mem (by decide +kernel) (by decide +kernel)
theorem mlX0_124 : Cond.methodLink RX0 124 yX0_markRun ∈ gt := gt_mem (by decide +kernel) (by decide +kernel)
theorem mlX0_127 : Cond.methodLink RX0 127 yX0_markOutside ∈ gt := gt_mem (by decide +kernel) (by decide +kernel)
theorem mlX0_78 : Cond.methodLink RX0 78 yX0_countInside ∈ gt := gt_mem (by decide +kernel) (by decide +kernel)
theorem mlX0_82 : Cond.methodLink RX0 82 yX0_sumInside ∈ gt := gt_mem (by decide +kernel) (by decide +kernel)
theorem mlX0_85 : Cond.methodLink RX0 85 yX0_countUnlike ∈ gt := gt_mem (by decide +kernel) (by decide +kernel)
theorem mlX0_88 : Cond.methodLink RX0 88 yX0_countMostFrequent ∈ gt := gt_mem (by decide +kernel) (by decide +kernel)
theorem mlX0_100 : Cond.methodLink RX0 100 yX0_findMostFrequent ∈ gt := gt_mem (by decide +kernel) (by decide +kernel)
theorem mlL_75 : Cond.methodLink RL 75 yL_kth ∈ gt := gt_mem (by decide +kernel) (by decide +kernel)
theorem klL_33 : Cond.classLink RL 33 "java/util/NoSuchElementException" ∈ gt := gt_mem (by decide +kernel) (by decide +kernel)
theorem mlL_30 : Cond.methodLink RL 30 yX0_kth ∈ gt := gt_mem (by decide +kernel) (by decide +kernel)
theorem mlX0_91 : Cond.methodLink RX0 91 yX0_findKth ∈ gt := gt_mem (by decide +kernel) (by decide +kernel)
theorem klX0_95 : Cond.classLink RX0 95 "java/util/NoSuchElementException" ∈ gt := gt_mem (by decide +kernel) (by decide +kernel)
theorem mlL_78 : Cond.methodLink RL 78 yL_frequent ∈ gt := gt_mem (by decide +kernel) (by decide +kernel)
theorem mlL_35 : Cond.methodLink RL 35 yX0_frequent ∈ gt := gt_mem (by decide +kernel) (by decide +kernel)
theorem mlL_82 : Cond.methodLink RL 82 yL_below ∈ gt := gt_mem (by decide +kernel) (by decide +kernel)
theorem mlL_39 : Cond.methodLink RL 39 yX0_below ∈ gt := gt_mem (by decide +kernel) (by decide +kernel)
theorem mlL_85 : Cond.methodLink RL 85 yL_has ∈ gt := gt_mem (by decide +kernel) (by decide +kernel)
theorem mlL_42 : Cond.methodLink RL 42 yX0_has ∈ gt := gt_mem (by decide +kernel) (by decide +kernel)
theorem klL_47 : Cond.classLink RL 47 RX1 ∈ gt := gt_mem (by decide +kernel) (by decide +kernel)
theorem mlL_49 : Cond.methodLink RL 49 yX1_init ∈ gt := gt_mem (by decide +kernel) (by decide +kernel)
theorem mlX1_1 : Cond.methodLink RX1 1 objectInit ∈ gt := gt_mem (by decide +kernel) (by decide +kernel)
theorem flX1_28 : Cond.fieldLink RX1 28 "WindowMetersModel" "thrown" "I" ∈ gt := gt_mem (by decide +kernel) (by decide +kernel)
theorem flX1_32 : Cond.fieldLink RX1 32 "WindowMetersModel" "many" "I" ∈ gt := gt_mem (by decide +kernel) (by decide +kernel)
theorem flX1_7 : Cond.fieldLink RX1 7 "WindowMetersModel" "times" "[I" ∈ gt := gt_mem (by decide +kernel) (by decide +kernel)
theorem flX1_13 : Cond.fieldLink RX1 13 "WindowMetersModel" "keys" "[I" ∈ gt := gt_mem (by decide +kernel) (by decide +kernel)
theorem flX1_16 : Cond.fieldLink RX1 16 "WindowMetersModel" "values" "[I" ∈ gt := gt_mem (by decide +kernel) (by decide +kernel)
theorem flX1_35 : Cond.fieldLink RX1 35 "WindowMetersModel" "now" "I" ∈ gt := gt_mem (by decide +kernel) (by decide +kernel)
theorem flX1_38 : Cond.fieldLink RX1 38 "WindowMetersModel" "windows" "I" ∈ gt := gt_mem (by decide +kernel) (by decide +kernel)
theorem flX1_19 : Cond.fieldLink RX1 19 "WindowMetersModel" "kinds" "[I" ∈ gt := gt_mem (by decide +kernel) (by decide +kernel)
theorem flX1_22 : Cond.fieldLink RX1 22 "WindowMetersModel" "spans" "[I" ∈ gt := gt_mem (by decide +kernel) (by decide +kernel)
theorem flX1_58 : Cond.fieldLink RX1 58 "WindowMetersModel" "held" "I" ∈ gt := gt_mem (by decide +kernel) (by decide +kernel)
theorem flX1_25 : Cond.fieldLink RX1 25 "WindowMetersModel" "sorted" "[I" ∈ gt := gt_mem (by decide +kernel) (by decide +kernel)
theorem flX1_64 : Cond.fieldLink RX1 64 "WindowMetersModel" "often" "I" ∈ gt := gt_mem (by decide +kernel) (by decide +kernel)
theorem mlL_60 : Cond.methodLink RL 60 yX1_thrown ∈ gt := gt_mem (by decide +kernel) (by decide +kernel)
theorem mlL_53 : Cond.methodLink RL 53 yX1_clear ∈ gt := gt_mem (by decide +kernel) (by decide +kernel)
theorem mlL_59 : Cond.methodLink RL 59 yX1_window ∈ gt := gt_mem (by decide +kernel) (by decide +kernel)
theorem mlX1_41 : Cond.methodLink RX1 41 yX1_in ∈ gt := gt_mem (by decide +kernel) (by decide +kernel)
theorem cnX1_45 : Cond.constant RX1 45 1000000 ∈ gt := gt_mem (by decide +kernel) (by decide +kernel)
theorem mlX1_46 : Cond.methodLink RX1 46 yX1_refuse ∈ gt := gt_mem (by decide +kernel) (by decide +kernel)
theorem mlL_67 : Cond.methodLink RL 67 yX1_tuple ∈ gt := gt_mem (by decide +kernel) (by decide +kernel)
theorem mlL_71 : Cond.methodLink RL 71 yX1_tick ∈ gt := gt_mem (by decide +kernel) (by decide +kernel)
theorem mlL_91 : Cond.methodLink RL 91 yX1_now ∈ gt := gt_mem (by decide +kernel) (by decide +kernel)
theorem mlL_74 : Cond.methodLink RL 74 yX1_meter ∈ gt := gt_mem (by decide +kernel) (by decide +kernel)
theorem mlX1_67 : Cond.methodLink RX1 67 yX1_isWindow ∈ gt := gt_mem (by decide +kernel) (by decide +kernel)
theorem mlX1_71 : Cond.methodLink RX1 71 yX1_hold ∈ gt := gt_mem (by decide +kernel) (by decide +kernel)
theorem mlX1_61 : Cond.methodLink RX1 61 yX1_isIn ∈ gt := gt_mem (by decide +kernel) (by decide +kernel)
theorem mlX1_50 : Cond.methodLink RX1 50 yX1_behindOfKey ∈ gt := gt_mem (by decide +kernel) (by decide +kernel)
theorem mlX1_54 : Cond.methodLink RX1 54 yX1_runs ∈ gt := gt_mem (by decide +kernel) (by decide +kernel)
theorem mlX1_75 : Cond.methodLink RX1 75 yX1_most ∈ gt := gt_mem (by decide +kernel) (by decide +kernel)
theorem mlL_77 : Cond.methodLink RL 77 yX1_kth ∈ gt := gt_mem (by decide +kernel) (by decide +kernel)
theorem mlL_81 : Cond.methodLink RL 81 yX1_frequent ∈ gt := gt_mem (by decide +kernel) (by decide +kernel)
theorem mlL_84 : Cond.methodLink RL 84 yX1_below ∈ gt := gt_mem (by decide +kernel) (by decide +kernel)
theorem mlL_87 : Cond.methodLink RL 87 yX1_has ∈ gt := gt_mem (by decide +kernel) (by decide +kernel)
theorem imX0_init : Cond.instanceMethod yX0_init ∈ gt := gt_mem (by decide +kernel) (by decide +kernel)
theorem imX0_clear : Cond.instanceMethod yX0_clear ∈ gt := gt_mem (by decide +kernel) (by decide +kernel)
theorem seX0_clear : Cond.selects RX0 yX0_clear yX0_clear ∈ gt := gt_mem (by decide +kernel) (by decide +kernel)
theorem imX0_now : Cond.instanceMethod yX0_now ∈ gt := gt_mem (by decide +kernel) (by decide +kernel)
theorem seX0_now : Cond.selects RX0 yX0_now yX0_now ∈ gt := gt_mem (by decide +kernel) (by decide +kernel)
theorem stL_window : Cond.static yL_window ∈ gt := gt_mem (by decide +kernel) (by decide +kernel)
theorem imX0_window : Cond.instanceMethod yX0_window ∈ gt := gt_mem (by decide +kernel) (by decide +kernel)
theorem seX0_window : Cond.selects RX0 yX0_window yX0_window ∈ gt := gt_mem (by decide +kernel) (by decide +kernel)
theorem stL_tuple : Cond.static yL_tuple ∈ gt := gt_mem (by decide +kernel) (by decide +kernel)
theorem imX0_tuple : Cond.instanceMethod yX0_tuple ∈ gt := gt_mem (by decide +kernel) (by decide +kernel)
theorem seX0_tuple : Cond.selects RX0 yX0_tuple yX0_tuple ∈ gt := gt_mem (by decide +kernel) (by decide +kernel)
theorem imX0_placeBySize : Cond.instanceMethod yX0_placeBySize ∈ gt := gt_mem (by decide +kernel) (by decide +kernel)
theorem seX0_placeBySize : Cond.selects RX0 yX0_placeBySize yX0_placeBySize ∈ gt := gt_mem (by decide +kernel) (by decide +kernel)
theorem stL_tick : Cond.static yL_tick ∈ gt := gt_mem (by decide +kernel) (by decide +kernel)
theorem imX0_tick : Cond.instanceMethod yX0_tick ∈ gt := gt_mem (by decide +kernel) (by decide +kernel)
theorem seX0_tick : Cond.selects RX0 yX0_tick yX0_tick ∈ gt := gt_mem (by decide +kernel) (by decide +kernel)
theorem stL_meter : Cond.static yL_meter ∈ gt := gt_mem (by decide +kernel) (by decide +kernel)
theorem imX0_meter : Cond.instanceMethod yX0_meter ∈ gt := gt_mem (by decide +kernel) (by decide +kernel)
theorem seX0_meter : Cond.selects RX0 yX0_meter yX0_meter ∈ gt := gt_mem (by decide +kernel) (by decide +kernel)
theorem imX0_checkWindow : Cond.instanceMethod yX0_checkWindow ∈ gt := gt_mem (by decide +kernel) (by decide +kernel)
theorem seX0_checkWindow : Cond.selects RX0 yX0_checkWindow yX0_checkWindow ∈ gt := gt_mem (by decide +kernel) (by decide +kernel)
theorem imX0_markInside : Cond.instanceMethod yX0_markInside ∈ gt := gt_mem (by decide +kernel) (by decide +kernel)
theorem seX0_markInside : Cond.selects RX0 yX0_markInside yX0_markInside ∈ gt := gt_mem (by decide +kernel) (by decide +kernel)
theorem imX0_markRange : Cond.instanceMethod yX0_markRange ∈ gt := gt_mem (by decide +kernel) (by decide +kernel)
theorem seX0_markRange : Cond.selects RX0 yX0_markRange yX0_markRange ∈ gt := gt_mem (by decide +kernel) (by decide +kernel)
theorem imX0_markRows : Cond.instanceMethod yX0_markRows ∈ gt := gt_mem (by decide +kernel) (by decide +kernel)
theorem seX0_markRows : Cond.selects RX0 yX0_markRows yX0_markRows ∈ gt := gt_mem (by decide +kernel) (by decide +kernel)
theorem imX0_markKeys : Cond.instanceMethod yX0_markKeys ∈ gt := gt_mem (by decide +kernel) (by decide +kernel)
theorem seX0_markKeys : Cond.selects RX0 yX0_markKeys yX0_markKeys ∈ gt := gt_mem (by decide +kernel) (by decide +kernel)
theorem stJ_fill : Cond.static yJ_fill ∈ gt := gt_mem (by decide +kernel) (by decide +kernel)
theorem imX0_markBlock : Cond.instanceMethod yX0_markBlock ∈ gt := gt_mem (by decide +kernel) (by decide +kernel)
theorem seX0_markBlock : Cond.selects RX0 yX0_markBlock yX0_markBlock ∈ gt := gt_mem (by decide +kernel) (by decide +kernel)
theorem imX0_markRun : Cond.instanceMethod yX0_markRun ∈ gt := gt_mem (by decide +kernel) (by decide +kernel)
theorem seX0_markRun : Cond.selects RX0 yX0_markRun yX0_markRun ∈ gt := gt_mem (by decide +kernel) (by decide +kernel)
theorem imX0_markOutside : Cond.instanceMethod yX0_markOutside ∈ gt := gt_mem (by decide +kernel) (by decide +kernel)
theorem seX0_markOutside : Cond.selects RX0 yX0_markOutside yX0_markOutside ∈ gt := gt_mem (by decide +kernel) (by decide +kernel)
theorem imX0_countInside : Cond.instanceMethod yX0_countInside ∈ gt := gt_mem (by decide +kernel) (by decide +kernel)
theorem seX0_countInside : Cond.selects RX0 yX0_countInside yX0_countInside ∈ gt := gt_mem (by decide +kernel) (by decide +kernel)
theorem imX0_sumInside : Cond.instanceMethod yX0_sumInside ∈ gt := gt_mem (by decide +kernel) (by decide +kernel)
theorem seX0_sumInside : Cond.selects RX0 yX0_sumInside yX0_sumInside ∈ gt := gt_mem (by decide +kernel) (by decide +kernel)
theorem imX0_countUnlike : Cond.instanceMethod yX0_countUnlike ∈ gt := gt_mem (by decide +kernel) (by decide +kernel)
theorem seX0_countUnlike : Cond.selects RX0 yX0_countUnlike yX0_countUnlike ∈ gt := gt_mem (by decide +kernel) (by decide +kernel)
theorem imX0_countMostFrequent : Cond.instanceMethod yX0_countMostFrequent ∈ gt := gt_mem (by decide +kernel) (by decide +kernel)
theorem seX0_countMostFrequent : Cond.selects RX0 yX0_countMostFrequent yX0_countMostFrequent ∈ gt := gt_mem (by decide +kernel) (by decide +kernel)
theorem imX0_findMostFrequent : Cond.instanceMethod yX0_findMostFrequent ∈ gt := gt_mem (by decide +kernel) (by decide +kernel)
theorem seX0_findMostFrequent : Cond.selects RX0 yX0_findMostFrequent yX0_findMostFrequent ∈ gt := gt_mem (by decide +kernel) (by decide +kernel)
theorem stL_kth : Cond.static yL_kth ∈ gt := gt_mem (by decide +kernel) (by decide +kernel)
theorem imX0_kth : Cond.instanceMethod yX0_kth ∈ gt := gt_mem (by decide +kernel) (by decide +kernel)
theorem seX0_kth : Cond.selects RX0 yX0_kth yX0_kth ∈ gt := gt_mem (by decide +kernel) (by decide +kernel)
theorem imX0_findKth : Cond.instanceMethod yX0_findKth ∈ gt := gt_mem (by decide +kernel) (by decide +kernel)
theorem seX0_findKth : Cond.selects RX0 yX0_findKth yX0_findKth ∈ gt := gt_mem (by decide +kernel) (by decide +kernel)
theorem stL_frequent : Cond.static yL_frequent ∈ gt := gt_mem (by decide +kernel) (by decide +kernel)
theorem imX0_frequent : Cond.instanceMethod yX0_frequent ∈ gt := gt_mem (by decide +kernel) (by decide +kernel)
theorem seX0_frequent : Cond.selects RX0 yX0_frequent yX0_frequent ∈ gt := gt_mem (by decide +kernel) (by decide +kernel)
theorem stL_below : Cond.static yL_below ∈ gt := gt_mem (by decide +kernel) (by decide +kernel)
theorem imX0_below : Cond.instanceMethod yX0_below ∈ gt := gt_mem (by decide +kernel) (by decide +kernel)
theorem seX0_below : Cond.selects RX0 yX0_below yX0_below ∈ gt := gt_mem (by decide +kernel) (by decide +kernel)
theorem stL_has : Cond.static yL_has ∈ gt := gt_mem (by decide +kernel) (by decide +kernel)
theorem imX0_has : Cond.instanceMethod yX0_has ∈ gt := gt_mem (by decide +kernel) (by decide +kernel)
theorem seX0_has : Cond.selects RX0 yX0_has yX0_has ∈ gt := gt_mem (by decide +kernel) (by decide +kernel)
theorem imX1_init : Cond.instanceMethod yX1_init ∈ gt := gt_mem (by decide +kernel) (by decide +kernel)
theorem imX1_thrown : Cond.instanceMethod yX1_thrown ∈ gt := gt_mem (by decide +kernel) (by decide +kernel)
theorem seX1_thrown : Cond.selects RX1 yX1_thrown yX1_thrown ∈ gt := gt_mem (by decide +kernel) (by decide +kernel)
theorem imX1_clear : Cond.instanceMethod yX1_clear ∈ gt := gt_mem (by decide +kernel) (by decide +kernel)
theorem seX1_clear : Cond.selects RX1 yX1_clear yX1_clear ∈ gt := gt_mem (by decide +kernel) (by decide +kernel)
theorem imX1_window : Cond.instanceMethod yX1_window ∈ gt := gt_mem (by decide +kernel) (by decide +kernel)
theorem seX1_window : Cond.selects RX1 yX1_window yX1_window ∈ gt := gt_mem (by decide +kernel) (by decide +kernel)
theorem stX1_in : Cond.static yX1_in ∈ gt := gt_mem (by decide +kernel) (by decide +kernel)
theorem imX1_refuse : Cond.instanceMethod yX1_refuse ∈ gt := gt_mem (by decide +kernel) (by decide +kernel)
theorem seX1_refuse : Cond.selects RX1 yX1_refuse yX1_refuse ∈ gt := gt_mem (by decide +kernel) (by decide +kernel)
theorem imX1_tuple : Cond.instanceMethod yX1_tuple ∈ gt := gt_mem (by decide +kernel) (by decide +kernel)
theorem seX1_tuple : Cond.selects RX1 yX1_tuple yX1_tuple ∈ gt := gt_mem (by decide +kernel) (by decide +kernel)
theorem imX1_tick : Cond.instanceMethod yX1_tick ∈ gt := gt_mem (by decide +kernel) (by decide +kernel)
theorem seX1_tick : Cond.selects RX1 yX1_tick yX1_tick ∈ gt := gt_mem (by decide +kernel) (by decide +kernel)
theorem imX1_now : Cond.instanceMethod yX1_now ∈ gt := gt_mem (by decide +kernel) (by decide +kernel)
theorem seX1_now : Cond.selects RX1 yX1_now yX1_now ∈ gt := gt_mem (by decide +kernel) (by decide +kernel)
theorem imX1_meter : Cond.instanceMethod yX1_meter ∈ gt := gt_mem (by decide +kernel) (by decide +kernel)
theorem seX1_meter : Cond.selects RX1 yX1_meter yX1_meter ∈ gt := gt_mem (by decide +kernel) (by decide +kernel)
theorem imX1_isWindow : Cond.instanceMethod yX1_isWindow ∈ gt := gt_mem (by decide +kernel) (by decide +kernel)
theorem seX1_isWindow : Cond.selects RX1 yX1_isWindow yX1_isWindow ∈ gt := gt_mem (by decide +kernel) (by decide +kernel)
theorem imX1_hold : Cond.instanceMethod yX1_hold ∈ gt := gt_mem (by decide +kernel) (by decide +kernel)
theorem seX1_hold : Cond.selects RX1 yX1_hold yX1_hold ∈ gt := gt_mem (by decide +kernel) (by decide +kernel)
theorem imX1_isIn : Cond.instanceMethod yX1_isIn ∈ gt := gt_mem (by decide +kernel) (by decide +kernel)
theorem seX1_isIn : Cond.selects RX1 yX1_isIn yX1_isIn ∈ gt := gt_mem (by decide +kernel) (by decide +kernel)
theorem imX1_behindOfKey : Cond.instanceMethod yX1_behindOfKey ∈ gt := gt_mem (by decide +kernel) (by decide +kernel)
theorem seX1_behindOfKey : Cond.selects RX1 yX1_behindOfKey yX1_behindOfKey ∈ gt := gt_mem (by decide +kernel) (by decide +kernel)
theorem imX1_runs : Cond.instanceMethod yX1_runs ∈ gt := gt_mem (by decide +kernel) (by decide +kernel)
theorem seX1_runs : Cond.selects RX1 yX1_runs yX1_runs ∈ gt := gt_mem (by decide +kernel) (by decide +kernel)
theorem imX1_most : Cond.instanceMethod yX1_most ∈ gt := gt_mem (by decide +kernel) (by decide +kernel)
theorem seX1_most : Cond.selects RX1 yX1_most yX1_most ∈ gt := gt_mem (by decide +kernel) (by decide +kernel)
theorem imX1_kth : Cond.instanceMethod yX1_kth ∈ gt := gt_mem (by decide +kernel) (by decide +kernel)
theorem seX1_kth : Cond.selects RX1 yX1_kth yX1_kth ∈ gt := gt_mem (by decide +kernel) (by decide +kernel)
theorem imX1_frequent : Cond.instanceMethod yX1_frequent ∈ gt := gt_mem (by decide +kernel) (by decide +kernel)
theorem seX1_frequent : Cond.selects RX1 yX1_frequent yX1_frequent ∈ gt := gt_mem (by decide +kernel) (by decide +kernel)
theorem imX1_below : Cond.instanceMethod yX1_below ∈ gt := gt_mem (by decide +kernel) (by decide +kernel)
theorem seX1_below : Cond.selects RX1 yX1_below yX1_below ∈ gt := gt_mem (by decide +kernel) (by decide +kernel)
theorem imX1_has : Cond.instanceMethod yX1_has ∈ gt := gt_mem (by decide +kernel) (by decide +kernel)
theorem seX1_has : Cond.selects RX1 yX1_has yX1_has ∈ gt := gt_mem (by decide +kernel) (by decide +kernel)
theorem ac_int : Cond.arrayClass .int ∈ gt := gt_mem (by decide +kernel) (by decide +kernel)
theorem ac_boolean : Cond.arrayClass .boolean ∈ gt := gt_mem (by decide +kernel) (by decide +kernel)
theorem ac_long : Cond.arrayClass .long ∈ gt := gt_mem (by decide +kernel) (by decide +kernel)
theorem im_obj : Cond.instanceMethod objectInit ∈ gt := gt_mem (by decide +kernel) (by decide +kernel)
theorem kw_obj : Cond.code objectInit ⟨#[0xb1]⟩ 1 none ∈ gt := gt_mem (by decide +kernel) (by decide +kernel)
theorem iw_X0 : Cond.instantiable RX0 11 ∈ gt := gt_mem (by decide +kernel) (by decide +kernel)
theorem iw_X1 : Cond.instantiable RX1 12 ∈ gt := gt_mem (by decide +kernel) (by decide +kernel)
end
section
theorem dX0_init_0 : decode cX0_init 0 = .ok (.aload_n 0, 1) := by decide +kernel
theorem dX0_init_1 : decode cX0_init 1 = .ok (.invokespecial 1, 3) := by decide +kernel
theorem dX0_init_4 : decode cX0_init 4 = .ok (.aload_n 0, 1) := by decide +kernel
theorem dX0_init_5 : decode cX0_init 5 = .ok (.sipush 300, 3) := by decide +kernel
theorem dX0_init_8 : decode cX0_init 8 = .ok (.newarray .int, 2) := by decide +kernel
theorem dX0_init_10 : decode cX0_init 10 = .ok (.putfield 9, 3) := by decide +kernel
theorem dX0_init_13 : decode cX0_init 13 = .ok (.aload_n 0, 1) := by decide +kernel
theorem dX0_init_14 : decode cX0_init 14 = .ok (.sipush 300, 3) := by decide +kernel
theorem dX0_init_17 : decode cX0_init 17 = .ok (.newarray .int, 2) := by decide +kernel
theorem dX0_init_19 : decode cX0_init 19 = .ok (.putfield 13, 3) := by decide +kernel
theorem dX0_init_22 : decode cX0_init 22 = .ok (.aload_n 0, 1) := by decide +kernel
theorem dX0_init_23 : decode cX0_init 23 = .ok (.sipush 300, 3) := by decide +kernel
theorem dX0_init_26 : decode cX0_init 26 = .ok (.newarray .int, 2) := by decide +kernel
theorem dX0_init_28 : decode cX0_init 28 = .ok (.putfield 16, 3) := by decide +kernel
theorem dX0_init_31 : decode cX0_init 31 = .ok (.aload_n 0, 1) := by decide +kernel
theorem dX0_init_32 : decode cX0_init 32 = .ok (.sipush 300, 3) := by decide +kernel
theorem dX0_init_35 : decode cX0_init 35 = .ok (.newarray .int, 2) := by decide +kernel
theorem dX0_init_37 : decode cX0_init 37 = .ok (.putfield 19, 3) := by decide +kernel
theorem dX0_init_40 : decode cX0_init 40 = .ok (.aload_n 0, 1) := by decide +kernel
theorem dX0_init_41 : decode cX0_init 41 = .ok (.bipush 6, 2) := by decide +kernel
theorem dX0_init_43 : decode cX0_init 43 = .ok (.newarray .int, 2) := by decide +kernel
theorem dX0_init_45 : decode cX0_init 45 = .ok (.putfield 22, 3) := by decide +kernel
theorem dX0_init_48 : decode cX0_init 48 = .ok (.aload_n 0, 1) := by decide +kernel
theorem dX0_init_49 : decode cX0_init 49 = .ok (.bipush 6, 2) := by decide +kernel
theorem dX0_init_51 : decode cX0_init 51 = .ok (.newarray .int, 2) := by decide +kernel
theorem dX0_init_53 : decode cX0_init 53 = .ok (.putfield 25, 3) := by decide +kernel
theorem dX0_init_56 : decode cX0_init 56 = .ok (.aload_n 0, 1) := by decide +kernel
theorem dX0_init_57 : decode cX0_init 57 = .ok (.sipush 300, 3) := by decide +kernel
theorem dX0_init_60 : decode cX0_init 60 = .ok (.newarray .boolean, 2) := by decide +kernel
theorem dX0_init_62 : decode cX0_init 62 = .ok (.putfield 28, 3) := by decide +kernel
theorem dX0_init_65 : decode cX0_init 65 = .ok (.aload_n 0, 1) := by decide +kernel
theorem dX0_init_66 : decode cX0_init 66 = .ok (.bipush 8, 2) := by decide +kernel
theorem dX0_init_68 : decode cX0_init 68 = .ok (.newarray .int, 2) := by decide +kernel
theorem dX0_init_70 : decode cX0_init 70 = .ok (.putfield 32, 3) := by decide +kernel
theorem dX0_init_73 : decode cX0_init 73 = .ok (.aload_n 0, 1) := by decide +kernel
theorem dX0_init_74 : decode cX0_init 74 = .ok (.iconst 0, 1) := by decide +kernel
theorem dX0_init_75 : decode cX0_init 75 = .ok (.putfield 35, 3) := by decide +kernel
theorem dX0_init_78 : decode cX0_init 78 = .ok (.aload_n 0, 1) := by decide +kernel
theorem dX0_init_79 : decode cX0_init 79 = .ok (.iconst 0, 1) := by decide +kernel
theorem dX0_init_80 : decode cX0_init 80 = .ok (.putfield 39, 3) := by decide +kernel
theorem dX0_init_83 : decode cX0_init 83 = .ok (.aload_n 0, 1) := by decide +kernel
theorem dX0_init_84 : decode cX0_init 84 = .ok (.iconst 0, 1) := by decide +kernel
theorem dX0_init_85 : decode cX0_init 85 = .ok (.putfield 42, 3) := by decide +kernel
theorem dX0_init_88 : decode cX0_init 88 = .ok (.return_, 1) := by decide +kernel
theorem dX0_clear_0 : decode cX0_clear 0 = .ok (.aload_n 0, 1) := by decide +kernel
theorem dX0_clear_1 : decode cX0_clear 1 = .ok (.iconst 0, 1) := by decide +kernel
theorem dX0_clear_2 : decode cX0_clear 2 = .ok (.putfield 35, 3) := by decide +kernel
theorem dX0_clear_5 : decode cX0_clear 5 = .ok (.aload_n 0, 1) := by decide +kernel
theorem dX0_clear_6 : decode cX0_clear 6 = .ok (.iconst 0, 1) := by decide +kernel
theorem dX0_clear_7 : decode cX0_clear 7 = .ok (.putfield 39, 3) := by decide +kernel
theorem dX0_clear_10 : decode cX0_clear 10 = .ok (.aload_n 0, 1) := by decide +kernel
theorem dX0_clear_11 : decode cX0_clear 11 = .ok (.iconst 0, 1) := by decide +kernel
theorem dX0_clear_12 : decode cX0_clear 12 = .ok (.putfield 42, 3) := by decide +kernel
theorem dX0_clear_15 : decode cX0_clear 15 = .ok (.return_, 1) := by decide +kernel
theorem dX0_window_0 : decode cX0_window 0 = .ok (.iload_n 1, 1) := by decide +kernel
theorem dX0_window_1 : decode cX0_window 1 = .ok (.ifCond .lt 8, 3) := by decide +kernel
theorem dX0_window_4 : decode cX0_window 4 = .ok (.iload_n 1, 1) := by decide +kernel
theorem dX0_window_5 : decode cX0_window 5 = .ok (.iconst 5, 1) := by decide +kernel
theorem dX0_window_6 : decode cX0_window 6 = .ok (.if_icmp .le 13, 3) := by decide +kernel
theorem dX0_window_9 : decode cX0_window 9 = .ok (.new 45, 3) := by decide +kernel
theorem dX0_window_12 : decode cX0_window 12 = .ok (.dup, 1) := by decide +kernel
theorem dX0_window_13 : decode cX0_window 13 = .ok (.ldc 47, 2) := by decide +kernel
theorem dX0_window_15 : decode cX0_window 15 = .ok (.invokespecial 49, 3) := by decide +kernel
theorem dX0_window_18 : decode cX0_window 18 = .ok (.athrow, 1) := by decide +kernel
theorem dX0_window_19 : decode cX0_window 19 = .ok (.iload_n 2, 1) := by decide +kernel
theorem dX0_window_20 : decode cX0_window 20 = .ok (.ifCond .lt 9, 3) := by decide +kernel
theorem dX0_window_23 : decode cX0_window 23 = .ok (.iload_n 2, 1) := by decide +kernel
theorem dX0_window_24 : decode cX0_window 24 = .ok (.ldc 52, 2) := by decide +kernel
theorem dX0_window_26 : decode cX0_window 26 = .ok (.if_icmp .le 13, 3) := by decide +kernel
theorem dX0_window_29 : decode cX0_window 29 = .ok (.new 45, 3) := by decide +kernel
theorem dX0_window_32 : decode cX0_window 32 = .ok (.dup, 1) := by decide +kernel
theorem dX0_window_33 : decode cX0_window 33 = .ok (.ldc 53, 2) := by decide +kernel
theorem dX0_window_35 : decode cX0_window 35 = .ok (.invokespecial 49, 3) := by decide +kernel
theorem dX0_window_38 : decode cX0_window 38 = .ok (.athrow, 1) := by decide +kernel
theorem dX0_window_39 : decode cX0_window 39 = .ok (.aload_n 0, 1) := by decide +kernel
theorem dX0_window_40 : decode cX0_window 40 = .ok (.getfield 39, 3) := by decide +kernel
theorem dX0_window_43 : decode cX0_window 43 = .ok (.bipush 6, 2) := by decide +kernel
theorem dX0_window_45 : decode cX0_window 45 = .ok (.if_icmp .lt 13, 3) := by decide +kernel
theorem dX0_window_48 : decode cX0_window 48 = .ok (.new 55, 3) := by decide +kernel
theorem dX0_window_51 : decode cX0_window 51 = .ok (.dup, 1) := by decide +kernel
theorem dX0_window_52 : decode cX0_window 52 = .ok (.ldc 57, 2) := by decide +kernel
theorem dX0_window_54 : decode cX0_window 54 = .ok (.invokespecial 59, 3) := by decide +kernel
theorem dX0_window_57 : decode cX0_window 57 = .ok (.athrow, 1) := by decide +kernel
theorem dX0_window_58 : decode cX0_window 58 = .ok (.aload_n 0, 1) := by decide +kernel
theorem dX0_window_59 : decode cX0_window 59 = .ok (.getfield 39, 3) := by decide +kernel
theorem dX0_window_62 : decode cX0_window 62 = .ok (.istore_n 3, 1) := by decide +kernel
theorem dX0_window_63 : decode cX0_window 63 = .ok (.aload_n 0, 1) := by decide +kernel
theorem dX0_window_64 : decode cX0_window 64 = .ok (.getfield 22, 3) := by decide +kernel
theorem dX0_window_67 : decode cX0_window 67 = .ok (.iload_n 3, 1) := by decide +kernel
theorem dX0_window_68 : decode cX0_window 68 = .ok (.iload_n 1, 1) := by decide +kernel
theorem dX0_window_69 : decode cX0_window 69 = .ok (.iastore, 1) := by decide +kernel
theorem dX0_window_70 : decode cX0_window 70 = .ok (.aload_n 0, 1) := by decide +kernel
theorem dX0_window_71 : decode cX0_window 71 = .ok (.getfield 25, 3) := by decide +kernel
theorem dX0_window_74 : decode cX0_window 74 = .ok (.iload_n 3, 1) := by decide +kernel
theorem dX0_window_75 : decode cX0_window 75 = .ok (.iload_n 2, 1) := by decide +kernel
theorem dX0_window_76 : decode cX0_window 76 = .ok (.iastore, 1) := by decide +kernel
theorem dX0_window_77 : decode cX0_window 77 = .ok (.aload_n 0, 1) := by decide +kernel
theorem dX0_window_78 : decode cX0_window 78 = .ok (.iload_n 3, 1) := by decide +kernel
theorem dX0_window_79 : decode cX0_window 79 = .ok (.iconst 1, 1) := by decide +kernel
theorem dX0_window_80 : decode cX0_window 80 = .ok (.iadd, 1) := by decide +kernel
theorem dX0_window_81 : decode cX0_window 81 = .ok (.putfield 39, 3) := by decide +kernel
theorem dX0_window_84 : decode cX0_window 84 = .ok (.iload_n 3, 1) := by decide +kernel
theorem dX0_window_85 : decode cX0_window 85 = .ok (.ireturn, 1) := by decide +kernel
theorem dX0_tuple_0 : decode cX0_tuple 0 = .ok (.iload_n 1, 1) := by decide +kernel
theorem dX0_tuple_1 : decode cX0_tuple 1 = .ok (.aload_n 0, 1) := by decide +kernel
theorem dX0_tuple_2 : decode cX0_tuple 2 = .ok (.getfield 42, 3) := by decide +kernel
theorem dX0_tuple_5 : decode cX0_tuple 5 = .ok (.if_icmp .lt 9, 3) := by decide +kernel
theorem dX0_tuple_8 : decode cX0_tuple 8 = .ok (.iload_n 1, 1) := by decide +kernel
theorem dX0_tuple_9 : decode cX0_tuple 9 = .ok (.ldc 52, 2) := by decide +kernel
theorem dX0_tuple_11 : decode cX0_tuple 11 = .ok (.if_icmp .le 13, 3) := by decide +kernel
theorem dX0_tuple_14 : decode cX0_tuple 14 = .ok (.new 45, 3) := by decide +kernel
theorem dX0_tuple_17 : decode cX0_tuple 17 = .ok (.dup, 1) := by decide +kernel
theorem dX0_tuple_18 : decode cX0_tuple 18 = .ok (.ldc 60, 2) := by decide +kernel
theorem dX0_tuple_20 : decode cX0_tuple 20 = .ok (.invokespecial 49, 3) := by decide +kernel
theorem dX0_tuple_23 : decode cX0_tuple 23 = .ok (.athrow, 1) := by decide +kernel
theorem dX0_tuple_24 : decode cX0_tuple 24 = .ok (.iload_n 2, 1) := by decide +kernel
theorem dX0_tuple_25 : decode cX0_tuple 25 = .ok (.ifCond .lt 9, 3) := by decide +kernel
theorem dX0_tuple_28 : decode cX0_tuple 28 = .ok (.iload_n 2, 1) := by decide +kernel
theorem dX0_tuple_29 : decode cX0_tuple 29 = .ok (.bipush 8, 2) := by decide +kernel
theorem dX0_tuple_31 : decode cX0_tuple 31 = .ok (.if_icmp .lt 13, 3) := by decide +kernel
theorem dX0_tuple_34 : decode cX0_tuple 34 = .ok (.new 45, 3) := by decide +kernel
theorem dX0_tuple_37 : decode cX0_tuple 37 = .ok (.dup, 1) := by decide +kernel
theorem dX0_tuple_38 : decode cX0_tuple 38 = .ok (.ldc 62, 2) := by decide +kernel
theorem dX0_tuple_40 : decode cX0_tuple 40 = .ok (.invokespecial 49, 3) := by decide +kernel
theorem dX0_tuple_43 : decode cX0_tuple 43 = .ok (.athrow, 1) := by decide +kernel
theorem dX0_tuple_44 : decode cX0_tuple 44 = .ok (.aload_n 0, 1) := by decide +kernel
theorem dX0_tuple_45 : decode cX0_tuple 45 = .ok (.getfield 35, 3) := by decide +kernel
theorem dX0_tuple_48 : decode cX0_tuple 48 = .ok (.sipush 300, 3) := by decide +kernel
theorem dX0_tuple_51 : decode cX0_tuple 51 = .ok (.if_icmp .lt 13, 3) := by decide +kernel
theorem dX0_tuple_54 : decode cX0_tuple 54 = .ok (.new 55, 3) := by decide +kernel
theorem dX0_tuple_57 : decode cX0_tuple 57 = .ok (.dup, 1) := by decide +kernel
theorem dX0_tuple_58 : decode cX0_tuple 58 = .ok (.ldc 64, 2) := by decide +kernel
theorem dX0_tuple_60 : decode cX0_tuple 60 = .ok (.invokespecial 59, 3) := by decide +kernel
theorem dX0_tuple_63 : decode cX0_tuple 63 = .ok (.athrow, 1) := by decide +kernel
theorem dX0_tuple_64 : decode cX0_tuple 64 = .ok (.aload_n 0, 1) := by decide +kernel
theorem dX0_tuple_65 : decode cX0_tuple 65 = .ok (.getfield 35, 3) := by decide +kernel
theorem dX0_tuple_68 : decode cX0_tuple 68 = .ok (.istore 4, 2) := by decide +kernel
theorem dX0_tuple_70 : decode cX0_tuple 70 = .ok (.aload_n 0, 1) := by decide +kernel
theorem dX0_tuple_71 : decode cX0_tuple 71 = .ok (.getfield 9, 3) := by decide +kernel
theorem dX0_tuple_74 : decode cX0_tuple 74 = .ok (.iload 4, 2) := by decide +kernel
theorem dX0_tuple_76 : decode cX0_tuple 76 = .ok (.iload_n 1, 1) := by decide +kernel
theorem dX0_tuple_77 : decode cX0_tuple 77 = .ok (.iastore, 1) := by decide +kernel
theorem dX0_tuple_78 : decode cX0_tuple 78 = .ok (.aload_n 0, 1) := by decide +kernel
theorem dX0_tuple_79 : decode cX0_tuple 79 = .ok (.getfield 13, 3) := by decide +kernel
theorem dX0_tuple_82 : decode cX0_tuple 82 = .ok (.iload 4, 2) := by decide +kernel
theorem dX0_tuple_84 : decode cX0_tuple 84 = .ok (.iload_n 2, 1) := by decide +kernel
theorem dX0_tuple_85 : decode cX0_tuple 85 = .ok (.iastore, 1) := by decide +kernel
theorem dX0_tuple_86 : decode cX0_tuple 86 = .ok (.aload_n 0, 1) := by decide +kernel
theorem dX0_tuple_87 : decode cX0_tuple 87 = .ok (.getfield 16, 3) := by decide +kernel
theorem dX0_tuple_90 : decode cX0_tuple 90 = .ok (.iload 4, 2) := by decide +kernel
theorem dX0_tuple_92 : decode cX0_tuple 92 = .ok (.iload_n 3, 1) := by decide +kernel
theorem dX0_tuple_93 : decode cX0_tuple 93 = .ok (.iastore, 1) := by decide +kernel
theorem dX0_tuple_94 : decode cX0_tuple 94 = .ok (.aload_n 0, 1) := by decide +kernel
theorem dX0_tuple_95 : decode cX0_tuple 95 = .ok (.iload 4, 2) := by decide +kernel
theorem dX0_tuple_97 : decode cX0_tuple 97 = .ok (.invokevirtual 66, 3) := by decide +kernel
theorem dX0_tuple_100 : decode cX0_tuple 100 = .ok (.aload_n 0, 1) := by decide +kernel
theorem dX0_tuple_101 : decode cX0_tuple 101 = .ok (.iload 4, 2) := by decide +kernel
theorem dX0_tuple_103 : decode cX0_tuple 103 = .ok (.iconst 1, 1) := by decide +kernel
theorem dX0_tuple_104 : decode cX0_tuple 104 = .ok (.iadd, 1) := by decide +kernel
theorem dX0_tuple_105 : decode cX0_tuple 105 = .ok (.putfield 35, 3) := by decide +kernel
theorem dX0_tuple_108 : decode cX0_tuple 108 = .ok (.aload_n 0, 1) := by decide +kernel
theorem dX0_tuple_109 : decode cX0_tuple 109 = .ok (.iload_n 1, 1) := by decide +kernel
theorem dX0_tuple_110 : decode cX0_tuple 110 = .ok (.putfield 42, 3) := by decide +kernel
theorem dX0_tuple_113 : decode cX0_tuple 113 = .ok (.aload_n 0, 1) := by decide +kernel
theorem dX0_tuple_114 : decode cX0_tuple 114 = .ok (.getfield 35, 3) := by decide +kernel
theorem dX0_tuple_117 : decode cX0_tuple 117 = .ok (.ireturn, 1) := by decide +kernel
theorem dX0_tick_0 : decode cX0_tick 0 = .ok (.iload_n 1, 1) := by decide +kernel
theorem dX0_tick_1 : decode cX0_tick 1 = .ok (.aload_n 0, 1) := by decide +kernel
theorem dX0_tick_2 : decode cX0_tick 2 = .ok (.getfield 42, 3) := by decide +kernel
theorem dX0_tick_5 : decode cX0_tick 5 = .ok (.if_icmp .lt 9, 3) := by decide +kernel
theorem dX0_tick_8 : decode cX0_tick 8 = .ok (.iload_n 1, 1) := by decide +kernel
theorem dX0_tick_9 : decode cX0_tick 9 = .ok (.ldc 52, 2) := by decide +kernel
theorem dX0_tick_11 : decode cX0_tick 11 = .ok (.if_icmp .le 13, 3) := by decide +kernel
theorem dX0_tick_14 : decode cX0_tick 14 = .ok (.new 45, 3) := by decide +kernel
theorem dX0_tick_17 : decode cX0_tick 17 = .ok (.dup, 1) := by decide +kernel
theorem dX0_tick_18 : decode cX0_tick 18 = .ok (.ldc 60, 2) := by decide +kernel
theorem dX0_tick_20 : decode cX0_tick 20 = .ok (.invokespecial 49, 3) := by decide +kernel
theorem dX0_tick_23 : decode cX0_tick 23 = .ok (.athrow, 1) := by decide +kernel
theorem dX0_tick_24 : decode cX0_tick 24 = .ok (.aload_n 0, 1) := by decide +kernel
theorem dX0_tick_25 : decode cX0_tick 25 = .ok (.iload_n 1, 1) := by decide +kernel
theorem dX0_tick_26 : decode cX0_tick 26 = .ok (.putfield 42, 3) := by decide +kernel
theorem dX0_tick_29 : decode cX0_tick 29 = .ok (.return_, 1) := by decide +kernel
theorem dX0_meter_0 : decode cX0_meter 0 = .ok (.aload_n 0, 1) := by decide +kernel
theorem dX0_meter_1 : decode cX0_meter 1 = .ok (.iload_n 1, 1) := by decide +kernel
theorem dX0_meter_2 : decode cX0_meter 2 = .ok (.invokevirtual 70, 3) := by decide +kernel
theorem dX0_meter_5 : decode cX0_meter 5 = .ok (.iload_n 2, 1) := by decide +kernel
theorem dX0_meter_6 : decode cX0_meter 6 = .ok (.ifCond .lt 8, 3) := by decide +kernel
theorem dX0_meter_9 : decode cX0_meter 9 = .ok (.iload_n 2, 1) := by decide +kernel
theorem dX0_meter_10 : decode cX0_meter 10 = .ok (.iconst 3, 1) := by decide +kernel
theorem dX0_meter_11 : decode cX0_meter 11 = .ok (.if_icmp .le 13, 3) := by decide +kernel
theorem dX0_meter_14 : decode cX0_meter 14 = .ok (.new 45, 3) := by decide +kernel
theorem dX0_meter_17 : decode cX0_meter 17 = .ok (.dup, 1) := by decide +kernel
theorem dX0_meter_18 : decode cX0_meter 18 = .ok (.ldc 73, 2) := by decide +kernel
theorem dX0_meter_20 : decode cX0_meter 20 = .ok (.invokespecial 49, 3) := by decide +kernel
theorem dX0_meter_23 : decode cX0_meter 23 = .ok (.athrow, 1) := by decide +kernel
theorem dX0_meter_24 : decode cX0_meter 24 = .ok (.aload_n 0, 1) := by decide +kernel
theorem dX0_meter_25 : decode cX0_meter 25 = .ok (.iload_n 1, 1) := by decide +kernel
theorem dX0_meter_26 : decode cX0_meter 26 = .ok (.invokevirtual 75, 3) := by decide +kernel
theorem dX0_meter_29 : decode cX0_meter 29 = .ok (.iload_n 2, 1) := by decide +kernel
theorem dX0_meter_30 : decode cX0_meter 30 = .ok (.tableswitch 41 0 2 #[26, 31, 36], 26) := by decide +kernel
theorem dX0_meter_56 : decode cX0_meter 56 = .ok (.aload_n 0, 1) := by decide +kernel
theorem dX0_meter_57 : decode cX0_meter 57 = .ok (.invokevirtual 78, 3) := by decide +kernel
theorem dX0_meter_60 : decode cX0_meter 60 = .ok (.ireturn, 1) := by decide +kernel
theorem dX0_meter_61 : decode cX0_meter 61 = .ok (.aload_n 0, 1) := by decide +kernel
theorem dX0_meter_62 : decode cX0_meter 62 = .ok (.invokevirtual 82, 3) := by decide +kernel
theorem dX0_meter_65 : decode cX0_meter 65 = .ok (.ireturn, 1) := by decide +kernel
theorem dX0_meter_66 : decode cX0_meter 66 = .ok (.aload_n 0, 1) := by decide +kernel
theorem dX0_meter_67 : decode cX0_meter 67 = .ok (.invokevirtual 85, 3) := by decide +kernel
theorem dX0_meter_70 : decode cX0_meter 70 = .ok (.ireturn, 1) := by decide +kernel
theorem dX0_meter_71 : decode cX0_meter 71 = .ok (.aload_n 0, 1) := by decide +kernel
theorem dX0_meter_72 : decode cX0_meter 72 = .ok (.invokevirtual 88, 3) := by decide +kernel
theorem dX0_meter_75 : decode cX0_meter 75 = .ok (.ireturn, 1) := by decide +kernel
theorem dX0_kth_0 : decode cX0_kth 0 = .ok (.aload_n 0, 1) := by decide +kernel
theorem dX0_kth_1 : decode cX0_kth 1 = .ok (.iload_n 1, 1) := by decide +kernel
theorem dX0_kth_2 : decode cX0_kth 2 = .ok (.invokevirtual 70, 3) := by decide +kernel
theorem dX0_kth_5 : decode cX0_kth 5 = .ok (.aload_n 0, 1) := by decide +kernel
theorem dX0_kth_6 : decode cX0_kth 6 = .ok (.iload_n 1, 1) := by decide +kernel
theorem dX0_kth_7 : decode cX0_kth 7 = .ok (.invokevirtual 75, 3) := by decide +kernel
theorem dX0_kth_10 : decode cX0_kth 10 = .ok (.aload_n 0, 1) := by decide +kernel
theorem dX0_kth_11 : decode cX0_kth 11 = .ok (.iload_n 2, 1) := by decide +kernel
theorem dX0_kth_12 : decode cX0_kth 12 = .ok (.invokevirtual 91, 3) := by decide +kernel
theorem dX0_kth_15 : decode cX0_kth 15 = .ok (.istore_n 3, 1) := by decide +kernel
theorem dX0_kth_16 : decode cX0_kth 16 = .ok (.iload_n 3, 1) := by decide +kernel
theorem dX0_kth_17 : decode cX0_kth 17 = .ok (.iconst (-1), 1) := by decide +kernel
theorem dX0_kth_18 : decode cX0_kth 18 = .ok (.if_icmp .ne 13, 3) := by decide +kernel
theorem dX0_kth_21 : decode cX0_kth 21 = .ok (.new 95, 3) := by decide +kernel
theorem dX0_kth_24 : decode cX0_kth 24 = .ok (.dup, 1) := by decide +kernel
theorem dX0_kth_25 : decode cX0_kth 25 = .ok (.ldc 97, 2) := by decide +kernel
theorem dX0_kth_27 : decode cX0_kth 27 = .ok (.invokespecial 99, 3) := by decide +kernel
theorem dX0_kth_30 : decode cX0_kth 30 = .ok (.athrow, 1) := by decide +kernel
theorem dX0_kth_31 : decode cX0_kth 31 = .ok (.aload_n 0, 1) := by decide +kernel
theorem dX0_kth_32 : decode cX0_kth 32 = .ok (.getfield 16, 3) := by decide +kernel
theorem dX0_kth_35 : decode cX0_kth 35 = .ok (.iload_n 3, 1) := by decide +kernel
theorem dX0_kth_36 : decode cX0_kth 36 = .ok (.iaload, 1) := by decide +kernel
theorem dX0_kth_37 : decode cX0_kth 37 = .ok (.ireturn, 1) := by decide +kernel
theorem dX0_frequent_0 : decode cX0_frequent 0 = .ok (.aload_n 0, 1) := by decide +kernel
theorem dX0_frequent_1 : decode cX0_frequent 1 = .ok (.iload_n 1, 1) := by decide +kernel
theorem dX0_frequent_2 : decode cX0_frequent 2 = .ok (.invokevirtual 70, 3) := by decide +kernel
theorem dX0_frequent_5 : decode cX0_frequent 5 = .ok (.aload_n 0, 1) := by decide +kernel
theorem dX0_frequent_6 : decode cX0_frequent 6 = .ok (.iload_n 1, 1) := by decide +kernel
theorem dX0_frequent_7 : decode cX0_frequent 7 = .ok (.invokevirtual 75, 3) := by decide +kernel
theorem dX0_frequent_10 : decode cX0_frequent 10 = .ok (.aload_n 0, 1) := by decide +kernel
theorem dX0_frequent_11 : decode cX0_frequent 11 = .ok (.invokevirtual 100, 3) := by decide +kernel
theorem dX0_frequent_14 : decode cX0_frequent 14 = .ok (.istore_n 2, 1) := by decide +kernel
theorem dX0_frequent_15 : decode cX0_frequent 15 = .ok (.iload_n 2, 1) := by decide +kernel
theorem dX0_frequent_16 : decode cX0_frequent 16 = .ok (.iconst (-1), 1) := by decide +kernel
theorem dX0_frequent_17 : decode cX0_frequent 17 = .ok (.if_icmp .ne 13, 3) := by decide +kernel
theorem dX0_frequent_20 : decode cX0_frequent 20 = .ok (.new 95, 3) := by decide +kernel
theorem dX0_frequent_23 : decode cX0_frequent 23 = .ok (.dup, 1) := by decide +kernel
theorem dX0_frequent_24 : decode cX0_frequent 24 = .ok (.ldc 103, 2) := by decide +kernel
theorem dX0_frequent_26 : decode cX0_frequent 26 = .ok (.invokespecial 99, 3) := by decide +kernel
theorem dX0_frequent_29 : decode cX0_frequent 29 = .ok (.athrow, 1) := by decide +kernel
theorem dX0_frequent_30 : decode cX0_frequent 30 = .ok (.aload_n 0, 1) := by decide +kernel
theorem dX0_frequent_31 : decode cX0_frequent 31 = .ok (.getfield 16, 3) := by decide +kernel
theorem dX0_frequent_34 : decode cX0_frequent 34 = .ok (.iload_n 2, 1) := by decide +kernel
theorem dX0_frequent_35 : decode cX0_frequent 35 = .ok (.iaload, 1) := by decide +kernel
theorem dX0_frequent_36 : decode cX0_frequent 36 = .ok (.ireturn, 1) := by decide +kernel
theorem dX0_below_0 : decode cX0_below 0 = .ok (.aload_n 0, 1) := by decide +kernel
theorem dX0_below_1 : decode cX0_below 1 = .ok (.iload_n 1, 1) := by decide +kernel
theorem dX0_below_2 : decode cX0_below 2 = .ok (.invokevirtual 70, 3) := by decide +kernel
theorem dX0_below_5 : decode cX0_below 5 = .ok (.aload_n 0, 1) := by decide +kernel
theorem dX0_below_6 : decode cX0_below 6 = .ok (.iload_n 1, 1) := by decide +kernel
theorem dX0_below_7 : decode cX0_below 7 = .ok (.invokevirtual 75, 3) := by decide +kernel
theorem dX0_below_10 : decode cX0_below 10 = .ok (.iconst 0, 1) := by decide +kernel
theorem dX0_below_11 : decode cX0_below 11 = .ok (.istore_n 3, 1) := by decide +kernel
theorem dX0_below_12 : decode cX0_below 12 = .ok (.iconst 0, 1) := by decide +kernel
theorem dX0_below_13 : decode cX0_below 13 = .ok (.istore 4, 2) := by decide +kernel
theorem dX0_below_15 : decode cX0_below 15 = .ok (.iload 4, 2) := by decide +kernel
theorem dX0_below_17 : decode cX0_below 17 = .ok (.aload_n 0, 1) := by decide +kernel
theorem dX0_below_18 : decode cX0_below 18 = .ok (.getfield 35, 3) := by decide +kernel
theorem dX0_below_21 : decode cX0_below 21 = .ok (.if_icmp .ge 33, 3) := by decide +kernel
theorem dX0_below_24 : decode cX0_below 24 = .ok (.aload_n 0, 1) := by decide +kernel
theorem dX0_below_25 : decode cX0_below 25 = .ok (.getfield 28, 3) := by decide +kernel
theorem dX0_below_28 : decode cX0_below 28 = .ok (.iload 4, 2) := by decide +kernel
theorem dX0_below_30 : decode cX0_below 30 = .ok (.baload, 1) := by decide +kernel
theorem dX0_below_31 : decode cX0_below 31 = .ok (.ifCond .eq 17, 3) := by decide +kernel
theorem dX0_below_34 : decode cX0_below 34 = .ok (.aload_n 0, 1) := by decide +kernel
theorem dX0_below_35 : decode cX0_below 35 = .ok (.getfield 16, 3) := by decide +kernel
theorem dX0_below_38 : decode cX0_below 38 = .ok (.iload 4, 2) := by decide +kernel
theorem dX0_below_40 : decode cX0_below 40 = .ok (.iaload, 1) := by decide +kernel
theorem dX0_below_41 : decode cX0_below 41 = .ok (.iload_n 2, 1) := by decide +kernel
theorem dX0_below_42 : decode cX0_below 42 = .ok (.if_icmp .ge 6, 3) := by decide +kernel
theorem dX0_below_45 : decode cX0_below 45 = .ok (.iinc 3 1, 3) := by decide +kernel
theorem dX0_below_48 : decode cX0_below 48 = .ok (.iinc 4 1, 3) := by decide +kernel
theorem dX0_below_51 : decode cX0_below 51 = .ok (.goto (-36), 3) := by decide +kernel
theorem dX0_below_54 : decode cX0_below 54 = .ok (.iload_n 3, 1) := by decide +kernel
theorem dX0_below_55 : decode cX0_below 55 = .ok (.ireturn, 1) := by decide +kernel
theorem dX0_has_0 : decode cX0_has 0 = .ok (.aload_n 0, 1) := by decide +kernel
theorem dX0_has_1 : decode cX0_has 1 = .ok (.iload_n 1, 1) := by decide +kernel
theorem dX0_has_2 : decode cX0_has 2 = .ok (.invokevirtual 70, 3) := by decide +kernel
theorem dX0_has_5 : decode cX0_has 5 = .ok (.iload_n 2, 1) := by decide +kernel
theorem dX0_has_6 : decode cX0_has 6 = .ok (.ifCond .lt 11, 3) := by decide +kernel
theorem dX0_has_9 : decode cX0_has 9 = .ok (.iload_n 2, 1) := by decide +kernel
theorem dX0_has_10 : decode cX0_has 10 = .ok (.aload_n 0, 1) := by decide +kernel
theorem dX0_has_11 : decode cX0_has 11 = .ok (.getfield 35, 3) := by decide +kernel
theorem dX0_has_14 : decode cX0_has 14 = .ok (.if_icmp .lt 13, 3) := by decide +kernel
theorem dX0_has_17 : decode cX0_has 17 = .ok (.new 105, 3) := by decide +kernel
theorem dX0_has_20 : decode cX0_has 20 = .ok (.dup, 1) := by decide +kernel
theorem dX0_has_21 : decode cX0_has 21 = .ok (.ldc 107, 2) := by decide +kernel
theorem dX0_has_23 : decode cX0_has 23 = .ok (.invokespecial 109, 3) := by decide +kernel
theorem dX0_has_26 : decode cX0_has 26 = .ok (.athrow, 1) := by decide +kernel
theorem dX0_has_27 : decode cX0_has 27 = .ok (.aload_n 0, 1) := by decide +kernel
theorem dX0_has_28 : decode cX0_has 28 = .ok (.iload_n 1, 1) := by decide +kernel
theorem dX0_has_29 : decode cX0_has 29 = .ok (.invokevirtual 75, 3) := by decide +kernel
theorem dX0_has_32 : decode cX0_has 32 = .ok (.aload_n 0, 1) := by decide +kernel
theorem dX0_has_33 : decode cX0_has 33 = .ok (.getfield 28, 3) := by decide +kernel
theorem dX0_has_36 : decode cX0_has 36 = .ok (.iload_n 2, 1) := by decide +kernel
theorem dX0_has_37 : decode cX0_has 37 = .ok (.baload, 1) := by decide +kernel
theorem dX0_has_38 : decode cX0_has 38 = .ok (.ireturn, 1) := by decide +kernel
theorem dX0_now_0 : decode cX0_now 0 = .ok (.aload_n 0, 1) := by decide +kernel
theorem dX0_now_1 : decode cX0_now 1 = .ok (.getfield 42, 3) := by decide +kernel
theorem dX0_now_4 : decode cX0_now 4 = .ok (.ireturn, 1) := by decide +kernel
theorem dX0_checkWindow_0 : decode cX0_checkWindow 0 = .ok (.iload_n 1, 1) := by decide +kernel
theorem dX0_checkWindow_1 : decode cX0_checkWindow 1 = .ok (.ifCond .lt 11, 3) := by decide +kernel
theorem dX0_checkWindow_4 : decode cX0_checkWindow 4 = .ok (.iload_n 1, 1) := by decide +kernel
theorem dX0_checkWindow_5 : decode cX0_checkWindow 5 = .ok (.aload_n 0, 1) := by decide +kernel
theorem dX0_checkWindow_6 : decode cX0_checkWindow 6 = .ok (.getfield 39, 3) := by decide +kernel
theorem dX0_checkWindow_9 : decode cX0_checkWindow 9 = .ok (.if_icmp .lt 13, 3) := by decide +kernel
theorem dX0_checkWindow_12 : decode cX0_checkWindow 12 = .ok (.new 105, 3) := by decide +kernel
theorem dX0_checkWindow_15 : decode cX0_checkWindow 15 = .ok (.dup, 1) := by decide +kernel
theorem dX0_checkWindow_16 : decode cX0_checkWindow 16 = .ok (.ldc 110, 2) := by decide +kernel
theorem dX0_checkWindow_18 : decode cX0_checkWindow 18 = .ok (.invokespecial 109, 3) := by decide +kernel
theorem dX0_checkWindow_21 : decode cX0_checkWindow 21 = .ok (.athrow, 1) := by decide +kernel
theorem dX0_checkWindow_22 : decode cX0_checkWindow 22 = .ok (.return_, 1) := by decide +kernel
theorem dX0_placeBySize_0 : decode cX0_placeBySize 0 = .ok (.iload_n 1, 1) := by decide +kernel
theorem dX0_placeBySize_1 : decode cX0_placeBySize 1 = .ok (.istore_n 2, 1) := by decide +kernel
theorem dX0_placeBySize_2 : decode cX0_placeBySize 2 = .ok (.iload_n 2, 1) := by decide +kernel
theorem dX0_placeBySize_3 : decode cX0_placeBySize 3 = .ok (.ifCond .le 45, 3) := by decide +kernel
theorem dX0_placeBySize_6 : decode cX0_placeBySize 6 = .ok (.aload_n 0, 1) := by decide +kernel
theorem dX0_placeBySize_7 : decode cX0_placeBySize 7 = .ok (.getfield 16, 3) := by decide +kernel
theorem dX0_placeBySize_10 : decode cX0_placeBySize 10 = .ok (.aload_n 0, 1) := by decide +kernel
theorem dX0_placeBySize_11 : decode cX0_placeBySize 11 = .ok (.getfield 19, 3) := by decide +kernel
theorem dX0_placeBySize_14 : decode cX0_placeBySize 14 = .ok (.iload_n 2, 1) := by decide +kernel
theorem dX0_placeBySize_15 : decode cX0_placeBySize 15 = .ok (.iconst 1, 1) := by decide +kernel
theorem dX0_placeBySize_16 : decode cX0_placeBySize 16 = .ok (.isub, 1) := by decide +kernel
theorem dX0_placeBySize_17 : decode cX0_placeBySize 17 = .ok (.iaload, 1) := by decide +kernel
theorem dX0_placeBySize_18 : decode cX0_placeBySize 18 = .ok (.iaload, 1) := by decide +kernel
theorem dX0_placeBySize_19 : decode cX0_placeBySize 19 = .ok (.aload_n 0, 1) := by decide +kernel
theorem dX0_placeBySize_20 : decode cX0_placeBySize 20 = .ok (.getfield 16, 3) := by decide +kernel
theorem dX0_placeBySize_23 : decode cX0_placeBySize 23 = .ok (.iload_n 1, 1) := by decide +kernel
theorem dX0_placeBySize_24 : decode cX0_placeBySize 24 = .ok (.iaload, 1) := by decide +kernel
theorem dX0_placeBySize_25 : decode cX0_placeBySize 25 = .ok (.if_icmp .le 23, 3) := by decide +kernel
theorem dX0_placeBySize_28 : decode cX0_placeBySize 28 = .ok (.aload_n 0, 1) := by decide +kernel
theorem dX0_placeBySize_29 : decode cX0_placeBySize 29 = .ok (.getfield 19, 3) := by decide +kernel
theorem dX0_placeBySize_32 : decode cX0_placeBySize 32 = .ok (.iload_n 2, 1) := by decide +kernel
theorem dX0_placeBySize_33 : decode cX0_placeBySize 33 = .ok (.aload_n 0, 1) := by decide +kernel
theorem dX0_placeBySize_34 : decode cX0_placeBySize 34 = .ok (.getfield 19, 3) := by decide +kernel
theorem dX0_placeBySize_37 : decode cX0_placeBySize 37 = .ok (.iload_n 2, 1) := by decide +kernel
theorem dX0_placeBySize_38 : decode cX0_placeBySize 38 = .ok (.iconst 1, 1) := by decide +kernel
theorem dX0_placeBySize_39 : decode cX0_placeBySize 39 = .ok (.isub, 1) := by decide +kernel
theorem dX0_placeBySize_40 : decode cX0_placeBySize 40 = .ok (.iaload, 1) := by decide +kernel
theorem dX0_placeBySize_41 : decode cX0_placeBySize 41 = .ok (.iastore, 1) := by decide +kernel
theorem dX0_placeBySize_42 : decode cX0_placeBySize 42 = .ok (.iinc 2 (-1), 3) := by decide +kernel
theorem dX0_placeBySize_45 : decode cX0_placeBySize 45 = .ok (.goto (-43), 3) := by decide +kernel
theorem dX0_placeBySize_48 : decode cX0_placeBySize 48 = .ok (.aload_n 0, 1) := by decide +kernel
theorem dX0_placeBySize_49 : decode cX0_placeBySize 49 = .ok (.getfield 19, 3) := by decide +kernel
theorem dX0_placeBySize_52 : decode cX0_placeBySize 52 = .ok (.iload_n 2, 1) := by decide +kernel
theorem dX0_placeBySize_53 : decode cX0_placeBySize 53 = .ok (.iload_n 1, 1) := by decide +kernel
theorem dX0_placeBySize_54 : decode cX0_placeBySize 54 = .ok (.iastore, 1) := by decide +kernel
theorem dX0_placeBySize_55 : decode cX0_placeBySize 55 = .ok (.return_, 1) := by decide +kernel
theorem dX0_markInside_0 : decode cX0_markInside 0 = .ok (.aload_n 0, 1) := by decide +kernel
theorem dX0_markInside_1 : decode cX0_markInside 1 = .ok (.getfield 25, 3) := by decide +kernel
theorem dX0_markInside_4 : decode cX0_markInside 4 = .ok (.iload_n 1, 1) := by decide +kernel
theorem dX0_markInside_5 : decode cX0_markInside 5 = .ok (.iaload, 1) := by decide +kernel
theorem dX0_markInside_6 : decode cX0_markInside 6 = .ok (.istore_n 2, 1) := by decide +kernel
theorem dX0_markInside_7 : decode cX0_markInside 7 = .ok (.aload_n 0, 1) := by decide +kernel
theorem dX0_markInside_8 : decode cX0_markInside 8 = .ok (.getfield 22, 3) := by decide +kernel
theorem dX0_markInside_11 : decode cX0_markInside 11 = .ok (.iload_n 1, 1) := by decide +kernel
theorem dX0_markInside_12 : decode cX0_markInside 12 = .ok (.iaload, 1) := by decide +kernel
theorem dX0_markInside_13 : decode cX0_markInside 13 = .ok (.tableswitch 75 0 4 #[35, 43, 51, 59, 67], 35) := by decide +kernel
theorem dX0_markInside_48 : decode cX0_markInside 48 = .ok (.aload_n 0, 1) := by decide +kernel
theorem dX0_markInside_49 : decode cX0_markInside 49 = .ok (.iload_n 2, 1) := by decide +kernel
theorem dX0_markInside_50 : decode cX0_markInside 50 = .ok (.invokevirtual 112, 3) := by decide +kernel
theorem dX0_markInside_53 : decode cX0_markInside 53 = .ok (.goto 40, 3) := by decide +kernel
theorem dX0_markInside_56 : decode cX0_markInside 56 = .ok (.aload_n 0, 1) := by decide +kernel
theorem dX0_markInside_57 : decode cX0_markInside 57 = .ok (.iload_n 2, 1) := by decide +kernel
theorem dX0_markInside_58 : decode cX0_markInside 58 = .ok (.invokevirtual 115, 3) := by decide +kernel
theorem dX0_markInside_61 : decode cX0_markInside 61 = .ok (.goto 32, 3) := by decide +kernel
theorem dX0_markInside_64 : decode cX0_markInside 64 = .ok (.aload_n 0, 1) := by decide +kernel
theorem dX0_markInside_65 : decode cX0_markInside 65 = .ok (.iload_n 2, 1) := by decide +kernel
theorem dX0_markInside_66 : decode cX0_markInside 66 = .ok (.invokevirtual 118, 3) := by decide +kernel
theorem dX0_markInside_69 : decode cX0_markInside 69 = .ok (.goto 24, 3) := by decide +kernel
theorem dX0_markInside_72 : decode cX0_markInside 72 = .ok (.aload_n 0, 1) := by decide +kernel
theorem dX0_markInside_73 : decode cX0_markInside 73 = .ok (.iload_n 2, 1) := by decide +kernel
theorem dX0_markInside_74 : decode cX0_markInside 74 = .ok (.invokevirtual 121, 3) := by decide +kernel
theorem dX0_markInside_77 : decode cX0_markInside 77 = .ok (.goto 16, 3) := by decide +kernel
theorem dX0_markInside_80 : decode cX0_markInside 80 = .ok (.aload_n 0, 1) := by decide +kernel
theorem dX0_markInside_81 : decode cX0_markInside 81 = .ok (.iload_n 2, 1) := by decide +kernel
theorem dX0_markInside_82 : decode cX0_markInside 82 = .ok (.invokevirtual 124, 3) := by decide +kernel
theorem dX0_markInside_85 : decode cX0_markInside 85 = .ok (.goto 8, 3) := by decide +kernel
theorem dX0_markInside_88 : decode cX0_markInside 88 = .ok (.aload_n 0, 1) := by decide +kernel
theorem dX0_markInside_89 : decode cX0_markInside 89 = .ok (.iload_n 2, 1) := by decide +kernel
theorem dX0_markInside_90 : decode cX0_markInside 90 = .ok (.invokevirtual 127, 3) := by decide +kernel
theorem dX0_markInside_93 : decode cX0_markInside 93 = .ok (.return_, 1) := by decide +kernel
theorem dX0_markRange_0 : decode cX0_markRange 0 = .ok (.iconst 0, 1) := by decide +kernel
theorem dX0_markRange_1 : decode cX0_markRange 1 = .ok (.istore_n 2, 1) := by decide +kernel
theorem dX0_markRange_2 : decode cX0_markRange 2 = .ok (.iload_n 2, 1) := by decide +kernel
theorem dX0_markRange_3 : decode cX0_markRange 3 = .ok (.aload_n 0, 1) := by decide +kernel
theorem dX0_markRange_4 : decode cX0_markRange 4 = .ok (.getfield 35, 3) := by decide +kernel
theorem dX0_markRange_7 : decode cX0_markRange 7 = .ok (.if_icmp .ge 35, 3) := by decide +kernel
theorem dX0_markRange_10 : decode cX0_markRange 10 = .ok (.aload_n 0, 1) := by decide +kernel
theorem dX0_markRange_11 : decode cX0_markRange 11 = .ok (.getfield 28, 3) := by decide +kernel
theorem dX0_markRange_14 : decode cX0_markRange 14 = .ok (.iload_n 2, 1) := by decide +kernel
theorem dX0_markRange_15 : decode cX0_markRange 15 = .ok (.aload_n 0, 1) := by decide +kernel
theorem dX0_markRange_16 : decode cX0_markRange 16 = .ok (.getfield 9, 3) := by decide +kernel
theorem dX0_markRange_19 : decode cX0_markRange 19 = .ok (.iload_n 2, 1) := by decide +kernel
theorem dX0_markRange_20 : decode cX0_markRange 20 = .ok (.iaload, 1) := by decide +kernel
theorem dX0_markRange_21 : decode cX0_markRange 21 = .ok (.aload_n 0, 1) := by decide +kernel
theorem dX0_markRange_22 : decode cX0_markRange 22 = .ok (.getfield 42, 3) := by decide +kernel
theorem dX0_markRange_25 : decode cX0_markRange 25 = .ok (.iload_n 1, 1) := by decide +kernel
theorem dX0_markRange_26 : decode cX0_markRange 26 = .ok (.isub, 1) := by decide +kernel
theorem dX0_markRange_27 : decode cX0_markRange 27 = .ok (.if_icmp .lt 7, 3) := by decide +kernel
theorem dX0_markRange_30 : decode cX0_markRange 30 = .ok (.iconst 1, 1) := by decide +kernel
theorem dX0_markRange_31 : decode cX0_markRange 31 = .ok (.goto 4, 3) := by decide +kernel
theorem dX0_markRange_34 : decode cX0_markRange 34 = .ok (.iconst 0, 1) := by decide +kernel
theorem dX0_markRange_35 : decode cX0_markRange 35 = .ok (.bastore, 1) := by decide +kernel
theorem dX0_markRange_36 : decode cX0_markRange 36 = .ok (.iinc 2 1, 3) := by decide +kernel
theorem dX0_markRange_39 : decode cX0_markRange 39 = .ok (.goto (-37), 3) := by decide +kernel
theorem dX0_markRange_42 : decode cX0_markRange 42 = .ok (.return_, 1) := by decide +kernel
theorem dX0_markRows_0 : decode cX0_markRows 0 = .ok (.iconst 0, 1) := by decide +kernel
theorem dX0_markRows_1 : decode cX0_markRows 1 = .ok (.istore_n 2, 1) := by decide +kernel
theorem dX0_markRows_2 : decode cX0_markRows 2 = .ok (.iload_n 2, 1) := by decide +kernel
theorem dX0_markRows_3 : decode cX0_markRows 3 = .ok (.aload_n 0, 1) := by decide +kernel
theorem dX0_markRows_4 : decode cX0_markRows 4 = .ok (.getfield 35, 3) := by decide +kernel
theorem dX0_markRows_7 : decode cX0_markRows 7 = .ok (.if_icmp .ge 30, 3) := by decide +kernel
theorem dX0_markRows_10 : decode cX0_markRows 10 = .ok (.aload_n 0, 1) := by decide +kernel
theorem dX0_markRows_11 : decode cX0_markRows 11 = .ok (.getfield 28, 3) := by decide +kernel
theorem dX0_markRows_14 : decode cX0_markRows 14 = .ok (.iload_n 2, 1) := by decide +kernel
theorem dX0_markRows_15 : decode cX0_markRows 15 = .ok (.iload_n 2, 1) := by decide +kernel
theorem dX0_markRows_16 : decode cX0_markRows 16 = .ok (.aload_n 0, 1) := by decide +kernel
theorem dX0_markRows_17 : decode cX0_markRows 17 = .ok (.getfield 35, 3) := by decide +kernel
theorem dX0_markRows_20 : decode cX0_markRows 20 = .ok (.iload_n 1, 1) := by decide +kernel
theorem dX0_markRows_21 : decode cX0_markRows 21 = .ok (.isub, 1) := by decide +kernel
theorem dX0_markRows_22 : decode cX0_markRows 22 = .ok (.if_icmp .lt 7, 3) := by decide +kernel
theorem dX0_markRows_25 : decode cX0_markRows 25 = .ok (.iconst 1, 1) := by decide +kernel
theorem dX0_markRows_26 : decode cX0_markRows 26 = .ok (.goto 4, 3) := by decide +kernel
theorem dX0_markRows_29 : decode cX0_markRows 29 = .ok (.iconst 0, 1) := by decide +kernel
theorem dX0_markRows_30 : decode cX0_markRows 30 = .ok (.bastore, 1) := by decide +kernel
theorem dX0_markRows_31 : decode cX0_markRows 31 = .ok (.iinc 2 1, 3) := by decide +kernel
theorem dX0_markRows_34 : decode cX0_markRows 34 = .ok (.goto (-32), 3) := by decide +kernel
theorem dX0_markRows_37 : decode cX0_markRows 37 = .ok (.return_, 1) := by decide +kernel
theorem dX0_markKeys_0 : decode cX0_markKeys 0 = .ok (.aload_n 0, 1) := by decide +kernel
theorem dX0_markKeys_1 : decode cX0_markKeys 1 = .ok (.getfield 32, 3) := by decide +kernel
theorem dX0_markKeys_4 : decode cX0_markKeys 4 = .ok (.iconst 0, 1) := by decide +kernel
theorem dX0_markKeys_5 : decode cX0_markKeys 5 = .ok (.invokestatic 130, 3) := by decide +kernel
theorem dX0_markKeys_8 : decode cX0_markKeys 8 = .ok (.aload_n 0, 1) := by decide +kernel
theorem dX0_markKeys_9 : decode cX0_markKeys 9 = .ok (.getfield 35, 3) := by decide +kernel
theorem dX0_markKeys_12 : decode cX0_markKeys 12 = .ok (.iconst 1, 1) := by decide +kernel
theorem dX0_markKeys_13 : decode cX0_markKeys 13 = .ok (.isub, 1) := by decide +kernel
theorem dX0_markKeys_14 : decode cX0_markKeys 14 = .ok (.istore_n 2, 1) := by decide +kernel
theorem dX0_markKeys_15 : decode cX0_markKeys 15 = .ok (.iload_n 2, 1) := by decide +kernel
theorem dX0_markKeys_16 : decode cX0_markKeys 16 = .ok (.ifCond .lt 47, 3) := by decide +kernel
theorem dX0_markKeys_19 : decode cX0_markKeys 19 = .ok (.aload_n 0, 1) := by decide +kernel
theorem dX0_markKeys_20 : decode cX0_markKeys 20 = .ok (.getfield 13, 3) := by decide +kernel
theorem dX0_markKeys_23 : decode cX0_markKeys 23 = .ok (.iload_n 2, 1) := by decide +kernel
theorem dX0_markKeys_24 : decode cX0_markKeys 24 = .ok (.iaload, 1) := by decide +kernel
theorem dX0_markKeys_25 : decode cX0_markKeys 25 = .ok (.istore_n 3, 1) := by decide +kernel
theorem dX0_markKeys_26 : decode cX0_markKeys 26 = .ok (.aload_n 0, 1) := by decide +kernel
theorem dX0_markKeys_27 : decode cX0_markKeys 27 = .ok (.getfield 28, 3) := by decide +kernel
theorem dX0_markKeys_30 : decode cX0_markKeys 30 = .ok (.iload_n 2, 1) := by decide +kernel
theorem dX0_markKeys_31 : decode cX0_markKeys 31 = .ok (.aload_n 0, 1) := by decide +kernel
theorem dX0_markKeys_32 : decode cX0_markKeys 32 = .ok (.getfield 32, 3) := by decide +kernel
theorem dX0_markKeys_35 : decode cX0_markKeys 35 = .ok (.iload_n 3, 1) := by decide +kernel
theorem dX0_markKeys_36 : decode cX0_markKeys 36 = .ok (.iaload, 1) := by decide +kernel
theorem dX0_markKeys_37 : decode cX0_markKeys 37 = .ok (.iload_n 1, 1) := by decide +kernel
theorem dX0_markKeys_38 : decode cX0_markKeys 38 = .ok (.if_icmp .ge 7, 3) := by decide +kernel
theorem dX0_markKeys_41 : decode cX0_markKeys 41 = .ok (.iconst 1, 1) := by decide +kernel
theorem dX0_markKeys_42 : decode cX0_markKeys 42 = .ok (.goto 4, 3) := by decide +kernel
theorem dX0_markKeys_45 : decode cX0_markKeys 45 = .ok (.iconst 0, 1) := by decide +kernel
theorem dX0_markKeys_46 : decode cX0_markKeys 46 = .ok (.bastore, 1) := by decide +kernel
theorem dX0_markKeys_47 : decode cX0_markKeys 47 = .ok (.aload_n 0, 1) := by decide +kernel
theorem dX0_markKeys_48 : decode cX0_markKeys 48 = .ok (.getfield 32, 3) := by decide +kernel
theorem dX0_markKeys_51 : decode cX0_markKeys 51 = .ok (.iload_n 3, 1) := by decide +kernel
theorem dX0_markKeys_52 : decode cX0_markKeys 52 = .ok (.dup2, 1) := by decide +kernel
theorem dX0_markKeys_53 : decode cX0_markKeys 53 = .ok (.iaload, 1) := by decide +kernel
theorem dX0_markKeys_54 : decode cX0_markKeys 54 = .ok (.iconst 1, 1) := by decide +kernel
theorem dX0_markKeys_55 : decode cX0_markKeys 55 = .ok (.iadd, 1) := by decide +kernel
theorem dX0_markKeys_56 : decode cX0_markKeys 56 = .ok (.iastore, 1) := by decide +kernel
theorem dX0_markKeys_57 : decode cX0_markKeys 57 = .ok (.iinc 2 (-1), 3) := by decide +kernel
theorem dX0_markKeys_60 : decode cX0_markKeys 60 = .ok (.goto (-45), 3) := by decide +kernel
theorem dX0_markKeys_63 : decode cX0_markKeys 63 = .ok (.return_, 1) := by decide +kernel
theorem dX0_markBlock_0 : decode cX0_markBlock 0 = .ok (.iload_n 1, 1) := by decide +kernel
theorem dX0_markBlock_1 : decode cX0_markBlock 1 = .ok (.ifCond .le 7, 3) := by decide +kernel
theorem dX0_markBlock_4 : decode cX0_markBlock 4 = .ok (.iload_n 1, 1) := by decide +kernel
theorem dX0_markBlock_5 : decode cX0_markBlock 5 = .ok (.goto 4, 3) := by decide +kernel
theorem dX0_markBlock_8 : decode cX0_markBlock 8 = .ok (.iconst 1, 1) := by decide +kernel
theorem dX0_markBlock_9 : decode cX0_markBlock 9 = .ok (.istore_n 2, 1) := by decide +kernel
theorem dX0_markBlock_10 : decode cX0_markBlock 10 = .ok (.aload_n 0, 1) := by decide +kernel
theorem dX0_markBlock_11 : decode cX0_markBlock 11 = .ok (.getfield 42, 3) := by decide +kernel
theorem dX0_markBlock_14 : decode cX0_markBlock 14 = .ok (.iload_n 2, 1) := by decide +kernel
theorem dX0_markBlock_15 : decode cX0_markBlock 15 = .ok (.idiv, 1) := by decide +kernel
theorem dX0_markBlock_16 : decode cX0_markBlock 16 = .ok (.istore_n 3, 1) := by decide +kernel
theorem dX0_markBlock_17 : decode cX0_markBlock 17 = .ok (.iconst 0, 1) := by decide +kernel
theorem dX0_markBlock_18 : decode cX0_markBlock 18 = .ok (.istore 4, 2) := by decide +kernel
theorem dX0_markBlock_20 : decode cX0_markBlock 20 = .ok (.iload 4, 2) := by decide +kernel
theorem dX0_markBlock_22 : decode cX0_markBlock 22 = .ok (.aload_n 0, 1) := by decide +kernel
theorem dX0_markBlock_23 : decode cX0_markBlock 23 = .ok (.getfield 35, 3) := by decide +kernel
theorem dX0_markBlock_26 : decode cX0_markBlock 26 = .ok (.if_icmp .ge 34, 3) := by decide +kernel
theorem dX0_markBlock_29 : decode cX0_markBlock 29 = .ok (.aload_n 0, 1) := by decide +kernel
theorem dX0_markBlock_30 : decode cX0_markBlock 30 = .ok (.getfield 28, 3) := by decide +kernel
theorem dX0_markBlock_33 : decode cX0_markBlock 33 = .ok (.iload 4, 2) := by decide +kernel
theorem dX0_markBlock_35 : decode cX0_markBlock 35 = .ok (.aload_n 0, 1) := by decide +kernel
theorem dX0_markBlock_36 : decode cX0_markBlock 36 = .ok (.getfield 9, 3) := by decide +kernel
theorem dX0_markBlock_39 : decode cX0_markBlock 39 = .ok (.iload 4, 2) := by decide +kernel
theorem dX0_markBlock_41 : decode cX0_markBlock 41 = .ok (.iaload, 1) := by decide +kernel
theorem dX0_markBlock_42 : decode cX0_markBlock 42 = .ok (.iload_n 2, 1) := by decide +kernel
theorem dX0_markBlock_43 : decode cX0_markBlock 43 = .ok (.idiv, 1) := by decide +kernel
theorem dX0_markBlock_44 : decode cX0_markBlock 44 = .ok (.iload_n 3, 1) := by decide +kernel
theorem dX0_markBlock_45 : decode cX0_markBlock 45 = .ok (.if_icmp .ne 7, 3) := by decide +kernel
theorem dX0_markBlock_48 : decode cX0_markBlock 48 = .ok (.iconst 1, 1) := by decide +kernel
theorem dX0_markBlock_49 : decode cX0_markBlock 49 = .ok (.goto 4, 3) := by decide +kernel
theorem dX0_markBlock_52 : decode cX0_markBlock 52 = .ok (.iconst 0, 1) := by decide +kernel
theorem dX0_markBlock_53 : decode cX0_markBlock 53 = .ok (.bastore, 1) := by decide +kernel
theorem dX0_markBlock_54 : decode cX0_markBlock 54 = .ok (.iinc 4 1, 3) := by decide +kernel
theorem dX0_markBlock_57 : decode cX0_markBlock 57 = .ok (.goto (-37), 3) := by decide +kernel
theorem dX0_markBlock_60 : decode cX0_markBlock 60 = .ok (.return_, 1) := by decide +kernel
theorem dX0_markRun_0 : decode cX0_markRun 0 = .ok (.aload_n 0, 1) := by decide +kernel
theorem dX0_markRun_1 : decode cX0_markRun 1 = .ok (.getfield 42, 3) := by decide +kernel
theorem dX0_markRun_4 : decode cX0_markRun 4 = .ok (.istore_n 2, 1) := by decide +kernel
theorem dX0_markRun_5 : decode cX0_markRun 5 = .ok (.iconst 1, 1) := by decide +kernel
theorem dX0_markRun_6 : decode cX0_markRun 6 = .ok (.istore_n 3, 1) := by decide +kernel
theorem dX0_markRun_7 : decode cX0_markRun 7 = .ok (.aload_n 0, 1) := by decide +kernel
theorem dX0_markRun_8 : decode cX0_markRun 8 = .ok (.getfield 35, 3) := by decide +kernel
theorem dX0_markRun_11 : decode cX0_markRun 11 = .ok (.iconst 1, 1) := by decide +kernel
theorem dX0_markRun_12 : decode cX0_markRun 12 = .ok (.isub, 1) := by decide +kernel
theorem dX0_markRun_13 : decode cX0_markRun 13 = .ok (.istore 4, 2) := by decide +kernel
theorem dX0_markRun_15 : decode cX0_markRun 15 = .ok (.iload 4, 2) := by decide +kernel
theorem dX0_markRun_17 : decode cX0_markRun 17 = .ok (.ifCond .lt 48, 3) := by decide +kernel
theorem dX0_markRun_20 : decode cX0_markRun 20 = .ok (.iload_n 3, 1) := by decide +kernel
theorem dX0_markRun_21 : decode cX0_markRun 21 = .ok (.ifCond .eq 20, 3) := by decide +kernel
theorem dX0_markRun_24 : decode cX0_markRun 24 = .ok (.aload_n 0, 1) := by decide +kernel
theorem dX0_markRun_25 : decode cX0_markRun 25 = .ok (.getfield 9, 3) := by decide +kernel
theorem dX0_markRun_28 : decode cX0_markRun 28 = .ok (.iload 4, 2) := by decide +kernel
theorem dX0_markRun_30 : decode cX0_markRun 30 = .ok (.iaload, 1) := by decide +kernel
theorem dX0_markRun_31 : decode cX0_markRun 31 = .ok (.iload_n 2, 1) := by decide +kernel
theorem dX0_markRun_32 : decode cX0_markRun 32 = .ok (.iload_n 1, 1) := by decide +kernel
theorem dX0_markRun_33 : decode cX0_markRun 33 = .ok (.isub, 1) := by decide +kernel
theorem dX0_markRun_34 : decode cX0_markRun 34 = .ok (.if_icmp .lt 7, 3) := by decide +kernel
theorem dX0_markRun_37 : decode cX0_markRun 37 = .ok (.iconst 1, 1) := by decide +kernel
theorem dX0_markRun_38 : decode cX0_markRun 38 = .ok (.goto 4, 3) := by decide +kernel
theorem dX0_markRun_41 : decode cX0_markRun 41 = .ok (.iconst 0, 1) := by decide +kernel
theorem dX0_markRun_42 : decode cX0_markRun 42 = .ok (.istore_n 3, 1) := by decide +kernel
theorem dX0_markRun_43 : decode cX0_markRun 43 = .ok (.aload_n 0, 1) := by decide +kernel
theorem dX0_markRun_44 : decode cX0_markRun 44 = .ok (.getfield 28, 3) := by decide +kernel
theorem dX0_markRun_47 : decode cX0_markRun 47 = .ok (.iload 4, 2) := by decide +kernel
theorem dX0_markRun_49 : decode cX0_markRun 49 = .ok (.iload_n 3, 1) := by decide +kernel
theorem dX0_markRun_50 : decode cX0_markRun 50 = .ok (.bastore, 1) := by decide +kernel
theorem dX0_markRun_51 : decode cX0_markRun 51 = .ok (.aload_n 0, 1) := by decide +kernel
theorem dX0_markRun_52 : decode cX0_markRun 52 = .ok (.getfield 9, 3) := by decide +kernel
theorem dX0_markRun_55 : decode cX0_markRun 55 = .ok (.iload 4, 2) := by decide +kernel
theorem dX0_markRun_57 : decode cX0_markRun 57 = .ok (.iaload, 1) := by decide +kernel
theorem dX0_markRun_58 : decode cX0_markRun 58 = .ok (.istore_n 2, 1) := by decide +kernel
theorem dX0_markRun_59 : decode cX0_markRun 59 = .ok (.iinc 4 (-1), 3) := by decide +kernel
theorem dX0_markRun_62 : decode cX0_markRun 62 = .ok (.goto (-47), 3) := by decide +kernel
theorem dX0_markRun_65 : decode cX0_markRun 65 = .ok (.return_, 1) := by decide +kernel
theorem dX0_markOutside_0 : decode cX0_markOutside 0 = .ok (.iconst 0, 1) := by decide +kernel
theorem dX0_markOutside_1 : decode cX0_markOutside 1 = .ok (.istore_n 2, 1) := by decide +kernel
theorem dX0_markOutside_2 : decode cX0_markOutside 2 = .ok (.iload_n 2, 1) := by decide +kernel
theorem dX0_markOutside_3 : decode cX0_markOutside 3 = .ok (.aload_n 0, 1) := by decide +kernel
theorem dX0_markOutside_4 : decode cX0_markOutside 4 = .ok (.getfield 35, 3) := by decide +kernel
theorem dX0_markOutside_7 : decode cX0_markOutside 7 = .ok (.if_icmp .ge 35, 3) := by decide +kernel
theorem dX0_markOutside_10 : decode cX0_markOutside 10 = .ok (.aload_n 0, 1) := by decide +kernel
theorem dX0_markOutside_11 : decode cX0_markOutside 11 = .ok (.getfield 28, 3) := by decide +kernel
theorem dX0_markOutside_14 : decode cX0_markOutside 14 = .ok (.iload_n 2, 1) := by decide +kernel
theorem dX0_markOutside_15 : decode cX0_markOutside 15 = .ok (.aload_n 0, 1) := by decide +kernel
theorem dX0_markOutside_16 : decode cX0_markOutside 16 = .ok (.getfield 9, 3) := by decide +kernel
theorem dX0_markOutside_19 : decode cX0_markOutside 19 = .ok (.iload_n 2, 1) := by decide +kernel
theorem dX0_markOutside_20 : decode cX0_markOutside 20 = .ok (.iaload, 1) := by decide +kernel
theorem dX0_markOutside_21 : decode cX0_markOutside 21 = .ok (.aload_n 0, 1) := by decide +kernel
theorem dX0_markOutside_22 : decode cX0_markOutside 22 = .ok (.getfield 42, 3) := by decide +kernel
theorem dX0_markOutside_25 : decode cX0_markOutside 25 = .ok (.iload_n 1, 1) := by decide +kernel
theorem dX0_markOutside_26 : decode cX0_markOutside 26 = .ok (.isub, 1) := by decide +kernel
theorem dX0_markOutside_27 : decode cX0_markOutside 27 = .ok (.if_icmp .ge 7, 3) := by decide +kernel
theorem dX0_markOutside_30 : decode cX0_markOutside 30 = .ok (.iconst 1, 1) := by decide +kernel
theorem dX0_markOutside_31 : decode cX0_markOutside 31 = .ok (.goto 4, 3) := by decide +kernel
theorem dX0_markOutside_34 : decode cX0_markOutside 34 = .ok (.iconst 0, 1) := by decide +kernel
theorem dX0_markOutside_35 : decode cX0_markOutside 35 = .ok (.bastore, 1) := by decide +kernel
theorem dX0_markOutside_36 : decode cX0_markOutside 36 = .ok (.iinc 2 1, 3) := by decide +kernel
theorem dX0_markOutside_39 : decode cX0_markOutside 39 = .ok (.goto (-37), 3) := by decide +kernel
theorem dX0_markOutside_42 : decode cX0_markOutside 42 = .ok (.return_, 1) := by decide +kernel
theorem dX0_countInside_0 : decode cX0_countInside 0 = .ok (.iconst 0, 1) := by decide +kernel
theorem dX0_countInside_1 : decode cX0_countInside 1 = .ok (.istore_n 1, 1) := by decide +kernel
theorem dX0_countInside_2 : decode cX0_countInside 2 = .ok (.iconst 0, 1) := by decide +kernel
theorem dX0_countInside_3 : decode cX0_countInside 3 = .ok (.istore_n 2, 1) := by decide +kernel
theorem dX0_countInside_4 : decode cX0_countInside 4 = .ok (.iload_n 2, 1) := by decide +kernel
theorem dX0_countInside_5 : decode cX0_countInside 5 = .ok (.aload_n 0, 1) := by decide +kernel
theorem dX0_countInside_6 : decode cX0_countInside 6 = .ok (.getfield 35, 3) := by decide +kernel
theorem dX0_countInside_9 : decode cX0_countInside 9 = .ok (.if_icmp .ge 21, 3) := by decide +kernel
theorem dX0_countInside_12 : decode cX0_countInside 12 = .ok (.aload_n 0, 1) := by decide +kernel
theorem dX0_countInside_13 : decode cX0_countInside 13 = .ok (.getfield 28, 3) := by decide +kernel
theorem dX0_countInside_16 : decode cX0_countInside 16 = .ok (.iload_n 2, 1) := by decide +kernel
theorem dX0_countInside_17 : decode cX0_countInside 17 = .ok (.baload, 1) := by decide +kernel
theorem dX0_countInside_18 : decode cX0_countInside 18 = .ok (.ifCond .eq 6, 3) := by decide +kernel
theorem dX0_countInside_21 : decode cX0_countInside 21 = .ok (.iinc 1 1, 3) := by decide +kernel
theorem dX0_countInside_24 : decode cX0_countInside 24 = .ok (.iinc 2 1, 3) := by decide +kernel
theorem dX0_countInside_27 : decode cX0_countInside 27 = .ok (.goto (-23), 3) := by decide +kernel
theorem dX0_countInside_30 : decode cX0_countInside 30 = .ok (.iload_n 1, 1) := by decide +kernel
theorem dX0_countInside_31 : decode cX0_countInside 31 = .ok (.ireturn, 1) := by decide +kernel
theorem dX0_sumInside_0 : decode cX0_sumInside 0 = .ok (.iconst 0, 1) := by decide +kernel
theorem dX0_sumInside_1 : decode cX0_sumInside 1 = .ok (.istore_n 1, 1) := by decide +kernel
theorem dX0_sumInside_2 : decode cX0_sumInside 2 = .ok (.iconst 0, 1) := by decide +kernel
theorem dX0_sumInside_3 : decode cX0_sumInside 3 = .ok (.istore_n 2, 1) := by decide +kernel
theorem dX0_sumInside_4 : decode cX0_sumInside 4 = .ok (.iload_n 2, 1) := by decide +kernel
theorem dX0_sumInside_5 : decode cX0_sumInside 5 = .ok (.aload_n 0, 1) := by decide +kernel
theorem dX0_sumInside_6 : decode cX0_sumInside 6 = .ok (.getfield 35, 3) := by decide +kernel
theorem dX0_sumInside_9 : decode cX0_sumInside 9 = .ok (.if_icmp .ge 27, 3) := by decide +kernel
theorem dX0_sumInside_12 : decode cX0_sumInside 12 = .ok (.aload_n 0, 1) := by decide +kernel
theorem dX0_sumInside_13 : decode cX0_sumInside 13 = .ok (.getfield 28, 3) := by decide +kernel
theorem dX0_sumInside_16 : decode cX0_sumInside 16 = .ok (.iload_n 2, 1) := by decide +kernel
theorem dX0_sumInside_17 : decode cX0_sumInside 17 = .ok (.baload, 1) := by decide +kernel
theorem dX0_sumInside_18 : decode cX0_sumInside 18 = .ok (.ifCond .eq 12, 3) := by decide +kernel
theorem dX0_sumInside_21 : decode cX0_sumInside 21 = .ok (.iload_n 1, 1) := by decide +kernel
theorem dX0_sumInside_22 : decode cX0_sumInside 22 = .ok (.aload_n 0, 1) := by decide +kernel
theorem dX0_sumInside_23 : decode cX0_sumInside 23 = .ok (.getfield 16, 3) := by decide +kernel
theorem dX0_sumInside_26 : decode cX0_sumInside 26 = .ok (.iload_n 2, 1) := by decide +kernel
theorem dX0_sumInside_27 : decode cX0_sumInside 27 = .ok (.iaload, 1) := by decide +kernel
theorem dX0_sumInside_28 : decode cX0_sumInside 28 = .ok (.iadd, 1) := by decide +kernel
theorem dX0_sumInside_29 : decode cX0_sumInside 29 = .ok (.istore_n 1, 1) := by decide +kernel
theorem dX0_sumInside_30 : decode cX0_sumInside 30 = .ok (.iinc 2 1, 3) := by decide +kernel
theorem dX0_sumInside_33 : decode cX0_sumInside 33 = .ok (.goto (-29), 3) := by decide +kernel
theorem dX0_sumInside_36 : decode cX0_sumInside 36 = .ok (.iload_n 1, 1) := by decide +kernel
theorem dX0_sumInside_37 : decode cX0_sumInside 37 = .ok (.ireturn, 1) := by decide +kernel
theorem dX0_countUnlike_0 : decode cX0_countUnlike 0 = .ok (.iconst 0, 1) := by decide +kernel
theorem dX0_countUnlike_1 : decode cX0_countUnlike 1 = .ok (.istore_n 1, 1) := by decide +kernel
theorem dX0_countUnlike_2 : decode cX0_countUnlike 2 = .ok (.iconst (-1), 1) := by decide +kernel
theorem dX0_countUnlike_3 : decode cX0_countUnlike 3 = .ok (.istore_n 2, 1) := by decide +kernel
theorem dX0_countUnlike_4 : decode cX0_countUnlike 4 = .ok (.iconst 0, 1) := by decide +kernel
theorem dX0_countUnlike_5 : decode cX0_countUnlike 5 = .ok (.istore_n 3, 1) := by decide +kernel
theorem dX0_countUnlike_6 : decode cX0_countUnlike 6 = .ok (.iload_n 3, 1) := by decide +kernel
theorem dX0_countUnlike_7 : decode cX0_countUnlike 7 = .ok (.aload_n 0, 1) := by decide +kernel
theorem dX0_countUnlike_8 : decode cX0_countUnlike 8 = .ok (.getfield 35, 3) := by decide +kernel
theorem dX0_countUnlike_11 : decode cX0_countUnlike 11 = .ok (.if_icmp .ge 54, 3) := by decide +kernel
theorem dX0_countUnlike_14 : decode cX0_countUnlike 14 = .ok (.aload_n 0, 1) := by decide +kernel
theorem dX0_countUnlike_15 : decode cX0_countUnlike 15 = .ok (.getfield 19, 3) := by decide +kernel
theorem dX0_countUnlike_18 : decode cX0_countUnlike 18 = .ok (.iload_n 3, 1) := by decide +kernel
theorem dX0_countUnlike_19 : decode cX0_countUnlike 19 = .ok (.iaload, 1) := by decide +kernel
theorem dX0_countUnlike_20 : decode cX0_countUnlike 20 = .ok (.istore 4, 2) := by decide +kernel
theorem dX0_countUnlike_22 : decode cX0_countUnlike 22 = .ok (.aload_n 0, 1) := by decide +kernel
theorem dX0_countUnlike_23 : decode cX0_countUnlike 23 = .ok (.getfield 28, 3) := by decide +kernel
theorem dX0_countUnlike_26 : decode cX0_countUnlike 26 = .ok (.iload 4, 2) := by decide +kernel
theorem dX0_countUnlike_28 : decode cX0_countUnlike 28 = .ok (.baload, 1) := by decide +kernel
theorem dX0_countUnlike_29 : decode cX0_countUnlike 29 = .ok (.ifCond .eq 30, 3) := by decide +kernel
theorem dX0_countUnlike_32 : decode cX0_countUnlike 32 = .ok (.iload_n 2, 1) := by decide +kernel
theorem dX0_countUnlike_33 : decode cX0_countUnlike 33 = .ok (.iconst (-1), 1) := by decide +kernel
theorem dX0_countUnlike_34 : decode cX0_countUnlike 34 = .ok (.if_icmp .eq 19, 3) := by decide +kernel
theorem dX0_countUnlike_37 : decode cX0_countUnlike 37 = .ok (.aload_n 0, 1) := by decide +kernel
theorem dX0_countUnlike_38 : decode cX0_countUnlike 38 = .ok (.getfield 16, 3) := by decide +kernel
theorem dX0_countUnlike_41 : decode cX0_countUnlike 41 = .ok (.iload 4, 2) := by decide +kernel
theorem dX0_countUnlike_43 : decode cX0_countUnlike 43 = .ok (.iaload, 1) := by decide +kernel
theorem dX0_countUnlike_44 : decode cX0_countUnlike 44 = .ok (.aload_n 0, 1) := by decide +kernel
theorem dX0_countUnlike_45 : decode cX0_countUnlike 45 = .ok (.getfield 16, 3) := by decide +kernel
theorem dX0_countUnlike_48 : decode cX0_countUnlike 48 = .ok (.iload_n 2, 1) := by decide +kernel
theorem dX0_countUnlike_49 : decode cX0_countUnlike 49 = .ok (.iaload, 1) := by decide +kernel
theorem dX0_countUnlike_50 : decode cX0_countUnlike 50 = .ok (.if_icmp .eq 6, 3) := by decide +kernel
theorem dX0_countUnlike_53 : decode cX0_countUnlike 53 = .ok (.iinc 1 1, 3) := by decide +kernel
theorem dX0_countUnlike_56 : decode cX0_countUnlike 56 = .ok (.iload 4, 2) := by decide +kernel
theorem dX0_countUnlike_58 : decode cX0_countUnlike 58 = .ok (.istore_n 2, 1) := by decide +kernel
theorem dX0_countUnlike_59 : decode cX0_countUnlike 59 = .ok (.iinc 3 1, 3) := by decide +kernel
theorem dX0_countUnlike_62 : decode cX0_countUnlike 62 = .ok (.goto (-56), 3) := by decide +kernel
theorem dX0_countUnlike_65 : decode cX0_countUnlike 65 = .ok (.iload_n 1, 1) := by decide +kernel
theorem dX0_countUnlike_66 : decode cX0_countUnlike 66 = .ok (.ireturn, 1) := by decide +kernel
theorem dX0_countMostFrequent_0 : decode cX0_countMostFrequent 0 = .ok (.aload_n 0, 1) := by decide +kernel
theorem dX0_countMostFrequent_1 : decode cX0_countMostFrequent 1 = .ok (.invokevirtual 100, 3) := by decide +kernel
theorem dX0_countMostFrequent_4 : decode cX0_countMostFrequent 4 = .ok (.istore_n 1, 1) := by decide +kernel
theorem dX0_countMostFrequent_5 : decode cX0_countMostFrequent 5 = .ok (.iload_n 1, 1) := by decide +kernel
theorem dX0_countMostFrequent_6 : decode cX0_countMostFrequent 6 = .ok (.iconst (-1), 1) := by decide +kernel
theorem dX0_countMostFrequent_7 : decode cX0_countMostFrequent 7 = .ok (.if_icmp .ne 5, 3) := by decide +kernel
theorem dX0_countMostFrequent_10 : decode cX0_countMostFrequent 10 = .ok (.iconst 0, 1) := by decide +kernel
theorem dX0_countMostFrequent_11 : decode cX0_countMostFrequent 11 = .ok (.ireturn, 1) := by decide +kernel
theorem dX0_countMostFrequent_12 : decode cX0_countMostFrequent 12 = .ok (.iconst 0, 1) := by decide +kernel
theorem dX0_countMostFrequent_13 : decode cX0_countMostFrequent 13 = .ok (.istore_n 2, 1) := by decide +kernel
theorem dX0_countMostFrequent_14 : decode cX0_countMostFrequent 14 = .ok (.iconst 0, 1) := by decide +kernel
theorem dX0_countMostFrequent_15 : decode cX0_countMostFrequent 15 = .ok (.istore_n 3, 1) := by decide +kernel
theorem dX0_countMostFrequent_16 : decode cX0_countMostFrequent 16 = .ok (.iload_n 3, 1) := by decide +kernel
theorem dX0_countMostFrequent_17 : decode cX0_countMostFrequent 17 = .ok (.aload_n 0, 1) := by decide +kernel
theorem dX0_countMostFrequent_18 : decode cX0_countMostFrequent 18 = .ok (.getfield 35, 3) := by decide +kernel
theorem dX0_countMostFrequent_21 : decode cX0_countMostFrequent 21 = .ok (.if_icmp .ge 36, 3) := by decide +kernel
theorem dX0_countMostFrequent_24 : decode cX0_countMostFrequent 24 = .ok (.aload_n 0, 1) := by decide +kernel
theorem dX0_countMostFrequent_25 : decode cX0_countMostFrequent 25 = .ok (.getfield 28, 3) := by decide +kernel
theorem dX0_countMostFrequent_28 : decode cX0_countMostFrequent 28 = .ok (.iload_n 3, 1) := by decide +kernel
theorem dX0_countMostFrequent_29 : decode cX0_countMostFrequent 29 = .ok (.baload, 1) := by decide +kernel
theorem dX0_countMostFrequent_30 : decode cX0_countMostFrequent 30 = .ok (.ifCond .eq 21, 3) := by decide +kernel
theorem dX0_countMostFrequent_33 : decode cX0_countMostFrequent 33 = .ok (.aload_n 0, 1) := by decide +kernel
theorem dX0_countMostFrequent_34 : decode cX0_countMostFrequent 34 = .ok (.getfield 16, 3) := by decide +kernel
theorem dX0_countMostFrequent_37 : decode cX0_countMostFrequent 37 = .ok (.iload_n 3, 1) := by decide +kernel
theorem dX0_countMostFrequent_38 : decode cX0_countMostFrequent 38 = .ok (.iaload, 1) := by decide +kernel
theorem dX0_countMostFrequent_39 : decode cX0_countMostFrequent 39 = .ok (.aload_n 0, 1) := by decide +kernel
theorem dX0_countMostFrequent_40 : decode cX0_countMostFrequent 40 = .ok (.getfield 16, 3) := by decide +kernel
theorem dX0_countMostFrequent_43 : decode cX0_countMostFrequent 43 = .ok (.iload_n 1, 1) := by decide +kernel
theorem dX0_countMostFrequent_44 : decode cX0_countMostFrequent 44 = .ok (.iaload, 1) := by decide +kernel
theorem dX0_countMostFrequent_45 : decode cX0_countMostFrequent 45 = .ok (.if_icmp .ne 6, 3) := by decide +kernel
theorem dX0_countMostFrequent_48 : decode cX0_countMostFrequent 48 = .ok (.iinc 2 1, 3) := by decide +kernel
theorem dX0_countMostFrequent_51 : decode cX0_countMostFrequent 51 = .ok (.iinc 3 1, 3) := by decide +kernel
theorem dX0_countMostFrequent_54 : decode cX0_countMostFrequent 54 = .ok (.goto (-38), 3) := by decide +kernel
theorem dX0_countMostFrequent_57 : decode cX0_countMostFrequent 57 = .ok (.iload_n 2, 1) := by decide +kernel
theorem dX0_countMostFrequent_58 : decode cX0_countMostFrequent 58 = .ok (.ireturn, 1) := by decide +kernel
theorem dX0_findMostFrequent_0 : decode cX0_findMostFrequent 0 = .ok (.iconst (-1), 1) := by decide +kernel
theorem dX0_findMostFrequent_1 : decode cX0_findMostFrequent 1 = .ok (.istore_n 1, 1) := by decide +kernel
theorem dX0_findMostFrequent_2 : decode cX0_findMostFrequent 2 = .ok (.iconst 0, 1) := by decide +kernel
theorem dX0_findMostFrequent_3 : decode cX0_findMostFrequent 3 = .ok (.istore_n 2, 1) := by decide +kernel
theorem dX0_findMostFrequent_4 : decode cX0_findMostFrequent 4 = .ok (.iconst (-1), 1) := by decide +kernel
theorem dX0_findMostFrequent_5 : decode cX0_findMostFrequent 5 = .ok (.istore_n 3, 1) := by decide +kernel
theorem dX0_findMostFrequent_6 : decode cX0_findMostFrequent 6 = .ok (.iconst 0, 1) := by decide +kernel
theorem dX0_findMostFrequent_7 : decode cX0_findMostFrequent 7 = .ok (.istore 4, 2) := by decide +kernel
theorem dX0_findMostFrequent_9 : decode cX0_findMostFrequent 9 = .ok (.iconst 0, 1) := by decide +kernel
theorem dX0_findMostFrequent_10 : decode cX0_findMostFrequent 10 = .ok (.istore 5, 2) := by decide +kernel
theorem dX0_findMostFrequent_12 : decode cX0_findMostFrequent 12 = .ok (.iload 5, 2) := by decide +kernel
theorem dX0_findMostFrequent_14 : decode cX0_findMostFrequent 14 = .ok (.aload_n 0, 1) := by decide +kernel
theorem dX0_findMostFrequent_15 : decode cX0_findMostFrequent 15 = .ok (.getfield 35, 3) := by decide +kernel
theorem dX0_findMostFrequent_18 : decode cX0_findMostFrequent 18 = .ok (.if_icmp .ge 74, 3) := by decide +kernel
theorem dX0_findMostFrequent_21 : decode cX0_findMostFrequent 21 = .ok (.aload_n 0, 1) := by decide +kernel
theorem dX0_findMostFrequent_22 : decode cX0_findMostFrequent 22 = .ok (.getfield 19, 3) := by decide +kernel
theorem dX0_findMostFrequent_25 : decode cX0_findMostFrequent 25 = .ok (.iload 5, 2) := by decide +kernel
theorem dX0_findMostFrequent_27 : decode cX0_findMostFrequent 27 = .ok (.iaload, 1) := by decide +kernel
theorem dX0_findMostFrequent_28 : decode cX0_findMostFrequent 28 = .ok (.istore 6, 2) := by decide +kernel
theorem dX0_findMostFrequent_30 : decode cX0_findMostFrequent 30 = .ok (.aload_n 0, 1) := by decide +kernel
theorem dX0_findMostFrequent_31 : decode cX0_findMostFrequent 31 = .ok (.getfield 28, 3) := by decide +kernel
theorem dX0_findMostFrequent_34 : decode cX0_findMostFrequent 34 = .ok (.iload 6, 2) := by decide +kernel
theorem dX0_findMostFrequent_36 : decode cX0_findMostFrequent 36 = .ok (.baload, 1) := by decide +kernel
theorem dX0_findMostFrequent_37 : decode cX0_findMostFrequent 37 = .ok (.ifCond .eq 49, 3) := by decide +kernel
theorem dX0_findMostFrequent_40 : decode cX0_findMostFrequent 40 = .ok (.iload_n 3, 1) := by decide +kernel
theorem dX0_findMostFrequent_41 : decode cX0_findMostFrequent 41 = .ok (.iconst (-1), 1) := by decide +kernel
theorem dX0_findMostFrequent_42 : decode cX0_findMostFrequent 42 = .ok (.if_icmp .eq 26, 3) := by decide +kernel
theorem dX0_findMostFrequent_45 : decode cX0_findMostFrequent 45 = .ok (.aload_n 0, 1) := by decide +kernel
theorem dX0_findMostFrequent_46 : decode cX0_findMostFrequent 46 = .ok (.getfield 16, 3) := by decide +kernel
theorem dX0_findMostFrequent_49 : decode cX0_findMostFrequent 49 = .ok (.iload 6, 2) := by decide +kernel
theorem dX0_findMostFrequent_51 : decode cX0_findMostFrequent 51 = .ok (.iaload, 1) := by decide +kernel
theorem dX0_findMostFrequent_52 : decode cX0_findMostFrequent 52 = .ok (.aload_n 0, 1) := by decide +kernel
theorem dX0_findMostFrequent_53 : decode cX0_findMostFrequent 53 = .ok (.getfield 16, 3) := by decide +kernel
theorem dX0_findMostFrequent_56 : decode cX0_findMostFrequent 56 = .ok (.iload_n 3, 1) := by decide +kernel
theorem dX0_findMostFrequent_57 : decode cX0_findMostFrequent 57 = .ok (.iaload, 1) := by decide +kernel
theorem dX0_findMostFrequent_58 : decode cX0_findMostFrequent 58 = .ok (.if_icmp .ne 10, 3) := by decide +kernel
theorem dX0_findMostFrequent_61 : decode cX0_findMostFrequent 61 = .ok (.iload 4, 2) := by decide +kernel
theorem dX0_findMostFrequent_63 : decode cX0_findMostFrequent 63 = .ok (.iconst 1, 1) := by decide +kernel
theorem dX0_findMostFrequent_64 : decode cX0_findMostFrequent 64 = .ok (.iadd, 1) := by decide +kernel
theorem dX0_findMostFrequent_65 : decode cX0_findMostFrequent 65 = .ok (.goto 4, 3) := by decide +kernel
theorem dX0_findMostFrequent_68 : decode cX0_findMostFrequent 68 = .ok (.iconst 1, 1) := by decide +kernel
theorem dX0_findMostFrequent_69 : decode cX0_findMostFrequent 69 = .ok (.istore 4, 2) := by decide +kernel
theorem dX0_findMostFrequent_71 : decode cX0_findMostFrequent 71 = .ok (.iload 6, 2) := by decide +kernel
theorem dX0_findMostFrequent_73 : decode cX0_findMostFrequent 73 = .ok (.istore_n 3, 1) := by decide +kernel
theorem dX0_findMostFrequent_74 : decode cX0_findMostFrequent 74 = .ok (.iload 4, 2) := by decide +kernel
theorem dX0_findMostFrequent_76 : decode cX0_findMostFrequent 76 = .ok (.iload_n 2, 1) := by decide +kernel
theorem dX0_findMostFrequent_77 : decode cX0_findMostFrequent 77 = .ok (.if_icmp .le 9, 3) := by decide +kernel
theorem dX0_findMostFrequent_80 : decode cX0_findMostFrequent 80 = .ok (.iload 4, 2) := by decide +kernel
theorem dX0_findMostFrequent_82 : decode cX0_findMostFrequent 82 = .ok (.istore_n 2, 1) := by decide +kernel
theorem dX0_findMostFrequent_83 : decode cX0_findMostFrequent 83 = .ok (.iload 6, 2) := by decide +kernel
theorem dX0_findMostFrequent_85 : decode cX0_findMostFrequent 85 = .ok (.istore_n 1, 1) := by decide +kernel
theorem dX0_findMostFrequent_86 : decode cX0_findMostFrequent 86 = .ok (.iinc 5 1, 3) := by decide +kernel
theorem dX0_findMostFrequent_89 : decode cX0_findMostFrequent 89 = .ok (.goto (-77), 3) := by decide +kernel
theorem dX0_findMostFrequent_92 : decode cX0_findMostFrequent 92 = .ok (.iload_n 1, 1) := by decide +kernel
theorem dX0_findMostFrequent_93 : decode cX0_findMostFrequent 93 = .ok (.ireturn, 1) := by decide +kernel
theorem dX0_findKth_0 : decode cX0_findKth 0 = .ok (.iconst 0, 1) := by decide +kernel
theorem dX0_findKth_1 : decode cX0_findKth 1 = .ok (.istore_n 2, 1) := by decide +kernel
theorem dX0_findKth_2 : decode cX0_findKth 2 = .ok (.iconst 0, 1) := by decide +kernel
theorem dX0_findKth_3 : decode cX0_findKth 3 = .ok (.istore_n 3, 1) := by decide +kernel
theorem dX0_findKth_4 : decode cX0_findKth 4 = .ok (.iload_n 3, 1) := by decide +kernel
theorem dX0_findKth_5 : decode cX0_findKth 5 = .ok (.aload_n 0, 1) := by decide +kernel
theorem dX0_findKth_6 : decode cX0_findKth 6 = .ok (.getfield 35, 3) := by decide +kernel
theorem dX0_findKth_9 : decode cX0_findKth 9 = .ok (.if_icmp .ge 38, 3) := by decide +kernel
theorem dX0_findKth_12 : decode cX0_findKth 12 = .ok (.aload_n 0, 1) := by decide +kernel
theorem dX0_findKth_13 : decode cX0_findKth 13 = .ok (.getfield 19, 3) := by decide +kernel
theorem dX0_findKth_16 : decode cX0_findKth 16 = .ok (.iload_n 3, 1) := by decide +kernel
theorem dX0_findKth_17 : decode cX0_findKth 17 = .ok (.iaload, 1) := by decide +kernel
theorem dX0_findKth_18 : decode cX0_findKth 18 = .ok (.istore 4, 2) := by decide +kernel
theorem dX0_findKth_20 : decode cX0_findKth 20 = .ok (.aload_n 0, 1) := by decide +kernel
theorem dX0_findKth_21 : decode cX0_findKth 21 = .ok (.getfield 28, 3) := by decide +kernel
theorem dX0_findKth_24 : decode cX0_findKth 24 = .ok (.iload 4, 2) := by decide +kernel
theorem dX0_findKth_26 : decode cX0_findKth 26 = .ok (.baload, 1) := by decide +kernel
theorem dX0_findKth_27 : decode cX0_findKth 27 = .ok (.ifCond .eq 14, 3) := by decide +kernel
theorem dX0_findKth_30 : decode cX0_findKth 30 = .ok (.iload_n 2, 1) := by decide +kernel
theorem dX0_findKth_31 : decode cX0_findKth 31 = .ok (.iload_n 1, 1) := by decide +kernel
theorem dX0_findKth_32 : decode cX0_findKth 32 = .ok (.if_icmp .ne 6, 3) := by decide +kernel
theorem dX0_findKth_35 : decode cX0_findKth 35 = .ok (.iload 4, 2) := by decide +kernel
theorem dX0_findKth_37 : decode cX0_findKth 37 = .ok (.ireturn, 1) := by decide +kernel
theorem dX0_findKth_38 : decode cX0_findKth 38 = .ok (.iinc 2 1, 3) := by decide +kernel
theorem dX0_findKth_41 : decode cX0_findKth 41 = .ok (.iinc 3 1, 3) := by decide +kernel
theorem dX0_findKth_44 : decode cX0_findKth 44 = .ok (.goto (-40), 3) := by decide +kernel
theorem dX0_findKth_47 : decode cX0_findKth 47 = .ok (.iconst (-1), 1) := by decide +kernel
theorem dX0_findKth_48 : decode cX0_findKth 48 = .ok (.ireturn, 1) := by decide +kernel
end
section
theorem dX1_init_0 : decode cX1_init 0 = .ok (.aload_n 0, 1) := by decide +kernel
theorem dX1_init_1 : decode cX1_init 1 = .ok (.invokespecial 1, 3) := by decide +kernel
theorem dX1_init_4 : decode cX1_init 4 = .ok (.aload_n 0, 1) := by decide +kernel
theorem dX1_init_5 : decode cX1_init 5 = .ok (.sipush 300, 3) := by decide +kernel
theorem dX1_init_8 : decode cX1_init 8 = .ok (.newarray .int, 2) := by decide +kernel
theorem dX1_init_10 : decode cX1_init 10 = .ok (.putfield 7, 3) := by decide +kernel
theorem dX1_init_13 : decode cX1_init 13 = .ok (.aload_n 0, 1) := by decide +kernel
theorem dX1_init_14 : decode cX1_init 14 = .ok (.sipush 300, 3) := by decide +kernel
theorem dX1_init_17 : decode cX1_init 17 = .ok (.newarray .int, 2) := by decide +kernel
theorem dX1_init_19 : decode cX1_init 19 = .ok (.putfield 13, 3) := by decide +kernel
theorem dX1_init_22 : decode cX1_init 22 = .ok (.aload_n 0, 1) := by decide +kernel
theorem dX1_init_23 : decode cX1_init 23 = .ok (.sipush 300, 3) := by decide +kernel
theorem dX1_init_26 : decode cX1_init 26 = .ok (.newarray .int, 2) := by decide +kernel
theorem dX1_init_28 : decode cX1_init 28 = .ok (.putfield 16, 3) := by decide +kernel
theorem dX1_init_31 : decode cX1_init 31 = .ok (.aload_n 0, 1) := by decide +kernel
theorem dX1_init_32 : decode cX1_init 32 = .ok (.bipush 6, 2) := by decide +kernel
theorem dX1_init_34 : decode cX1_init 34 = .ok (.newarray .int, 2) := by decide +kernel
theorem dX1_init_36 : decode cX1_init 36 = .ok (.putfield 19, 3) := by decide +kernel
theorem dX1_init_39 : decode cX1_init 39 = .ok (.aload_n 0, 1) := by decide +kernel
theorem dX1_init_40 : decode cX1_init 40 = .ok (.bipush 6, 2) := by decide +kernel
theorem dX1_init_42 : decode cX1_init 42 = .ok (.newarray .int, 2) := by decide +kernel
theorem dX1_init_44 : decode cX1_init 44 = .ok (.putfield 22, 3) := by decide +kernel
theorem dX1_init_47 : decode cX1_init 47 = .ok (.aload_n 0, 1) := by decide +kernel
theorem dX1_init_48 : decode cX1_init 48 = .ok (.sipush 300, 3) := by decide +kernel
theorem dX1_init_51 : decode cX1_init 51 = .ok (.newarray .int, 2) := by decide +kernel
theorem dX1_init_53 : decode cX1_init 53 = .ok (.putfield 25, 3) := by decide +kernel
theorem dX1_init_56 : decode cX1_init 56 = .ok (.return_, 1) := by decide +kernel
theorem dX1_thrown_0 : decode cX1_thrown 0 = .ok (.aload_n 0, 1) := by decide +kernel
theorem dX1_thrown_1 : decode cX1_thrown 1 = .ok (.getfield 28, 3) := by decide +kernel
theorem dX1_thrown_4 : decode cX1_thrown 4 = .ok (.ireturn, 1) := by decide +kernel
theorem dX1_refuse_0 : decode cX1_refuse 0 = .ok (.aload_n 0, 1) := by decide +kernel
theorem dX1_refuse_1 : decode cX1_refuse 1 = .ok (.iload_n 1, 1) := by decide +kernel
theorem dX1_refuse_2 : decode cX1_refuse 2 = .ok (.ifCond .eq 7, 3) := by decide +kernel
theorem dX1_refuse_5 : decode cX1_refuse 5 = .ok (.iconst 1, 1) := by decide +kernel
theorem dX1_refuse_6 : decode cX1_refuse 6 = .ok (.goto 12, 3) := by decide +kernel
theorem dX1_refuse_9 : decode cX1_refuse 9 = .ok (.iload_n 2, 1) := by decide +kernel
theorem dX1_refuse_10 : decode cX1_refuse 10 = .ok (.ifCond .eq 7, 3) := by decide +kernel
theorem dX1_refuse_13 : decode cX1_refuse 13 = .ok (.iconst 2, 1) := by decide +kernel
theorem dX1_refuse_14 : decode cX1_refuse 14 = .ok (.goto 4, 3) := by decide +kernel
theorem dX1_refuse_17 : decode cX1_refuse 17 = .ok (.iconst 0, 1) := by decide +kernel
theorem dX1_refuse_18 : decode cX1_refuse 18 = .ok (.putfield 28, 3) := by decide +kernel
theorem dX1_refuse_21 : decode cX1_refuse 21 = .ok (.aload_n 0, 1) := by decide +kernel
theorem dX1_refuse_22 : decode cX1_refuse 22 = .ok (.getfield 28, 3) := by decide +kernel
theorem dX1_refuse_25 : decode cX1_refuse 25 = .ok (.ifCond .le 7, 3) := by decide +kernel
theorem dX1_refuse_28 : decode cX1_refuse 28 = .ok (.iconst 1, 1) := by decide +kernel
theorem dX1_refuse_29 : decode cX1_refuse 29 = .ok (.goto 4, 3) := by decide +kernel
theorem dX1_refuse_32 : decode cX1_refuse 32 = .ok (.iconst 0, 1) := by decide +kernel
theorem dX1_refuse_33 : decode cX1_refuse 33 = .ok (.ireturn, 1) := by decide +kernel
theorem dX1_in_0 : decode cX1_in 0 = .ok (.iload_n 0, 1) := by decide +kernel
theorem dX1_in_1 : decode cX1_in 1 = .ok (.iload_n 1, 1) := by decide +kernel
theorem dX1_in_2 : decode cX1_in 2 = .ok (.if_icmp .lt 12, 3) := by decide +kernel
theorem dX1_in_5 : decode cX1_in 5 = .ok (.iload_n 0, 1) := by decide +kernel
theorem dX1_in_6 : decode cX1_in 6 = .ok (.iload_n 2, 1) := by decide +kernel
theorem dX1_in_7 : decode cX1_in 7 = .ok (.if_icmp .gt 7, 3) := by decide +kernel
theorem dX1_in_10 : decode cX1_in 10 = .ok (.iconst 1, 1) := by decide +kernel
theorem dX1_in_11 : decode cX1_in 11 = .ok (.goto 4, 3) := by decide +kernel
theorem dX1_in_14 : decode cX1_in 14 = .ok (.iconst 0, 1) := by decide +kernel
theorem dX1_in_15 : decode cX1_in 15 = .ok (.ireturn, 1) := by decide +kernel
theorem dX1_clear_0 : decode cX1_clear 0 = .ok (.aload_n 0, 1) := by decide +kernel
theorem dX1_clear_1 : decode cX1_clear 1 = .ok (.iconst 0, 1) := by decide +kernel
theorem dX1_clear_2 : decode cX1_clear 2 = .ok (.putfield 28, 3) := by decide +kernel
theorem dX1_clear_5 : decode cX1_clear 5 = .ok (.aload_n 0, 1) := by decide +kernel
theorem dX1_clear_6 : decode cX1_clear 6 = .ok (.iconst 0, 1) := by decide +kernel
theorem dX1_clear_7 : decode cX1_clear 7 = .ok (.putfield 32, 3) := by decide +kernel
theorem dX1_clear_10 : decode cX1_clear 10 = .ok (.aload_n 0, 1) := by decide +kernel
theorem dX1_clear_11 : decode cX1_clear 11 = .ok (.iconst 0, 1) := by decide +kernel
theorem dX1_clear_12 : decode cX1_clear 12 = .ok (.putfield 35, 3) := by decide +kernel
theorem dX1_clear_15 : decode cX1_clear 15 = .ok (.aload_n 0, 1) := by decide +kernel
theorem dX1_clear_16 : decode cX1_clear 16 = .ok (.iconst 0, 1) := by decide +kernel
theorem dX1_clear_17 : decode cX1_clear 17 = .ok (.putfield 38, 3) := by decide +kernel
theorem dX1_clear_20 : decode cX1_clear 20 = .ok (.return_, 1) := by decide +kernel
theorem dX1_window_0 : decode cX1_window 0 = .ok (.aload_n 0, 1) := by decide +kernel
theorem dX1_window_1 : decode cX1_window 1 = .ok (.iload_n 1, 1) := by decide +kernel
theorem dX1_window_2 : decode cX1_window 2 = .ok (.iconst 0, 1) := by decide +kernel
theorem dX1_window_3 : decode cX1_window 3 = .ok (.iconst 5, 1) := by decide +kernel
theorem dX1_window_4 : decode cX1_window 4 = .ok (.invokestatic 41, 3) := by decide +kernel
theorem dX1_window_7 : decode cX1_window 7 = .ok (.ifCond .eq 13, 3) := by decide +kernel
theorem dX1_window_10 : decode cX1_window 10 = .ok (.iload_n 2, 1) := by decide +kernel
theorem dX1_window_11 : decode cX1_window 11 = .ok (.iconst 0, 1) := by decide +kernel
theorem dX1_window_12 : decode cX1_window 12 = .ok (.ldc 45, 2) := by decide +kernel
theorem dX1_window_14 : decode cX1_window 14 = .ok (.invokestatic 41, 3) := by decide +kernel
theorem dX1_window_17 : decode cX1_window 17 = .ok (.ifCond .ne 7, 3) := by decide +kernel
theorem dX1_window_20 : decode cX1_window 20 = .ok (.iconst 1, 1) := by decide +kernel
theorem dX1_window_21 : decode cX1_window 21 = .ok (.goto 4, 3) := by decide +kernel
theorem dX1_window_24 : decode cX1_window 24 = .ok (.iconst 0, 1) := by decide +kernel
theorem dX1_window_25 : decode cX1_window 25 = .ok (.aload_n 0, 1) := by decide +kernel
theorem dX1_window_26 : decode cX1_window 26 = .ok (.getfield 38, 3) := by decide +kernel
theorem dX1_window_29 : decode cX1_window 29 = .ok (.bipush 6, 2) := by decide +kernel
theorem dX1_window_31 : decode cX1_window 31 = .ok (.if_icmp .ne 7, 3) := by decide +kernel
theorem dX1_window_34 : decode cX1_window 34 = .ok (.iconst 1, 1) := by decide +kernel
theorem dX1_window_35 : decode cX1_window 35 = .ok (.goto 4, 3) := by decide +kernel
theorem dX1_window_38 : decode cX1_window 38 = .ok (.iconst 0, 1) := by decide +kernel
theorem dX1_window_39 : decode cX1_window 39 = .ok (.invokevirtual 46, 3) := by decide +kernel
theorem dX1_window_42 : decode cX1_window 42 = .ok (.ifCond .eq 5, 3) := by decide +kernel
theorem dX1_window_45 : decode cX1_window 45 = .ok (.iconst 0, 1) := by decide +kernel
theorem dX1_window_46 : decode cX1_window 46 = .ok (.ireturn, 1) := by decide +kernel
theorem dX1_window_47 : decode cX1_window 47 = .ok (.aload_n 0, 1) := by decide +kernel
theorem dX1_window_48 : decode cX1_window 48 = .ok (.getfield 19, 3) := by decide +kernel
theorem dX1_window_51 : decode cX1_window 51 = .ok (.aload_n 0, 1) := by decide +kernel
theorem dX1_window_52 : decode cX1_window 52 = .ok (.getfield 38, 3) := by decide +kernel
theorem dX1_window_55 : decode cX1_window 55 = .ok (.iload_n 1, 1) := by decide +kernel
theorem dX1_window_56 : decode cX1_window 56 = .ok (.iastore, 1) := by decide +kernel
theorem dX1_window_57 : decode cX1_window 57 = .ok (.aload_n 0, 1) := by decide +kernel
theorem dX1_window_58 : decode cX1_window 58 = .ok (.getfield 22, 3) := by decide +kernel
theorem dX1_window_61 : decode cX1_window 61 = .ok (.aload_n 0, 1) := by decide +kernel
theorem dX1_window_62 : decode cX1_window 62 = .ok (.getfield 38, 3) := by decide +kernel
theorem dX1_window_65 : decode cX1_window 65 = .ok (.iload_n 2, 1) := by decide +kernel
theorem dX1_window_66 : decode cX1_window 66 = .ok (.iastore, 1) := by decide +kernel
theorem dX1_window_67 : decode cX1_window 67 = .ok (.aload_n 0, 1) := by decide +kernel
theorem dX1_window_68 : decode cX1_window 68 = .ok (.dup, 1) := by decide +kernel
theorem dX1_window_69 : decode cX1_window 69 = .ok (.getfield 38, 3) := by decide +kernel
theorem dX1_window_72 : decode cX1_window 72 = .ok (.iconst 1, 1) := by decide +kernel
theorem dX1_window_73 : decode cX1_window 73 = .ok (.iadd, 1) := by decide +kernel
theorem dX1_window_74 : decode cX1_window 74 = .ok (.putfield 38, 3) := by decide +kernel
theorem dX1_window_77 : decode cX1_window 77 = .ok (.aload_n 0, 1) := by decide +kernel
theorem dX1_window_78 : decode cX1_window 78 = .ok (.getfield 38, 3) := by decide +kernel
theorem dX1_window_81 : decode cX1_window 81 = .ok (.iconst 1, 1) := by decide +kernel
theorem dX1_window_82 : decode cX1_window 82 = .ok (.isub, 1) := by decide +kernel
theorem dX1_window_83 : decode cX1_window 83 = .ok (.ireturn, 1) := by decide +kernel
theorem dX1_tuple_0 : decode cX1_tuple 0 = .ok (.aload_n 0, 1) := by decide +kernel
theorem dX1_tuple_1 : decode cX1_tuple 1 = .ok (.iload_n 1, 1) := by decide +kernel
theorem dX1_tuple_2 : decode cX1_tuple 2 = .ok (.aload_n 0, 1) := by decide +kernel
theorem dX1_tuple_3 : decode cX1_tuple 3 = .ok (.getfield 35, 3) := by decide +kernel
theorem dX1_tuple_6 : decode cX1_tuple 6 = .ok (.ldc 45, 2) := by decide +kernel
theorem dX1_tuple_8 : decode cX1_tuple 8 = .ok (.invokestatic 41, 3) := by decide +kernel
theorem dX1_tuple_11 : decode cX1_tuple 11 = .ok (.ifCond .eq 13, 3) := by decide +kernel
theorem dX1_tuple_14 : decode cX1_tuple 14 = .ok (.iload_n 2, 1) := by decide +kernel
theorem dX1_tuple_15 : decode cX1_tuple 15 = .ok (.iconst 0, 1) := by decide +kernel
theorem dX1_tuple_16 : decode cX1_tuple 16 = .ok (.bipush 7, 2) := by decide +kernel
theorem dX1_tuple_18 : decode cX1_tuple 18 = .ok (.invokestatic 41, 3) := by decide +kernel
theorem dX1_tuple_21 : decode cX1_tuple 21 = .ok (.ifCond .ne 7, 3) := by decide +kernel
theorem dX1_tuple_24 : decode cX1_tuple 24 = .ok (.iconst 1, 1) := by decide +kernel
theorem dX1_tuple_25 : decode cX1_tuple 25 = .ok (.goto 4, 3) := by decide +kernel
theorem dX1_tuple_28 : decode cX1_tuple 28 = .ok (.iconst 0, 1) := by decide +kernel
theorem dX1_tuple_29 : decode cX1_tuple 29 = .ok (.aload_n 0, 1) := by decide +kernel
theorem dX1_tuple_30 : decode cX1_tuple 30 = .ok (.getfield 32, 3) := by decide +kernel
theorem dX1_tuple_33 : decode cX1_tuple 33 = .ok (.sipush 300, 3) := by decide +kernel
theorem dX1_tuple_36 : decode cX1_tuple 36 = .ok (.if_icmp .ne 7, 3) := by decide +kernel
theorem dX1_tuple_39 : decode cX1_tuple 39 = .ok (.iconst 1, 1) := by decide +kernel
theorem dX1_tuple_40 : decode cX1_tuple 40 = .ok (.goto 4, 3) := by decide +kernel
theorem dX1_tuple_43 : decode cX1_tuple 43 = .ok (.iconst 0, 1) := by decide +kernel
theorem dX1_tuple_44 : decode cX1_tuple 44 = .ok (.invokevirtual 46, 3) := by decide +kernel
theorem dX1_tuple_47 : decode cX1_tuple 47 = .ok (.ifCond .eq 5, 3) := by decide +kernel
theorem dX1_tuple_50 : decode cX1_tuple 50 = .ok (.iconst 0, 1) := by decide +kernel
theorem dX1_tuple_51 : decode cX1_tuple 51 = .ok (.ireturn, 1) := by decide +kernel
theorem dX1_tuple_52 : decode cX1_tuple 52 = .ok (.aload_n 0, 1) := by decide +kernel
theorem dX1_tuple_53 : decode cX1_tuple 53 = .ok (.getfield 7, 3) := by decide +kernel
theorem dX1_tuple_56 : decode cX1_tuple 56 = .ok (.aload_n 0, 1) := by decide +kernel
theorem dX1_tuple_57 : decode cX1_tuple 57 = .ok (.getfield 32, 3) := by decide +kernel
theorem dX1_tuple_60 : decode cX1_tuple 60 = .ok (.iload_n 1, 1) := by decide +kernel
theorem dX1_tuple_61 : decode cX1_tuple 61 = .ok (.iastore, 1) := by decide +kernel
theorem dX1_tuple_62 : decode cX1_tuple 62 = .ok (.aload_n 0, 1) := by decide +kernel
theorem dX1_tuple_63 : decode cX1_tuple 63 = .ok (.getfield 13, 3) := by decide +kernel
theorem dX1_tuple_66 : decode cX1_tuple 66 = .ok (.aload_n 0, 1) := by decide +kernel
theorem dX1_tuple_67 : decode cX1_tuple 67 = .ok (.getfield 32, 3) := by decide +kernel
theorem dX1_tuple_70 : decode cX1_tuple 70 = .ok (.iload_n 2, 1) := by decide +kernel
theorem dX1_tuple_71 : decode cX1_tuple 71 = .ok (.iastore, 1) := by decide +kernel
theorem dX1_tuple_72 : decode cX1_tuple 72 = .ok (.aload_n 0, 1) := by decide +kernel
theorem dX1_tuple_73 : decode cX1_tuple 73 = .ok (.getfield 16, 3) := by decide +kernel
theorem dX1_tuple_76 : decode cX1_tuple 76 = .ok (.aload_n 0, 1) := by decide +kernel
theorem dX1_tuple_77 : decode cX1_tuple 77 = .ok (.getfield 32, 3) := by decide +kernel
theorem dX1_tuple_80 : decode cX1_tuple 80 = .ok (.iload_n 3, 1) := by decide +kernel
theorem dX1_tuple_81 : decode cX1_tuple 81 = .ok (.iastore, 1) := by decide +kernel
theorem dX1_tuple_82 : decode cX1_tuple 82 = .ok (.aload_n 0, 1) := by decide +kernel
theorem dX1_tuple_83 : decode cX1_tuple 83 = .ok (.dup, 1) := by decide +kernel
theorem dX1_tuple_84 : decode cX1_tuple 84 = .ok (.getfield 32, 3) := by decide +kernel
theorem dX1_tuple_87 : decode cX1_tuple 87 = .ok (.iconst 1, 1) := by decide +kernel
theorem dX1_tuple_88 : decode cX1_tuple 88 = .ok (.iadd, 1) := by decide +kernel
theorem dX1_tuple_89 : decode cX1_tuple 89 = .ok (.putfield 32, 3) := by decide +kernel
theorem dX1_tuple_92 : decode cX1_tuple 92 = .ok (.aload_n 0, 1) := by decide +kernel
theorem dX1_tuple_93 : decode cX1_tuple 93 = .ok (.iload_n 1, 1) := by decide +kernel
theorem dX1_tuple_94 : decode cX1_tuple 94 = .ok (.putfield 35, 3) := by decide +kernel
theorem dX1_tuple_97 : decode cX1_tuple 97 = .ok (.aload_n 0, 1) := by decide +kernel
theorem dX1_tuple_98 : decode cX1_tuple 98 = .ok (.getfield 32, 3) := by decide +kernel
theorem dX1_tuple_101 : decode cX1_tuple 101 = .ok (.ireturn, 1) := by decide +kernel
theorem dX1_tick_0 : decode cX1_tick 0 = .ok (.aload_n 0, 1) := by decide +kernel
theorem dX1_tick_1 : decode cX1_tick 1 = .ok (.iload_n 1, 1) := by decide +kernel
theorem dX1_tick_2 : decode cX1_tick 2 = .ok (.aload_n 0, 1) := by decide +kernel
theorem dX1_tick_3 : decode cX1_tick 3 = .ok (.getfield 35, 3) := by decide +kernel
theorem dX1_tick_6 : decode cX1_tick 6 = .ok (.ldc 45, 2) := by decide +kernel
theorem dX1_tick_8 : decode cX1_tick 8 = .ok (.invokestatic 41, 3) := by decide +kernel
theorem dX1_tick_11 : decode cX1_tick 11 = .ok (.ifCond .ne 7, 3) := by decide +kernel
theorem dX1_tick_14 : decode cX1_tick 14 = .ok (.iconst 1, 1) := by decide +kernel
theorem dX1_tick_15 : decode cX1_tick 15 = .ok (.goto 4, 3) := by decide +kernel
theorem dX1_tick_18 : decode cX1_tick 18 = .ok (.iconst 0, 1) := by decide +kernel
theorem dX1_tick_19 : decode cX1_tick 19 = .ok (.iconst 0, 1) := by decide +kernel
theorem dX1_tick_20 : decode cX1_tick 20 = .ok (.invokevirtual 46, 3) := by decide +kernel
theorem dX1_tick_23 : decode cX1_tick 23 = .ok (.ifCond .ne 8, 3) := by decide +kernel
theorem dX1_tick_26 : decode cX1_tick 26 = .ok (.aload_n 0, 1) := by decide +kernel
theorem dX1_tick_27 : decode cX1_tick 27 = .ok (.iload_n 1, 1) := by decide +kernel
theorem dX1_tick_28 : decode cX1_tick 28 = .ok (.putfield 35, 3) := by decide +kernel
theorem dX1_tick_31 : decode cX1_tick 31 = .ok (.return_, 1) := by decide +kernel
theorem dX1_now_0 : decode cX1_now 0 = .ok (.aload_n 0, 1) := by decide +kernel
theorem dX1_now_1 : decode cX1_now 1 = .ok (.iconst 0, 1) := by decide +kernel
theorem dX1_now_2 : decode cX1_now 2 = .ok (.putfield 28, 3) := by decide +kernel
theorem dX1_now_5 : decode cX1_now 5 = .ok (.aload_n 0, 1) := by decide +kernel
theorem dX1_now_6 : decode cX1_now 6 = .ok (.getfield 35, 3) := by decide +kernel
theorem dX1_now_9 : decode cX1_now 9 = .ok (.ireturn, 1) := by decide +kernel
theorem dX1_runs_0 : decode cX1_runs 0 = .ok (.aload_n 0, 1) := by decide +kernel
theorem dX1_runs_1 : decode cX1_runs 1 = .ok (.getfield 7, 3) := by decide +kernel
theorem dX1_runs_4 : decode cX1_runs 4 = .ok (.aload_n 0, 1) := by decide +kernel
theorem dX1_runs_5 : decode cX1_runs 5 = .ok (.getfield 32, 3) := by decide +kernel
theorem dX1_runs_8 : decode cX1_runs 8 = .ok (.iconst 1, 1) := by decide +kernel
theorem dX1_runs_9 : decode cX1_runs 9 = .ok (.isub, 1) := by decide +kernel
theorem dX1_runs_10 : decode cX1_runs 10 = .ok (.iaload, 1) := by decide +kernel
theorem dX1_runs_11 : decode cX1_runs 11 = .ok (.aload_n 0, 1) := by decide +kernel
theorem dX1_runs_12 : decode cX1_runs 12 = .ok (.getfield 35, 3) := by decide +kernel
theorem dX1_runs_15 : decode cX1_runs 15 = .ok (.iload_n 2, 1) := by decide +kernel
theorem dX1_runs_16 : decode cX1_runs 16 = .ok (.isub, 1) := by decide +kernel
theorem dX1_runs_17 : decode cX1_runs 17 = .ok (.if_icmp .lt 7, 3) := by decide +kernel
theorem dX1_runs_20 : decode cX1_runs 20 = .ok (.iconst 1, 1) := by decide +kernel
theorem dX1_runs_21 : decode cX1_runs 21 = .ok (.goto 4, 3) := by decide +kernel
theorem dX1_runs_24 : decode cX1_runs 24 = .ok (.iconst 0, 1) := by decide +kernel
theorem dX1_runs_25 : decode cX1_runs 25 = .ok (.istore_n 3, 1) := by decide +kernel
theorem dX1_runs_26 : decode cX1_runs 26 = .ok (.iload_n 1, 1) := by decide +kernel
theorem dX1_runs_27 : decode cX1_runs 27 = .ok (.istore 4, 2) := by decide +kernel
theorem dX1_runs_29 : decode cX1_runs 29 = .ok (.iload 4, 2) := by decide +kernel
theorem dX1_runs_31 : decode cX1_runs 31 = .ok (.iconst 1, 1) := by decide +kernel
theorem dX1_runs_32 : decode cX1_runs 32 = .ok (.iadd, 1) := by decide +kernel
theorem dX1_runs_33 : decode cX1_runs 33 = .ok (.aload_n 0, 1) := by decide +kernel
theorem dX1_runs_34 : decode cX1_runs 34 = .ok (.getfield 32, 3) := by decide +kernel
theorem dX1_runs_37 : decode cX1_runs 37 = .ok (.if_icmp .ge 40, 3) := by decide +kernel
theorem dX1_runs_40 : decode cX1_runs 40 = .ok (.iload_n 3, 1) := by decide +kernel
theorem dX1_runs_41 : decode cX1_runs 41 = .ok (.ifCond .eq 28, 3) := by decide +kernel
theorem dX1_runs_44 : decode cX1_runs 44 = .ok (.aload_n 0, 1) := by decide +kernel
theorem dX1_runs_45 : decode cX1_runs 45 = .ok (.getfield 7, 3) := by decide +kernel
theorem dX1_runs_48 : decode cX1_runs 48 = .ok (.iload 4, 2) := by decide +kernel
theorem dX1_runs_50 : decode cX1_runs 50 = .ok (.iconst 1, 1) := by decide +kernel
theorem dX1_runs_51 : decode cX1_runs 51 = .ok (.iadd, 1) := by decide +kernel
theorem dX1_runs_52 : decode cX1_runs 52 = .ok (.iaload, 1) := by decide +kernel
theorem dX1_runs_53 : decode cX1_runs 53 = .ok (.aload_n 0, 1) := by decide +kernel
theorem dX1_runs_54 : decode cX1_runs 54 = .ok (.getfield 7, 3) := by decide +kernel
theorem dX1_runs_57 : decode cX1_runs 57 = .ok (.iload 4, 2) := by decide +kernel
theorem dX1_runs_59 : decode cX1_runs 59 = .ok (.iaload, 1) := by decide +kernel
theorem dX1_runs_60 : decode cX1_runs 60 = .ok (.isub, 1) := by decide +kernel
theorem dX1_runs_61 : decode cX1_runs 61 = .ok (.iload_n 2, 1) := by decide +kernel
theorem dX1_runs_62 : decode cX1_runs 62 = .ok (.if_icmp .gt 7, 3) := by decide +kernel
theorem dX1_runs_65 : decode cX1_runs 65 = .ok (.iconst 1, 1) := by decide +kernel
theorem dX1_runs_66 : decode cX1_runs 66 = .ok (.goto 4, 3) := by decide +kernel
theorem dX1_runs_69 : decode cX1_runs 69 = .ok (.iconst 0, 1) := by decide +kernel
theorem dX1_runs_70 : decode cX1_runs 70 = .ok (.istore_n 3, 1) := by decide +kernel
theorem dX1_runs_71 : decode cX1_runs 71 = .ok (.iinc 4 1, 3) := by decide +kernel
theorem dX1_runs_74 : decode cX1_runs 74 = .ok (.goto (-45), 3) := by decide +kernel
theorem dX1_runs_77 : decode cX1_runs 77 = .ok (.iload_n 3, 1) := by decide +kernel
theorem dX1_runs_78 : decode cX1_runs 78 = .ok (.ireturn, 1) := by decide +kernel
theorem dX1_behindOfKey_0 : decode cX1_behindOfKey 0 = .ok (.iconst 0, 1) := by decide +kernel
theorem dX1_behindOfKey_1 : decode cX1_behindOfKey 1 = .ok (.istore_n 2, 1) := by decide +kernel
theorem dX1_behindOfKey_2 : decode cX1_behindOfKey 2 = .ok (.iload_n 1, 1) := by decide +kernel
theorem dX1_behindOfKey_3 : decode cX1_behindOfKey 3 = .ok (.iconst 1, 1) := by decide +kernel
theorem dX1_behindOfKey_4 : decode cX1_behindOfKey 4 = .ok (.iadd, 1) := by decide +kernel
theorem dX1_behindOfKey_5 : decode cX1_behindOfKey 5 = .ok (.istore_n 3, 1) := by decide +kernel
theorem dX1_behindOfKey_6 : decode cX1_behindOfKey 6 = .ok (.iload_n 3, 1) := by decide +kernel
theorem dX1_behindOfKey_7 : decode cX1_behindOfKey 7 = .ok (.aload_n 0, 1) := by decide +kernel
theorem dX1_behindOfKey_8 : decode cX1_behindOfKey 8 = .ok (.getfield 32, 3) := by decide +kernel
theorem dX1_behindOfKey_11 : decode cX1_behindOfKey 11 = .ok (.if_icmp .ge 32, 3) := by decide +kernel
theorem dX1_behindOfKey_14 : decode cX1_behindOfKey 14 = .ok (.aload_n 0, 1) := by decide +kernel
theorem dX1_behindOfKey_15 : decode cX1_behindOfKey 15 = .ok (.getfield 13, 3) := by decide +kernel
theorem dX1_behindOfKey_18 : decode cX1_behindOfKey 18 = .ok (.iload_n 3, 1) := by decide +kernel
theorem dX1_behindOfKey_19 : decode cX1_behindOfKey 19 = .ok (.iaload, 1) := by decide +kernel
theorem dX1_behindOfKey_20 : decode cX1_behindOfKey 20 = .ok (.aload_n 0, 1) := by decide +kernel
theorem dX1_behindOfKey_21 : decode cX1_behindOfKey 21 = .ok (.getfield 13, 3) := by decide +kernel
theorem dX1_behindOfKey_24 : decode cX1_behindOfKey 24 = .ok (.iload_n 1, 1) := by decide +kernel
theorem dX1_behindOfKey_25 : decode cX1_behindOfKey 25 = .ok (.iaload, 1) := by decide +kernel
theorem dX1_behindOfKey_26 : decode cX1_behindOfKey 26 = .ok (.if_icmp .ne 9, 3) := by decide +kernel
theorem dX1_behindOfKey_29 : decode cX1_behindOfKey 29 = .ok (.iload_n 2, 1) := by decide +kernel
theorem dX1_behindOfKey_30 : decode cX1_behindOfKey 30 = .ok (.iconst 1, 1) := by decide +kernel
theorem dX1_behindOfKey_31 : decode cX1_behindOfKey 31 = .ok (.iadd, 1) := by decide +kernel
theorem dX1_behindOfKey_32 : decode cX1_behindOfKey 32 = .ok (.goto 4, 3) := by decide +kernel
theorem dX1_behindOfKey_35 : decode cX1_behindOfKey 35 = .ok (.iload_n 2, 1) := by decide +kernel
theorem dX1_behindOfKey_36 : decode cX1_behindOfKey 36 = .ok (.istore_n 2, 1) := by decide +kernel
theorem dX1_behindOfKey_37 : decode cX1_behindOfKey 37 = .ok (.iinc 3 1, 3) := by decide +kernel
theorem dX1_behindOfKey_40 : decode cX1_behindOfKey 40 = .ok (.goto (-34), 3) := by decide +kernel
theorem dX1_behindOfKey_43 : decode cX1_behindOfKey 43 = .ok (.iload_n 2, 1) := by decide +kernel
theorem dX1_behindOfKey_44 : decode cX1_behindOfKey 44 = .ok (.ireturn, 1) := by decide +kernel
theorem dX1_isIn_0 : decode cX1_isIn 0 = .ok (.aload_n 0, 1) := by decide +kernel
theorem dX1_isIn_1 : decode cX1_isIn 1 = .ok (.getfield 22, 3) := by decide +kernel
theorem dX1_isIn_4 : decode cX1_isIn 4 = .ok (.iload_n 1, 1) := by decide +kernel
theorem dX1_isIn_5 : decode cX1_isIn 5 = .ok (.iaload, 1) := by decide +kernel
theorem dX1_isIn_6 : decode cX1_isIn 6 = .ok (.istore_n 3, 1) := by decide +kernel
theorem dX1_isIn_7 : decode cX1_isIn 7 = .ok (.iload_n 3, 1) := by decide +kernel
theorem dX1_isIn_8 : decode cX1_isIn 8 = .ok (.ifCond .ne 7, 3) := by decide +kernel
theorem dX1_isIn_11 : decode cX1_isIn 11 = .ok (.iconst 1, 1) := by decide +kernel
theorem dX1_isIn_12 : decode cX1_isIn 12 = .ok (.goto 4, 3) := by decide +kernel
theorem dX1_isIn_15 : decode cX1_isIn 15 = .ok (.iload_n 3, 1) := by decide +kernel
theorem dX1_isIn_16 : decode cX1_isIn 16 = .ok (.istore 4, 2) := by decide +kernel
theorem dX1_isIn_18 : decode cX1_isIn 18 = .ok (.aload_n 0, 1) := by decide +kernel
theorem dX1_isIn_19 : decode cX1_isIn 19 = .ok (.getfield 19, 3) := by decide +kernel
theorem dX1_isIn_22 : decode cX1_isIn 22 = .ok (.iload_n 1, 1) := by decide +kernel
theorem dX1_isIn_23 : decode cX1_isIn 23 = .ok (.iaload, 1) := by decide +kernel
theorem dX1_isIn_24 : decode cX1_isIn 24 = .ok (.tableswitch 120 0 4 #[36, 57, 73, 88, 113], 36) := by decide +kernel
theorem dX1_isIn_60 : decode cX1_isIn 60 = .ok (.aload_n 0, 1) := by decide +kernel
theorem dX1_isIn_61 : decode cX1_isIn 61 = .ok (.getfield 7, 3) := by decide +kernel
theorem dX1_isIn_64 : decode cX1_isIn 64 = .ok (.iload_n 2, 1) := by decide +kernel
theorem dX1_isIn_65 : decode cX1_isIn 65 = .ok (.iaload, 1) := by decide +kernel
theorem dX1_isIn_66 : decode cX1_isIn 66 = .ok (.aload_n 0, 1) := by decide +kernel
theorem dX1_isIn_67 : decode cX1_isIn 67 = .ok (.getfield 35, 3) := by decide +kernel
theorem dX1_isIn_70 : decode cX1_isIn 70 = .ok (.iload_n 3, 1) := by decide +kernel
theorem dX1_isIn_71 : decode cX1_isIn 71 = .ok (.isub, 1) := by decide +kernel
theorem dX1_isIn_72 : decode cX1_isIn 72 = .ok (.if_icmp .lt 7, 3) := by decide +kernel
theorem dX1_isIn_75 : decode cX1_isIn 75 = .ok (.iconst 1, 1) := by decide +kernel
theorem dX1_isIn_76 : decode cX1_isIn 76 = .ok (.goto 4, 3) := by decide +kernel
theorem dX1_isIn_79 : decode cX1_isIn 79 = .ok (.iconst 0, 1) := by decide +kernel
theorem dX1_isIn_80 : decode cX1_isIn 80 = .ok (.ireturn, 1) := by decide +kernel
theorem dX1_isIn_81 : decode cX1_isIn 81 = .ok (.iload_n 2, 1) := by decide +kernel
theorem dX1_isIn_82 : decode cX1_isIn 82 = .ok (.aload_n 0, 1) := by decide +kernel
theorem dX1_isIn_83 : decode cX1_isIn 83 = .ok (.getfield 32, 3) := by decide +kernel
theorem dX1_isIn_86 : decode cX1_isIn 86 = .ok (.iload_n 3, 1) := by decide +kernel
theorem dX1_isIn_87 : decode cX1_isIn 87 = .ok (.isub, 1) := by decide +kernel
theorem dX1_isIn_88 : decode cX1_isIn 88 = .ok (.if_icmp .lt 7, 3) := by decide +kernel
theorem dX1_isIn_91 : decode cX1_isIn 91 = .ok (.iconst 1, 1) := by decide +kernel
theorem dX1_isIn_92 : decode cX1_isIn 92 = .ok (.goto 4, 3) := by decide +kernel
theorem dX1_isIn_95 : decode cX1_isIn 95 = .ok (.iconst 0, 1) := by decide +kernel
theorem dX1_isIn_96 : decode cX1_isIn 96 = .ok (.ireturn, 1) := by decide +kernel
theorem dX1_isIn_97 : decode cX1_isIn 97 = .ok (.aload_n 0, 1) := by decide +kernel
theorem dX1_isIn_98 : decode cX1_isIn 98 = .ok (.iload_n 2, 1) := by decide +kernel
theorem dX1_isIn_99 : decode cX1_isIn 99 = .ok (.invokevirtual 50, 3) := by decide +kernel
theorem dX1_isIn_102 : decode cX1_isIn 102 = .ok (.iload_n 3, 1) := by decide +kernel
theorem dX1_isIn_103 : decode cX1_isIn 103 = .ok (.if_icmp .ge 7, 3) := by decide +kernel
theorem dX1_isIn_106 : decode cX1_isIn 106 = .ok (.iconst 1, 1) := by decide +kernel
theorem dX1_isIn_107 : decode cX1_isIn 107 = .ok (.goto 4, 3) := by decide +kernel
theorem dX1_isIn_110 : decode cX1_isIn 110 = .ok (.iconst 0, 1) := by decide +kernel
theorem dX1_isIn_111 : decode cX1_isIn 111 = .ok (.ireturn, 1) := by decide +kernel
theorem dX1_isIn_112 : decode cX1_isIn 112 = .ok (.aload_n 0, 1) := by decide +kernel
theorem dX1_isIn_113 : decode cX1_isIn 113 = .ok (.getfield 7, 3) := by decide +kernel
theorem dX1_isIn_116 : decode cX1_isIn 116 = .ok (.iload_n 2, 1) := by decide +kernel
theorem dX1_isIn_117 : decode cX1_isIn 117 = .ok (.iaload, 1) := by decide +kernel
theorem dX1_isIn_118 : decode cX1_isIn 118 = .ok (.iload 4, 2) := by decide +kernel
theorem dX1_isIn_120 : decode cX1_isIn 120 = .ok (.idiv, 1) := by decide +kernel
theorem dX1_isIn_121 : decode cX1_isIn 121 = .ok (.aload_n 0, 1) := by decide +kernel
theorem dX1_isIn_122 : decode cX1_isIn 122 = .ok (.getfield 35, 3) := by decide +kernel
theorem dX1_isIn_125 : decode cX1_isIn 125 = .ok (.iload 4, 2) := by decide +kernel
theorem dX1_isIn_127 : decode cX1_isIn 127 = .ok (.idiv, 1) := by decide +kernel
theorem dX1_isIn_128 : decode cX1_isIn 128 = .ok (.if_icmp .ne 7, 3) := by decide +kernel
theorem dX1_isIn_131 : decode cX1_isIn 131 = .ok (.iconst 1, 1) := by decide +kernel
theorem dX1_isIn_132 : decode cX1_isIn 132 = .ok (.goto 4, 3) := by decide +kernel
theorem dX1_isIn_135 : decode cX1_isIn 135 = .ok (.iconst 0, 1) := by decide +kernel
theorem dX1_isIn_136 : decode cX1_isIn 136 = .ok (.ireturn, 1) := by decide +kernel
theorem dX1_isIn_137 : decode cX1_isIn 137 = .ok (.aload_n 0, 1) := by decide +kernel
theorem dX1_isIn_138 : decode cX1_isIn 138 = .ok (.iload_n 2, 1) := by decide +kernel
theorem dX1_isIn_139 : decode cX1_isIn 139 = .ok (.iload_n 3, 1) := by decide +kernel
theorem dX1_isIn_140 : decode cX1_isIn 140 = .ok (.invokevirtual 54, 3) := by decide +kernel
theorem dX1_isIn_143 : decode cX1_isIn 143 = .ok (.ireturn, 1) := by decide +kernel
theorem dX1_isIn_144 : decode cX1_isIn 144 = .ok (.aload_n 0, 1) := by decide +kernel
theorem dX1_isIn_145 : decode cX1_isIn 145 = .ok (.getfield 7, 3) := by decide +kernel
theorem dX1_isIn_148 : decode cX1_isIn 148 = .ok (.iload_n 2, 1) := by decide +kernel
theorem dX1_isIn_149 : decode cX1_isIn 149 = .ok (.iaload, 1) := by decide +kernel
theorem dX1_isIn_150 : decode cX1_isIn 150 = .ok (.aload_n 0, 1) := by decide +kernel
theorem dX1_isIn_151 : decode cX1_isIn 151 = .ok (.getfield 35, 3) := by decide +kernel
theorem dX1_isIn_154 : decode cX1_isIn 154 = .ok (.iload_n 3, 1) := by decide +kernel
theorem dX1_isIn_155 : decode cX1_isIn 155 = .ok (.isub, 1) := by decide +kernel
theorem dX1_isIn_156 : decode cX1_isIn 156 = .ok (.if_icmp .ge 7, 3) := by decide +kernel
theorem dX1_isIn_159 : decode cX1_isIn 159 = .ok (.iconst 1, 1) := by decide +kernel
theorem dX1_isIn_160 : decode cX1_isIn 160 = .ok (.goto 4, 3) := by decide +kernel
theorem dX1_isIn_163 : decode cX1_isIn 163 = .ok (.iconst 0, 1) := by decide +kernel
theorem dX1_isIn_164 : decode cX1_isIn 164 = .ok (.ireturn, 1) := by decide +kernel
theorem dX1_hold_0 : decode cX1_hold 0 = .ok (.aload_n 0, 1) := by decide +kernel
theorem dX1_hold_1 : decode cX1_hold 1 = .ok (.iconst 0, 1) := by decide +kernel
theorem dX1_hold_2 : decode cX1_hold 2 = .ok (.putfield 58, 3) := by decide +kernel
theorem dX1_hold_5 : decode cX1_hold 5 = .ok (.iconst 0, 1) := by decide +kernel
theorem dX1_hold_6 : decode cX1_hold 6 = .ok (.istore_n 2, 1) := by decide +kernel
theorem dX1_hold_7 : decode cX1_hold 7 = .ok (.iload_n 2, 1) := by decide +kernel
theorem dX1_hold_8 : decode cX1_hold 8 = .ok (.aload_n 0, 1) := by decide +kernel
theorem dX1_hold_9 : decode cX1_hold 9 = .ok (.getfield 32, 3) := by decide +kernel
theorem dX1_hold_12 : decode cX1_hold 12 = .ok (.if_icmp .ge 86, 3) := by decide +kernel
theorem dX1_hold_15 : decode cX1_hold 15 = .ok (.aload_n 0, 1) := by decide +kernel
theorem dX1_hold_16 : decode cX1_hold 16 = .ok (.iload_n 1, 1) := by decide +kernel
theorem dX1_hold_17 : decode cX1_hold 17 = .ok (.iload_n 2, 1) := by decide +kernel
theorem dX1_hold_18 : decode cX1_hold 18 = .ok (.invokevirtual 61, 3) := by decide +kernel
theorem dX1_hold_21 : decode cX1_hold 21 = .ok (.ifCond .eq 71, 3) := by decide +kernel
theorem dX1_hold_24 : decode cX1_hold 24 = .ok (.aload_n 0, 1) := by decide +kernel
theorem dX1_hold_25 : decode cX1_hold 25 = .ok (.getfield 58, 3) := by decide +kernel
theorem dX1_hold_28 : decode cX1_hold 28 = .ok (.istore_n 3, 1) := by decide +kernel
theorem dX1_hold_29 : decode cX1_hold 29 = .ok (.iload_n 3, 1) := by decide +kernel
theorem dX1_hold_30 : decode cX1_hold 30 = .ok (.ifCond .le 40, 3) := by decide +kernel
theorem dX1_hold_33 : decode cX1_hold 33 = .ok (.aload_n 0, 1) := by decide +kernel
theorem dX1_hold_34 : decode cX1_hold 34 = .ok (.getfield 25, 3) := by decide +kernel
theorem dX1_hold_37 : decode cX1_hold 37 = .ok (.iload_n 3, 1) := by decide +kernel
theorem dX1_hold_38 : decode cX1_hold 38 = .ok (.iconst 1, 1) := by decide +kernel
theorem dX1_hold_39 : decode cX1_hold 39 = .ok (.isub, 1) := by decide +kernel
theorem dX1_hold_40 : decode cX1_hold 40 = .ok (.iaload, 1) := by decide +kernel
theorem dX1_hold_41 : decode cX1_hold 41 = .ok (.aload_n 0, 1) := by decide +kernel
theorem dX1_hold_42 : decode cX1_hold 42 = .ok (.getfield 16, 3) := by decide +kernel
theorem dX1_hold_45 : decode cX1_hold 45 = .ok (.iload_n 2, 1) := by decide +kernel
theorem dX1_hold_46 : decode cX1_hold 46 = .ok (.iaload, 1) := by decide +kernel
theorem dX1_hold_47 : decode cX1_hold 47 = .ok (.if_icmp .le 23, 3) := by decide +kernel
theorem dX1_hold_50 : decode cX1_hold 50 = .ok (.aload_n 0, 1) := by decide +kernel
theorem dX1_hold_51 : decode cX1_hold 51 = .ok (.getfield 25, 3) := by decide +kernel
theorem dX1_hold_54 : decode cX1_hold 54 = .ok (.iload_n 3, 1) := by decide +kernel
theorem dX1_hold_55 : decode cX1_hold 55 = .ok (.aload_n 0, 1) := by decide +kernel
theorem dX1_hold_56 : decode cX1_hold 56 = .ok (.getfield 25, 3) := by decide +kernel
theorem dX1_hold_59 : decode cX1_hold 59 = .ok (.iload_n 3, 1) := by decide +kernel
theorem dX1_hold_60 : decode cX1_hold 60 = .ok (.iconst 1, 1) := by decide +kernel
theorem dX1_hold_61 : decode cX1_hold 61 = .ok (.isub, 1) := by decide +kernel
theorem dX1_hold_62 : decode cX1_hold 62 = .ok (.iaload, 1) := by decide +kernel
theorem dX1_hold_63 : decode cX1_hold 63 = .ok (.iastore, 1) := by decide +kernel
theorem dX1_hold_64 : decode cX1_hold 64 = .ok (.iinc 3 (-1), 3) := by decide +kernel
theorem dX1_hold_67 : decode cX1_hold 67 = .ok (.goto (-38), 3) := by decide +kernel
theorem dX1_hold_70 : decode cX1_hold 70 = .ok (.aload_n 0, 1) := by decide +kernel
theorem dX1_hold_71 : decode cX1_hold 71 = .ok (.getfield 25, 3) := by decide +kernel
theorem dX1_hold_74 : decode cX1_hold 74 = .ok (.iload_n 3, 1) := by decide +kernel
theorem dX1_hold_75 : decode cX1_hold 75 = .ok (.aload_n 0, 1) := by decide +kernel
theorem dX1_hold_76 : decode cX1_hold 76 = .ok (.getfield 16, 3) := by decide +kernel
theorem dX1_hold_79 : decode cX1_hold 79 = .ok (.iload_n 2, 1) := by decide +kernel
theorem dX1_hold_80 : decode cX1_hold 80 = .ok (.iaload, 1) := by decide +kernel
theorem dX1_hold_81 : decode cX1_hold 81 = .ok (.iastore, 1) := by decide +kernel
theorem dX1_hold_82 : decode cX1_hold 82 = .ok (.aload_n 0, 1) := by decide +kernel
theorem dX1_hold_83 : decode cX1_hold 83 = .ok (.dup, 1) := by decide +kernel
theorem dX1_hold_84 : decode cX1_hold 84 = .ok (.getfield 58, 3) := by decide +kernel
theorem dX1_hold_87 : decode cX1_hold 87 = .ok (.iconst 1, 1) := by decide +kernel
theorem dX1_hold_88 : decode cX1_hold 88 = .ok (.iadd, 1) := by decide +kernel
theorem dX1_hold_89 : decode cX1_hold 89 = .ok (.putfield 58, 3) := by decide +kernel
theorem dX1_hold_92 : decode cX1_hold 92 = .ok (.iinc 2 1, 3) := by decide +kernel
theorem dX1_hold_95 : decode cX1_hold 95 = .ok (.goto (-88), 3) := by decide +kernel
theorem dX1_hold_98 : decode cX1_hold 98 = .ok (.return_, 1) := by decide +kernel
theorem dX1_most_0 : decode cX1_most 0 = .ok (.iconst (-1), 1) := by decide +kernel
theorem dX1_most_1 : decode cX1_most 1 = .ok (.istore_n 1, 1) := by decide +kernel
theorem dX1_most_2 : decode cX1_most 2 = .ok (.aload_n 0, 1) := by decide +kernel
theorem dX1_most_3 : decode cX1_most 3 = .ok (.iconst 0, 1) := by decide +kernel
theorem dX1_most_4 : decode cX1_most 4 = .ok (.putfield 64, 3) := by decide +kernel
theorem dX1_most_7 : decode cX1_most 7 = .ok (.iconst 0, 1) := by decide +kernel
theorem dX1_most_8 : decode cX1_most 8 = .ok (.istore_n 2, 1) := by decide +kernel
theorem dX1_most_9 : decode cX1_most 9 = .ok (.iconst 0, 1) := by decide +kernel
theorem dX1_most_10 : decode cX1_most 10 = .ok (.istore_n 3, 1) := by decide +kernel
theorem dX1_most_11 : decode cX1_most 11 = .ok (.iload_n 3, 1) := by decide +kernel
theorem dX1_most_12 : decode cX1_most 12 = .ok (.aload_n 0, 1) := by decide +kernel
theorem dX1_most_13 : decode cX1_most 13 = .ok (.getfield 58, 3) := by decide +kernel
theorem dX1_most_16 : decode cX1_most 16 = .ok (.if_icmp .ge 80, 3) := by decide +kernel
theorem dX1_most_19 : decode cX1_most 19 = .ok (.iload_n 3, 1) := by decide +kernel
theorem dX1_most_20 : decode cX1_most 20 = .ok (.ifCond .le 24, 3) := by decide +kernel
theorem dX1_most_23 : decode cX1_most 23 = .ok (.aload_n 0, 1) := by decide +kernel
theorem dX1_most_24 : decode cX1_most 24 = .ok (.getfield 25, 3) := by decide +kernel
theorem dX1_most_27 : decode cX1_most 27 = .ok (.iload_n 3, 1) := by decide +kernel
theorem dX1_most_28 : decode cX1_most 28 = .ok (.iaload, 1) := by decide +kernel
theorem dX1_most_29 : decode cX1_most 29 = .ok (.aload_n 0, 1) := by decide +kernel
theorem dX1_most_30 : decode cX1_most 30 = .ok (.getfield 25, 3) := by decide +kernel
theorem dX1_most_33 : decode cX1_most 33 = .ok (.iload_n 3, 1) := by decide +kernel
theorem dX1_most_34 : decode cX1_most 34 = .ok (.iconst 1, 1) := by decide +kernel
theorem dX1_most_35 : decode cX1_most 35 = .ok (.isub, 1) := by decide +kernel
theorem dX1_most_36 : decode cX1_most 36 = .ok (.iaload, 1) := by decide +kernel
theorem dX1_most_37 : decode cX1_most 37 = .ok (.if_icmp .eq 7, 3) := by decide +kernel
theorem dX1_most_40 : decode cX1_most 40 = .ok (.iload_n 3, 1) := by decide +kernel
theorem dX1_most_41 : decode cX1_most 41 = .ok (.goto 4, 3) := by decide +kernel
theorem dX1_most_44 : decode cX1_most 44 = .ok (.iload_n 2, 1) := by decide +kernel
theorem dX1_most_45 : decode cX1_most 45 = .ok (.istore_n 2, 1) := by decide +kernel
theorem dX1_most_46 : decode cX1_most 46 = .ok (.iload_n 3, 1) := by decide +kernel
theorem dX1_most_47 : decode cX1_most 47 = .ok (.iload_n 2, 1) := by decide +kernel
theorem dX1_most_48 : decode cX1_most 48 = .ok (.isub, 1) := by decide +kernel
theorem dX1_most_49 : decode cX1_most 49 = .ok (.iconst 1, 1) := by decide +kernel
theorem dX1_most_50 : decode cX1_most 50 = .ok (.iadd, 1) := by decide +kernel
theorem dX1_most_51 : decode cX1_most 51 = .ok (.istore 4, 2) := by decide +kernel
theorem dX1_most_53 : decode cX1_most 53 = .ok (.iload 4, 2) := by decide +kernel
theorem dX1_most_55 : decode cX1_most 55 = .ok (.aload_n 0, 1) := by decide +kernel
theorem dX1_most_56 : decode cX1_most 56 = .ok (.getfield 64, 3) := by decide +kernel
theorem dX1_most_59 : decode cX1_most 59 = .ok (.if_icmp .le 7, 3) := by decide +kernel
theorem dX1_most_62 : decode cX1_most 62 = .ok (.iload_n 2, 1) := by decide +kernel
theorem dX1_most_63 : decode cX1_most 63 = .ok (.goto 4, 3) := by decide +kernel
theorem dX1_most_66 : decode cX1_most 66 = .ok (.iload_n 1, 1) := by decide +kernel
theorem dX1_most_67 : decode cX1_most 67 = .ok (.istore_n 1, 1) := by decide +kernel
theorem dX1_most_68 : decode cX1_most 68 = .ok (.aload_n 0, 1) := by decide +kernel
theorem dX1_most_69 : decode cX1_most 69 = .ok (.iload 4, 2) := by decide +kernel
theorem dX1_most_71 : decode cX1_most 71 = .ok (.aload_n 0, 1) := by decide +kernel
theorem dX1_most_72 : decode cX1_most 72 = .ok (.getfield 64, 3) := by decide +kernel
theorem dX1_most_75 : decode cX1_most 75 = .ok (.if_icmp .le 8, 3) := by decide +kernel
theorem dX1_most_78 : decode cX1_most 78 = .ok (.iload 4, 2) := by decide +kernel
theorem dX1_most_80 : decode cX1_most 80 = .ok (.goto 7, 3) := by decide +kernel
theorem dX1_most_83 : decode cX1_most 83 = .ok (.aload_n 0, 1) := by decide +kernel
theorem dX1_most_84 : decode cX1_most 84 = .ok (.getfield 64, 3) := by decide +kernel
theorem dX1_most_87 : decode cX1_most 87 = .ok (.putfield 64, 3) := by decide +kernel
theorem dX1_most_90 : decode cX1_most 90 = .ok (.iinc 3 1, 3) := by decide +kernel
theorem dX1_most_93 : decode cX1_most 93 = .ok (.goto (-82), 3) := by decide +kernel
theorem dX1_most_96 : decode cX1_most 96 = .ok (.iload_n 1, 1) := by decide +kernel
theorem dX1_most_97 : decode cX1_most 97 = .ok (.ireturn, 1) := by decide +kernel
theorem dX1_isWindow_0 : decode cX1_isWindow 0 = .ok (.iload_n 1, 1) := by decide +kernel
theorem dX1_isWindow_1 : decode cX1_isWindow 1 = .ok (.iconst 0, 1) := by decide +kernel
theorem dX1_isWindow_2 : decode cX1_isWindow 2 = .ok (.aload_n 0, 1) := by decide +kernel
theorem dX1_isWindow_3 : decode cX1_isWindow 3 = .ok (.getfield 38, 3) := by decide +kernel
theorem dX1_isWindow_6 : decode cX1_isWindow 6 = .ok (.iconst 1, 1) := by decide +kernel
theorem dX1_isWindow_7 : decode cX1_isWindow 7 = .ok (.isub, 1) := by decide +kernel
theorem dX1_isWindow_8 : decode cX1_isWindow 8 = .ok (.invokestatic 41, 3) := by decide +kernel
theorem dX1_isWindow_11 : decode cX1_isWindow 11 = .ok (.ireturn, 1) := by decide +kernel
theorem dX1_meter_0 : decode cX1_meter 0 = .ok (.aload_n 0, 1) := by decide +kernel
theorem dX1_meter_1 : decode cX1_meter 1 = .ok (.aload_n 0, 1) := by decide +kernel
theorem dX1_meter_2 : decode cX1_meter 2 = .ok (.iload_n 1, 1) := by decide +kernel
theorem dX1_meter_3 : decode cX1_meter 3 = .ok (.invokevirtual 67, 3) := by decide +kernel
theorem dX1_meter_6 : decode cX1_meter 6 = .ok (.ifCond .ne 7, 3) := by decide +kernel
theorem dX1_meter_9 : decode cX1_meter 9 = .ok (.iconst 1, 1) := by decide +kernel
theorem dX1_meter_10 : decode cX1_meter 10 = .ok (.goto 4, 3) := by decide +kernel
theorem dX1_meter_13 : decode cX1_meter 13 = .ok (.iconst 0, 1) := by decide +kernel
theorem dX1_meter_14 : decode cX1_meter 14 = .ok (.aload_n 0, 1) := by decide +kernel
theorem dX1_meter_15 : decode cX1_meter 15 = .ok (.iload_n 1, 1) := by decide +kernel
theorem dX1_meter_16 : decode cX1_meter 16 = .ok (.invokevirtual 67, 3) := by decide +kernel
theorem dX1_meter_19 : decode cX1_meter 19 = .ok (.ifCond .eq 16, 3) := by decide +kernel
theorem dX1_meter_22 : decode cX1_meter 22 = .ok (.iload_n 2, 1) := by decide +kernel
theorem dX1_meter_23 : decode cX1_meter 23 = .ok (.iconst 0, 1) := by decide +kernel
theorem dX1_meter_24 : decode cX1_meter 24 = .ok (.iconst 3, 1) := by decide +kernel
theorem dX1_meter_25 : decode cX1_meter 25 = .ok (.invokestatic 41, 3) := by decide +kernel
theorem dX1_meter_28 : decode cX1_meter 28 = .ok (.ifCond .ne 7, 3) := by decide +kernel
theorem dX1_meter_31 : decode cX1_meter 31 = .ok (.iconst 1, 1) := by decide +kernel
theorem dX1_meter_32 : decode cX1_meter 32 = .ok (.goto 4, 3) := by decide +kernel
theorem dX1_meter_35 : decode cX1_meter 35 = .ok (.iconst 0, 1) := by decide +kernel
theorem dX1_meter_36 : decode cX1_meter 36 = .ok (.invokevirtual 46, 3) := by decide +kernel
theorem dX1_meter_39 : decode cX1_meter 39 = .ok (.ifCond .eq 5, 3) := by decide +kernel
theorem dX1_meter_42 : decode cX1_meter 42 = .ok (.iconst 0, 1) := by decide +kernel
theorem dX1_meter_43 : decode cX1_meter 43 = .ok (.ireturn, 1) := by decide +kernel
theorem dX1_meter_44 : decode cX1_meter 44 = .ok (.aload_n 0, 1) := by decide +kernel
theorem dX1_meter_45 : decode cX1_meter 45 = .ok (.iload_n 1, 1) := by decide +kernel
theorem dX1_meter_46 : decode cX1_meter 46 = .ok (.invokevirtual 71, 3) := by decide +kernel
theorem dX1_meter_49 : decode cX1_meter 49 = .ok (.iconst 0, 1) := by decide +kernel
theorem dX1_meter_50 : decode cX1_meter 50 = .ok (.istore_n 3, 1) := by decide +kernel
theorem dX1_meter_51 : decode cX1_meter 51 = .ok (.iconst 0, 1) := by decide +kernel
theorem dX1_meter_52 : decode cX1_meter 52 = .ok (.istore 4, 2) := by decide +kernel
theorem dX1_meter_54 : decode cX1_meter 54 = .ok (.iconst 0, 1) := by decide +kernel
theorem dX1_meter_55 : decode cX1_meter 55 = .ok (.istore 5, 2) := by decide +kernel
theorem dX1_meter_57 : decode cX1_meter 57 = .ok (.iload 5, 2) := by decide +kernel
theorem dX1_meter_59 : decode cX1_meter 59 = .ok (.aload_n 0, 1) := by decide +kernel
theorem dX1_meter_60 : decode cX1_meter 60 = .ok (.getfield 58, 3) := by decide +kernel
theorem dX1_meter_63 : decode cX1_meter 63 = .ok (.if_icmp .ge 54, 3) := by decide +kernel
theorem dX1_meter_66 : decode cX1_meter 66 = .ok (.iload_n 3, 1) := by decide +kernel
theorem dX1_meter_67 : decode cX1_meter 67 = .ok (.aload_n 0, 1) := by decide +kernel
theorem dX1_meter_68 : decode cX1_meter 68 = .ok (.getfield 25, 3) := by decide +kernel
theorem dX1_meter_71 : decode cX1_meter 71 = .ok (.iload 5, 2) := by decide +kernel
theorem dX1_meter_73 : decode cX1_meter 73 = .ok (.iaload, 1) := by decide +kernel
theorem dX1_meter_74 : decode cX1_meter 74 = .ok (.iadd, 1) := by decide +kernel
theorem dX1_meter_75 : decode cX1_meter 75 = .ok (.istore_n 3, 1) := by decide +kernel
theorem dX1_meter_76 : decode cX1_meter 76 = .ok (.iload 5, 2) := by decide +kernel
theorem dX1_meter_78 : decode cX1_meter 78 = .ok (.ifCond .eq 22, 3) := by decide +kernel
theorem dX1_meter_81 : decode cX1_meter 81 = .ok (.aload_n 0, 1) := by decide +kernel
theorem dX1_meter_82 : decode cX1_meter 82 = .ok (.getfield 25, 3) := by decide +kernel
theorem dX1_meter_85 : decode cX1_meter 85 = .ok (.iload 5, 2) := by decide +kernel
theorem dX1_meter_87 : decode cX1_meter 87 = .ok (.iaload, 1) := by decide +kernel
theorem dX1_meter_88 : decode cX1_meter 88 = .ok (.aload_n 0, 1) := by decide +kernel
theorem dX1_meter_89 : decode cX1_meter 89 = .ok (.getfield 25, 3) := by decide +kernel
theorem dX1_meter_92 : decode cX1_meter 92 = .ok (.iload 5, 2) := by decide +kernel
theorem dX1_meter_94 : decode cX1_meter 94 = .ok (.iconst 1, 1) := by decide +kernel
theorem dX1_meter_95 : decode cX1_meter 95 = .ok (.isub, 1) := by decide +kernel
theorem dX1_meter_96 : decode cX1_meter 96 = .ok (.iaload, 1) := by decide +kernel
theorem dX1_meter_97 : decode cX1_meter 97 = .ok (.if_icmp .eq 10, 3) := by decide +kernel
theorem dX1_meter_100 : decode cX1_meter 100 = .ok (.iload 4, 2) := by decide +kernel
theorem dX1_meter_102 : decode cX1_meter 102 = .ok (.iconst 1, 1) := by decide +kernel
theorem dX1_meter_103 : decode cX1_meter 103 = .ok (.iadd, 1) := by decide +kernel
theorem dX1_meter_104 : decode cX1_meter 104 = .ok (.goto 5, 3) := by decide +kernel
theorem dX1_meter_107 : decode cX1_meter 107 = .ok (.iload 4, 2) := by decide +kernel
theorem dX1_meter_109 : decode cX1_meter 109 = .ok (.istore 4, 2) := by decide +kernel
theorem dX1_meter_111 : decode cX1_meter 111 = .ok (.iinc 5 1, 3) := by decide +kernel
theorem dX1_meter_114 : decode cX1_meter 114 = .ok (.goto (-57), 3) := by decide +kernel
theorem dX1_meter_117 : decode cX1_meter 117 = .ok (.aload_n 0, 1) := by decide +kernel
theorem dX1_meter_118 : decode cX1_meter 118 = .ok (.invokevirtual 75, 3) := by decide +kernel
theorem dX1_meter_121 : decode cX1_meter 121 = .ok (.pop, 1) := by decide +kernel
theorem dX1_meter_122 : decode cX1_meter 122 = .ok (.iload_n 2, 1) := by decide +kernel
theorem dX1_meter_123 : decode cX1_meter 123 = .ok (.ifCond .ne 10, 3) := by decide +kernel
theorem dX1_meter_126 : decode cX1_meter 126 = .ok (.aload_n 0, 1) := by decide +kernel
theorem dX1_meter_127 : decode cX1_meter 127 = .ok (.getfield 58, 3) := by decide +kernel
theorem dX1_meter_130 : decode cX1_meter 130 = .ok (.goto 26, 3) := by decide +kernel
theorem dX1_meter_133 : decode cX1_meter 133 = .ok (.iload_n 2, 1) := by decide +kernel
theorem dX1_meter_134 : decode cX1_meter 134 = .ok (.iconst 1, 1) := by decide +kernel
theorem dX1_meter_135 : decode cX1_meter 135 = .ok (.if_icmp .ne 7, 3) := by decide +kernel
theorem dX1_meter_138 : decode cX1_meter 138 = .ok (.iload_n 3, 1) := by decide +kernel
theorem dX1_meter_139 : decode cX1_meter 139 = .ok (.goto 17, 3) := by decide +kernel
theorem dX1_meter_142 : decode cX1_meter 142 = .ok (.iload_n 2, 1) := by decide +kernel
theorem dX1_meter_143 : decode cX1_meter 143 = .ok (.iconst 2, 1) := by decide +kernel
theorem dX1_meter_144 : decode cX1_meter 144 = .ok (.if_icmp .ne 8, 3) := by decide +kernel
theorem dX1_meter_147 : decode cX1_meter 147 = .ok (.iload 4, 2) := by decide +kernel
theorem dX1_meter_149 : decode cX1_meter 149 = .ok (.goto 7, 3) := by decide +kernel
theorem dX1_meter_152 : decode cX1_meter 152 = .ok (.aload_n 0, 1) := by decide +kernel
theorem dX1_meter_153 : decode cX1_meter 153 = .ok (.getfield 64, 3) := by decide +kernel
theorem dX1_meter_156 : decode cX1_meter 156 = .ok (.ireturn, 1) := by decide +kernel
theorem dX1_kth_0 : decode cX1_kth 0 = .ok (.aload_n 0, 1) := by decide +kernel
theorem dX1_kth_1 : decode cX1_kth 1 = .ok (.iload_n 1, 1) := by decide +kernel
theorem dX1_kth_2 : decode cX1_kth 2 = .ok (.invokevirtual 67, 3) := by decide +kernel
theorem dX1_kth_5 : decode cX1_kth 5 = .ok (.ifCond .eq 8, 3) := by decide +kernel
theorem dX1_kth_8 : decode cX1_kth 8 = .ok (.aload_n 0, 1) := by decide +kernel
theorem dX1_kth_9 : decode cX1_kth 9 = .ok (.iload_n 1, 1) := by decide +kernel
theorem dX1_kth_10 : decode cX1_kth 10 = .ok (.invokevirtual 71, 3) := by decide +kernel
theorem dX1_kth_13 : decode cX1_kth 13 = .ok (.aload_n 0, 1) := by decide +kernel
theorem dX1_kth_14 : decode cX1_kth 14 = .ok (.aload_n 0, 1) := by decide +kernel
theorem dX1_kth_15 : decode cX1_kth 15 = .ok (.iload_n 1, 1) := by decide +kernel
theorem dX1_kth_16 : decode cX1_kth 16 = .ok (.invokevirtual 67, 3) := by decide +kernel
theorem dX1_kth_19 : decode cX1_kth 19 = .ok (.ifCond .ne 7, 3) := by decide +kernel
theorem dX1_kth_22 : decode cX1_kth 22 = .ok (.iconst 1, 1) := by decide +kernel
theorem dX1_kth_23 : decode cX1_kth 23 = .ok (.goto 4, 3) := by decide +kernel
theorem dX1_kth_26 : decode cX1_kth 26 = .ok (.iconst 0, 1) := by decide +kernel
theorem dX1_kth_27 : decode cX1_kth 27 = .ok (.aload_n 0, 1) := by decide +kernel
theorem dX1_kth_28 : decode cX1_kth 28 = .ok (.iload_n 1, 1) := by decide +kernel
theorem dX1_kth_29 : decode cX1_kth 29 = .ok (.invokevirtual 67, 3) := by decide +kernel
theorem dX1_kth_32 : decode cX1_kth 32 = .ok (.ifCond .eq 21, 3) := by decide +kernel
theorem dX1_kth_35 : decode cX1_kth 35 = .ok (.iload_n 2, 1) := by decide +kernel
theorem dX1_kth_36 : decode cX1_kth 36 = .ok (.iconst 0, 1) := by decide +kernel
theorem dX1_kth_37 : decode cX1_kth 37 = .ok (.aload_n 0, 1) := by decide +kernel
theorem dX1_kth_38 : decode cX1_kth 38 = .ok (.getfield 58, 3) := by decide +kernel
theorem dX1_kth_41 : decode cX1_kth 41 = .ok (.iconst 1, 1) := by decide +kernel
theorem dX1_kth_42 : decode cX1_kth 42 = .ok (.isub, 1) := by decide +kernel
theorem dX1_kth_43 : decode cX1_kth 43 = .ok (.invokestatic 41, 3) := by decide +kernel
theorem dX1_kth_46 : decode cX1_kth 46 = .ok (.ifCond .ne 7, 3) := by decide +kernel
theorem dX1_kth_49 : decode cX1_kth 49 = .ok (.iconst 1, 1) := by decide +kernel
theorem dX1_kth_50 : decode cX1_kth 50 = .ok (.goto 4, 3) := by decide +kernel
theorem dX1_kth_53 : decode cX1_kth 53 = .ok (.iconst 0, 1) := by decide +kernel
theorem dX1_kth_54 : decode cX1_kth 54 = .ok (.invokevirtual 46, 3) := by decide +kernel
theorem dX1_kth_57 : decode cX1_kth 57 = .ok (.ifCond .eq 5, 3) := by decide +kernel
theorem dX1_kth_60 : decode cX1_kth 60 = .ok (.iconst 0, 1) := by decide +kernel
theorem dX1_kth_61 : decode cX1_kth 61 = .ok (.ireturn, 1) := by decide +kernel
theorem dX1_kth_62 : decode cX1_kth 62 = .ok (.aload_n 0, 1) := by decide +kernel
theorem dX1_kth_63 : decode cX1_kth 63 = .ok (.getfield 25, 3) := by decide +kernel
theorem dX1_kth_66 : decode cX1_kth 66 = .ok (.iload_n 2, 1) := by decide +kernel
theorem dX1_kth_67 : decode cX1_kth 67 = .ok (.iaload, 1) := by decide +kernel
theorem dX1_kth_68 : decode cX1_kth 68 = .ok (.ireturn, 1) := by decide +kernel
theorem dX1_frequent_0 : decode cX1_frequent 0 = .ok (.aload_n 0, 1) := by decide +kernel
theorem dX1_frequent_1 : decode cX1_frequent 1 = .ok (.iload_n 1, 1) := by decide +kernel
theorem dX1_frequent_2 : decode cX1_frequent 2 = .ok (.invokevirtual 67, 3) := by decide +kernel
theorem dX1_frequent_5 : decode cX1_frequent 5 = .ok (.ifCond .eq 8, 3) := by decide +kernel
theorem dX1_frequent_8 : decode cX1_frequent 8 = .ok (.aload_n 0, 1) := by decide +kernel
theorem dX1_frequent_9 : decode cX1_frequent 9 = .ok (.iload_n 1, 1) := by decide +kernel
theorem dX1_frequent_10 : decode cX1_frequent 10 = .ok (.invokevirtual 71, 3) := by decide +kernel
theorem dX1_frequent_13 : decode cX1_frequent 13 = .ok (.aload_n 0, 1) := by decide +kernel
theorem dX1_frequent_14 : decode cX1_frequent 14 = .ok (.aload_n 0, 1) := by decide +kernel
theorem dX1_frequent_15 : decode cX1_frequent 15 = .ok (.iload_n 1, 1) := by decide +kernel
theorem dX1_frequent_16 : decode cX1_frequent 16 = .ok (.invokevirtual 67, 3) := by decide +kernel
theorem dX1_frequent_19 : decode cX1_frequent 19 = .ok (.ifCond .ne 7, 3) := by decide +kernel
theorem dX1_frequent_22 : decode cX1_frequent 22 = .ok (.iconst 1, 1) := by decide +kernel
theorem dX1_frequent_23 : decode cX1_frequent 23 = .ok (.goto 4, 3) := by decide +kernel
theorem dX1_frequent_26 : decode cX1_frequent 26 = .ok (.iconst 0, 1) := by decide +kernel
theorem dX1_frequent_27 : decode cX1_frequent 27 = .ok (.aload_n 0, 1) := by decide +kernel
theorem dX1_frequent_28 : decode cX1_frequent 28 = .ok (.iload_n 1, 1) := by decide +kernel
theorem dX1_frequent_29 : decode cX1_frequent 29 = .ok (.invokevirtual 67, 3) := by decide +kernel
theorem dX1_frequent_32 : decode cX1_frequent 32 = .ok (.ifCond .eq 14, 3) := by decide +kernel
theorem dX1_frequent_35 : decode cX1_frequent 35 = .ok (.aload_n 0, 1) := by decide +kernel
theorem dX1_frequent_36 : decode cX1_frequent 36 = .ok (.getfield 58, 3) := by decide +kernel
theorem dX1_frequent_39 : decode cX1_frequent 39 = .ok (.ifCond .ne 7, 3) := by decide +kernel
theorem dX1_frequent_42 : decode cX1_frequent 42 = .ok (.iconst 1, 1) := by decide +kernel
theorem dX1_frequent_43 : decode cX1_frequent 43 = .ok (.goto 4, 3) := by decide +kernel
theorem dX1_frequent_46 : decode cX1_frequent 46 = .ok (.iconst 0, 1) := by decide +kernel
theorem dX1_frequent_47 : decode cX1_frequent 47 = .ok (.invokevirtual 46, 3) := by decide +kernel
theorem dX1_frequent_50 : decode cX1_frequent 50 = .ok (.ifCond .eq 5, 3) := by decide +kernel
theorem dX1_frequent_53 : decode cX1_frequent 53 = .ok (.iconst 0, 1) := by decide +kernel
theorem dX1_frequent_54 : decode cX1_frequent 54 = .ok (.ireturn, 1) := by decide +kernel
theorem dX1_frequent_55 : decode cX1_frequent 55 = .ok (.aload_n 0, 1) := by decide +kernel
theorem dX1_frequent_56 : decode cX1_frequent 56 = .ok (.getfield 25, 3) := by decide +kernel
theorem dX1_frequent_59 : decode cX1_frequent 59 = .ok (.aload_n 0, 1) := by decide +kernel
theorem dX1_frequent_60 : decode cX1_frequent 60 = .ok (.invokevirtual 75, 3) := by decide +kernel
theorem dX1_frequent_63 : decode cX1_frequent 63 = .ok (.iaload, 1) := by decide +kernel
theorem dX1_frequent_64 : decode cX1_frequent 64 = .ok (.ireturn, 1) := by decide +kernel
theorem dX1_below_0 : decode cX1_below 0 = .ok (.aload_n 0, 1) := by decide +kernel
theorem dX1_below_1 : decode cX1_below 1 = .ok (.aload_n 0, 1) := by decide +kernel
theorem dX1_below_2 : decode cX1_below 2 = .ok (.iload_n 1, 1) := by decide +kernel
theorem dX1_below_3 : decode cX1_below 3 = .ok (.invokevirtual 67, 3) := by decide +kernel
theorem dX1_below_6 : decode cX1_below 6 = .ok (.ifCond .ne 7, 3) := by decide +kernel
theorem dX1_below_9 : decode cX1_below 9 = .ok (.iconst 1, 1) := by decide +kernel
theorem dX1_below_10 : decode cX1_below 10 = .ok (.goto 4, 3) := by decide +kernel
theorem dX1_below_13 : decode cX1_below 13 = .ok (.iconst 0, 1) := by decide +kernel
theorem dX1_below_14 : decode cX1_below 14 = .ok (.iconst 0, 1) := by decide +kernel
theorem dX1_below_15 : decode cX1_below 15 = .ok (.invokevirtual 46, 3) := by decide +kernel
theorem dX1_below_18 : decode cX1_below 18 = .ok (.ifCond .eq 5, 3) := by decide +kernel
theorem dX1_below_21 : decode cX1_below 21 = .ok (.iconst 0, 1) := by decide +kernel
theorem dX1_below_22 : decode cX1_below 22 = .ok (.ireturn, 1) := by decide +kernel
theorem dX1_below_23 : decode cX1_below 23 = .ok (.aload_n 0, 1) := by decide +kernel
theorem dX1_below_24 : decode cX1_below 24 = .ok (.iload_n 1, 1) := by decide +kernel
theorem dX1_below_25 : decode cX1_below 25 = .ok (.invokevirtual 71, 3) := by decide +kernel
theorem dX1_below_28 : decode cX1_below 28 = .ok (.iconst 0, 1) := by decide +kernel
theorem dX1_below_29 : decode cX1_below 29 = .ok (.istore_n 3, 1) := by decide +kernel
theorem dX1_below_30 : decode cX1_below 30 = .ok (.iconst 0, 1) := by decide +kernel
theorem dX1_below_31 : decode cX1_below 31 = .ok (.istore 4, 2) := by decide +kernel
theorem dX1_below_33 : decode cX1_below 33 = .ok (.iload 4, 2) := by decide +kernel
theorem dX1_below_35 : decode cX1_below 35 = .ok (.aload_n 0, 1) := by decide +kernel
theorem dX1_below_36 : decode cX1_below 36 = .ok (.getfield 58, 3) := by decide +kernel
theorem dX1_below_39 : decode cX1_below 39 = .ok (.if_icmp .ge 28, 3) := by decide +kernel
theorem dX1_below_42 : decode cX1_below 42 = .ok (.aload_n 0, 1) := by decide +kernel
theorem dX1_below_43 : decode cX1_below 43 = .ok (.getfield 25, 3) := by decide +kernel
theorem dX1_below_46 : decode cX1_below 46 = .ok (.iload 4, 2) := by decide +kernel
theorem dX1_below_48 : decode cX1_below 48 = .ok (.iaload, 1) := by decide +kernel
theorem dX1_below_49 : decode cX1_below 49 = .ok (.iload_n 2, 1) := by decide +kernel
theorem dX1_below_50 : decode cX1_below 50 = .ok (.if_icmp .ge 9, 3) := by decide +kernel
theorem dX1_below_53 : decode cX1_below 53 = .ok (.iload_n 3, 1) := by decide +kernel
theorem dX1_below_54 : decode cX1_below 54 = .ok (.iconst 1, 1) := by decide +kernel
theorem dX1_below_55 : decode cX1_below 55 = .ok (.iadd, 1) := by decide +kernel
theorem dX1_below_56 : decode cX1_below 56 = .ok (.goto 4, 3) := by decide +kernel
theorem dX1_below_59 : decode cX1_below 59 = .ok (.iload_n 3, 1) := by decide +kernel
theorem dX1_below_60 : decode cX1_below 60 = .ok (.istore_n 3, 1) := by decide +kernel
theorem dX1_below_61 : decode cX1_below 61 = .ok (.iinc 4 1, 3) := by decide +kernel
theorem dX1_below_64 : decode cX1_below 64 = .ok (.goto (-31), 3) := by decide +kernel
theorem dX1_below_67 : decode cX1_below 67 = .ok (.iload_n 3, 1) := by decide +kernel
theorem dX1_below_68 : decode cX1_below 68 = .ok (.ireturn, 1) := by decide +kernel
theorem dX1_has_0 : decode cX1_has 0 = .ok (.aload_n 0, 1) := by decide +kernel
theorem dX1_has_1 : decode cX1_has 1 = .ok (.aload_n 0, 1) := by decide +kernel
theorem dX1_has_2 : decode cX1_has 2 = .ok (.iload_n 1, 1) := by decide +kernel
theorem dX1_has_3 : decode cX1_has 3 = .ok (.invokevirtual 67, 3) := by decide +kernel
theorem dX1_has_6 : decode cX1_has 6 = .ok (.ifCond .eq 17, 3) := by decide +kernel
theorem dX1_has_9 : decode cX1_has 9 = .ok (.iload_n 2, 1) := by decide +kernel
theorem dX1_has_10 : decode cX1_has 10 = .ok (.iconst 0, 1) := by decide +kernel
theorem dX1_has_11 : decode cX1_has 11 = .ok (.aload_n 0, 1) := by decide +kernel
theorem dX1_has_12 : decode cX1_has 12 = .ok (.getfield 32, 3) := by decide +kernel
theorem dX1_has_15 : decode cX1_has 15 = .ok (.iconst 1, 1) := by decide +kernel
theorem dX1_has_16 : decode cX1_has 16 = .ok (.isub, 1) := by decide +kernel
theorem dX1_has_17 : decode cX1_has 17 = .ok (.invokestatic 41, 3) := by decide +kernel
theorem dX1_has_20 : decode cX1_has 20 = .ok (.ifCond .ne 7, 3) := by decide +kernel
theorem dX1_has_23 : decode cX1_has 23 = .ok (.iconst 1, 1) := by decide +kernel
theorem dX1_has_24 : decode cX1_has 24 = .ok (.goto 4, 3) := by decide +kernel
theorem dX1_has_27 : decode cX1_has 27 = .ok (.iconst 0, 1) := by decide +kernel
theorem dX1_has_28 : decode cX1_has 28 = .ok (.iconst 0, 1) := by decide +kernel
theorem dX1_has_29 : decode cX1_has 29 = .ok (.invokevirtual 46, 3) := by decide +kernel
theorem dX1_has_32 : decode cX1_has 32 = .ok (.ifCond .eq 5, 3) := by decide +kernel
theorem dX1_has_35 : decode cX1_has 35 = .ok (.iconst 0, 1) := by decide +kernel
theorem dX1_has_36 : decode cX1_has 36 = .ok (.ireturn, 1) := by decide +kernel
theorem dX1_has_37 : decode cX1_has 37 = .ok (.aload_n 0, 1) := by decide +kernel
theorem dX1_has_38 : decode cX1_has 38 = .ok (.iload_n 1, 1) := by decide +kernel
theorem dX1_has_39 : decode cX1_has 39 = .ok (.iload_n 2, 1) := by decide +kernel
theorem dX1_has_40 : decode cX1_has 40 = .ok (.invokevirtual 61, 3) := by decide +kernel
theorem dX1_has_43 : decode cX1_has 43 = .ok (.ireturn, 1) := by decide +kernel
theorem dJ_fill_0 : decode cJ_fill 0 = .ok (.iconst 0, 1) := by decide +kernel
theorem dJ_fill_1 : decode cJ_fill 1 = .ok (.istore_n 2, 1) := by decide +kernel
theorem dJ_fill_2 : decode cJ_fill 2 = .ok (.aload_n 0, 1) := by decide +kernel
theorem dJ_fill_3 : decode cJ_fill 3 = .ok (.arraylength, 1) := by decide +kernel
theorem dJ_fill_4 : decode cJ_fill 4 = .ok (.istore_n 3, 1) := by decide +kernel
theorem dJ_fill_5 : decode cJ_fill 5 = .ok (.iload_n 2, 1) := by decide +kernel
theorem dJ_fill_6 : decode cJ_fill 6 = .ok (.iload_n 3, 1) := by decide +kernel
theorem dJ_fill_7 : decode cJ_fill 7 = .ok (.if_icmp .ge 13, 3) := by decide +kernel
theorem dJ_fill_10 : decode cJ_fill 10 = .ok (.aload_n 0, 1) := by decide +kernel
theorem dJ_fill_11 : decode cJ_fill 11 = .ok (.iload_n 2, 1) := by decide +kernel
theorem dJ_fill_12 : decode cJ_fill 12 = .ok (.iload_n 1, 1) := by decide +kernel
theorem dJ_fill_13 : decode cJ_fill 13 = .ok (.iastore, 1) := by decide +kernel
theorem dJ_fill_14 : decode cJ_fill 14 = .ok (.iinc 2 1, 3) := by decide +kernel
theorem dJ_fill_17 : decode cJ_fill 17 = .ok (.goto (-12), 3) := by decide +kernel
theorem dJ_fill_20 : decode cJ_fill 20 = .ok (.return_, 1) := by decide +kernel
end
section
theorem dL_window_0 : decode cL_window 0 = .ok (.aload_n 3, 1) := by decide +kernel
theorem dL_window_1 : decode cL_window 1 = .ok (.iconst 0, 1) := by decide +kernel
theorem dL_window_2 : decode cL_window 2 = .ok (.aload_n 0, 1) := by decide +kernel
theorem dL_window_3 : decode cL_window 3 = .ok (.iload_n 1, 1) := by decide +kernel
theorem dL_window_4 : decode cL_window 4 = .ok (.iload_n 2, 1) := by decide +kernel
theorem dL_window_5 : decode cL_window 5 = .ok (.invokevirtual 7, 3) := by decide +kernel
theorem dL_window_8 : decode cL_window 8 = .ok (.i2l, 1) := by decide +kernel
theorem dL_window_9 : decode cL_window 9 = .ok (.lastore, 1) := by decide +kernel
theorem dL_window_10 : decode cL_window 10 = .ok (.goto 11, 3) := by decide +kernel
theorem dL_window_13 : decode cL_window 13 = .ok (.astore 4, 2) := by decide +kernel
theorem dL_window_15 : decode cL_window 15 = .ok (.iconst 1, 1) := by decide +kernel
theorem dL_window_16 : decode cL_window 16 = .ok (.ireturn, 1) := by decide +kernel
theorem dL_window_17 : decode cL_window 17 = .ok (.astore 4, 2) := by decide +kernel
theorem dL_window_19 : decode cL_window 19 = .ok (.iconst 2, 1) := by decide +kernel
theorem dL_window_20 : decode cL_window 20 = .ok (.ireturn, 1) := by decide +kernel
theorem dL_window_21 : decode cL_window 21 = .ok (.iconst 0, 1) := by decide +kernel
theorem dL_window_22 : decode cL_window 22 = .ok (.ireturn, 1) := by decide +kernel
theorem dL_tuple_0 : decode cL_tuple 0 = .ok (.aload 4, 2) := by decide +kernel
theorem dL_tuple_2 : decode cL_tuple 2 = .ok (.iconst 0, 1) := by decide +kernel
theorem dL_tuple_3 : decode cL_tuple 3 = .ok (.aload_n 0, 1) := by decide +kernel
theorem dL_tuple_4 : decode cL_tuple 4 = .ok (.iload_n 1, 1) := by decide +kernel
theorem dL_tuple_5 : decode cL_tuple 5 = .ok (.iload_n 2, 1) := by decide +kernel
theorem dL_tuple_6 : decode cL_tuple 6 = .ok (.iload_n 3, 1) := by decide +kernel
theorem dL_tuple_7 : decode cL_tuple 7 = .ok (.invokevirtual 17, 3) := by decide +kernel
theorem dL_tuple_10 : decode cL_tuple 10 = .ok (.i2l, 1) := by decide +kernel
theorem dL_tuple_11 : decode cL_tuple 11 = .ok (.lastore, 1) := by decide +kernel
theorem dL_tuple_12 : decode cL_tuple 12 = .ok (.goto 11, 3) := by decide +kernel
theorem dL_tuple_15 : decode cL_tuple 15 = .ok (.astore 5, 2) := by decide +kernel
theorem dL_tuple_17 : decode cL_tuple 17 = .ok (.iconst 1, 1) := by decide +kernel
theorem dL_tuple_18 : decode cL_tuple 18 = .ok (.ireturn, 1) := by decide +kernel
theorem dL_tuple_19 : decode cL_tuple 19 = .ok (.astore 5, 2) := by decide +kernel
theorem dL_tuple_21 : decode cL_tuple 21 = .ok (.iconst 2, 1) := by decide +kernel
theorem dL_tuple_22 : decode cL_tuple 22 = .ok (.ireturn, 1) := by decide +kernel
theorem dL_tuple_23 : decode cL_tuple 23 = .ok (.iconst 0, 1) := by decide +kernel
theorem dL_tuple_24 : decode cL_tuple 24 = .ok (.ireturn, 1) := by decide +kernel
theorem dL_tick_0 : decode cL_tick 0 = .ok (.aload_n 0, 1) := by decide +kernel
theorem dL_tick_1 : decode cL_tick 1 = .ok (.iload_n 1, 1) := by decide +kernel
theorem dL_tick_2 : decode cL_tick 2 = .ok (.invokevirtual 21, 3) := by decide +kernel
theorem dL_tick_5 : decode cL_tick 5 = .ok (.goto 6, 3) := by decide +kernel
theorem dL_tick_8 : decode cL_tick 8 = .ok (.astore_n 2, 1) := by decide +kernel
theorem dL_tick_9 : decode cL_tick 9 = .ok (.iconst 1, 1) := by decide +kernel
theorem dL_tick_10 : decode cL_tick 10 = .ok (.ireturn, 1) := by decide +kernel
theorem dL_tick_11 : decode cL_tick 11 = .ok (.iconst 0, 1) := by decide +kernel
theorem dL_tick_12 : decode cL_tick 12 = .ok (.ireturn, 1) := by decide +kernel
theorem dL_meter_0 : decode cL_meter 0 = .ok (.aload_n 3, 1) := by decide +kernel
theorem dL_meter_1 : decode cL_meter 1 = .ok (.iconst 0, 1) := by decide +kernel
theorem dL_meter_2 : decode cL_meter 2 = .ok (.aload_n 0, 1) := by decide +kernel
theorem dL_meter_3 : decode cL_meter 3 = .ok (.iload_n 1, 1) := by decide +kernel
theorem dL_meter_4 : decode cL_meter 4 = .ok (.iload_n 2, 1) := by decide +kernel
theorem dL_meter_5 : decode cL_meter 5 = .ok (.invokevirtual 25, 3) := by decide +kernel
theorem dL_meter_8 : decode cL_meter 8 = .ok (.i2l, 1) := by decide +kernel
theorem dL_meter_9 : decode cL_meter 9 = .ok (.lastore, 1) := by decide +kernel
theorem dL_meter_10 : decode cL_meter 10 = .ok (.goto 11, 3) := by decide +kernel
theorem dL_meter_13 : decode cL_meter 13 = .ok (.astore 4, 2) := by decide +kernel
theorem dL_meter_15 : decode cL_meter 15 = .ok (.iconst 1, 1) := by decide +kernel
theorem dL_meter_16 : decode cL_meter 16 = .ok (.ireturn, 1) := by decide +kernel
theorem dL_meter_17 : decode cL_meter 17 = .ok (.astore 4, 2) := by decide +kernel
theorem dL_meter_19 : decode cL_meter 19 = .ok (.iconst 2, 1) := by decide +kernel
theorem dL_meter_20 : decode cL_meter 20 = .ok (.ireturn, 1) := by decide +kernel
theorem dL_meter_21 : decode cL_meter 21 = .ok (.iconst 0, 1) := by decide +kernel
theorem dL_meter_22 : decode cL_meter 22 = .ok (.ireturn, 1) := by decide +kernel
theorem dL_kth_0 : decode cL_kth 0 = .ok (.aload_n 3, 1) := by decide +kernel
theorem dL_kth_1 : decode cL_kth 1 = .ok (.iconst 0, 1) := by decide +kernel
theorem dL_kth_2 : decode cL_kth 2 = .ok (.aload_n 0, 1) := by decide +kernel
theorem dL_kth_3 : decode cL_kth 3 = .ok (.iload_n 1, 1) := by decide +kernel
theorem dL_kth_4 : decode cL_kth 4 = .ok (.iload_n 2, 1) := by decide +kernel
theorem dL_kth_5 : decode cL_kth 5 = .ok (.invokevirtual 30, 3) := by decide +kernel
theorem dL_kth_8 : decode cL_kth 8 = .ok (.i2l, 1) := by decide +kernel
theorem dL_kth_9 : decode cL_kth 9 = .ok (.lastore, 1) := by decide +kernel
theorem dL_kth_10 : decode cL_kth 10 = .ok (.goto 11, 3) := by decide +kernel
theorem dL_kth_13 : decode cL_kth 13 = .ok (.astore 4, 2) := by decide +kernel
theorem dL_kth_15 : decode cL_kth 15 = .ok (.iconst 1, 1) := by decide +kernel
theorem dL_kth_16 : decode cL_kth 16 = .ok (.ireturn, 1) := by decide +kernel
theorem dL_kth_17 : decode cL_kth 17 = .ok (.astore 4, 2) := by decide +kernel
theorem dL_kth_19 : decode cL_kth 19 = .ok (.iconst 2, 1) := by decide +kernel
theorem dL_kth_20 : decode cL_kth 20 = .ok (.ireturn, 1) := by decide +kernel
theorem dL_kth_21 : decode cL_kth 21 = .ok (.iconst 0, 1) := by decide +kernel
theorem dL_kth_22 : decode cL_kth 22 = .ok (.ireturn, 1) := by decide +kernel
theorem dL_frequent_0 : decode cL_frequent 0 = .ok (.aload_n 2, 1) := by decide +kernel
theorem dL_frequent_1 : decode cL_frequent 1 = .ok (.iconst 0, 1) := by decide +kernel
theorem dL_frequent_2 : decode cL_frequent 2 = .ok (.aload_n 0, 1) := by decide +kernel
theorem dL_frequent_3 : decode cL_frequent 3 = .ok (.iload_n 1, 1) := by decide +kernel
theorem dL_frequent_4 : decode cL_frequent 4 = .ok (.invokevirtual 35, 3) := by decide +kernel
theorem dL_frequent_7 : decode cL_frequent 7 = .ok (.i2l, 1) := by decide +kernel
theorem dL_frequent_8 : decode cL_frequent 8 = .ok (.lastore, 1) := by decide +kernel
theorem dL_frequent_9 : decode cL_frequent 9 = .ok (.goto 9, 3) := by decide +kernel
theorem dL_frequent_12 : decode cL_frequent 12 = .ok (.astore_n 3, 1) := by decide +kernel
theorem dL_frequent_13 : decode cL_frequent 13 = .ok (.iconst 1, 1) := by decide +kernel
theorem dL_frequent_14 : decode cL_frequent 14 = .ok (.ireturn, 1) := by decide +kernel
theorem dL_frequent_15 : decode cL_frequent 15 = .ok (.astore_n 3, 1) := by decide +kernel
theorem dL_frequent_16 : decode cL_frequent 16 = .ok (.iconst 2, 1) := by decide +kernel
theorem dL_frequent_17 : decode cL_frequent 17 = .ok (.ireturn, 1) := by decide +kernel
theorem dL_frequent_18 : decode cL_frequent 18 = .ok (.iconst 0, 1) := by decide +kernel
theorem dL_frequent_19 : decode cL_frequent 19 = .ok (.ireturn, 1) := by decide +kernel
theorem dL_below_0 : decode cL_below 0 = .ok (.aload_n 3, 1) := by decide +kernel
theorem dL_below_1 : decode cL_below 1 = .ok (.iconst 0, 1) := by decide +kernel
theorem dL_below_2 : decode cL_below 2 = .ok (.aload_n 0, 1) := by decide +kernel
theorem dL_below_3 : decode cL_below 3 = .ok (.iload_n 1, 1) := by decide +kernel
theorem dL_below_4 : decode cL_below 4 = .ok (.iload_n 2, 1) := by decide +kernel
theorem dL_below_5 : decode cL_below 5 = .ok (.invokevirtual 39, 3) := by decide +kernel
theorem dL_below_8 : decode cL_below 8 = .ok (.i2l, 1) := by decide +kernel
theorem dL_below_9 : decode cL_below 9 = .ok (.lastore, 1) := by decide +kernel
theorem dL_below_10 : decode cL_below 10 = .ok (.goto 7, 3) := by decide +kernel
theorem dL_below_13 : decode cL_below 13 = .ok (.astore 4, 2) := by decide +kernel
theorem dL_below_15 : decode cL_below 15 = .ok (.iconst 1, 1) := by decide +kernel
theorem dL_below_16 : decode cL_below 16 = .ok (.ireturn, 1) := by decide +kernel
theorem dL_below_17 : decode cL_below 17 = .ok (.iconst 0, 1) := by decide +kernel
theorem dL_below_18 : decode cL_below 18 = .ok (.ireturn, 1) := by decide +kernel
theorem dL_has_0 : decode cL_has 0 = .ok (.aload_n 3, 1) := by decide +kernel
theorem dL_has_1 : decode cL_has 1 = .ok (.iconst 0, 1) := by decide +kernel
theorem dL_has_2 : decode cL_has 2 = .ok (.aload_n 0, 1) := by decide +kernel
theorem dL_has_3 : decode cL_has 3 = .ok (.iload_n 1, 1) := by decide +kernel
theorem dL_has_4 : decode cL_has 4 = .ok (.iload_n 2, 1) := by decide +kernel
theorem dL_has_5 : decode cL_has 5 = .ok (.invokevirtual 42, 3) := by decide +kernel
theorem dL_has_8 : decode cL_has 8 = .ok (.ifCond .eq 7, 3) := by decide +kernel
theorem dL_has_11 : decode cL_has 11 = .ok (.lconst 1, 1) := by decide +kernel
theorem dL_has_12 : decode cL_has 12 = .ok (.goto 4, 3) := by decide +kernel
theorem dL_has_15 : decode cL_has 15 = .ok (.lconst 0, 1) := by decide +kernel
theorem dL_has_16 : decode cL_has 16 = .ok (.lastore, 1) := by decide +kernel
theorem dL_has_17 : decode cL_has 17 = .ok (.goto 7, 3) := by decide +kernel
theorem dL_has_20 : decode cL_has 20 = .ok (.astore 4, 2) := by decide +kernel
theorem dL_has_22 : decode cL_has 22 = .ok (.iconst 1, 1) := by decide +kernel
theorem dL_has_23 : decode cL_has 23 = .ok (.ireturn, 1) := by decide +kernel
theorem dL_has_24 : decode cL_has 24 = .ok (.iconst 0, 1) := by decide +kernel
theorem dL_has_25 : decode cL_has 25 = .ok (.ireturn, 1) := by decide +kernel
theorem dL_law_0 : decode code 0 = .ok (.new 8, 3) := by decide +kernel
theorem dL_law_3 : decode code 3 = .ok (.dup, 1) := by decide +kernel
theorem dL_law_4 : decode code 4 = .ok (.invokespecial 46, 3) := by decide +kernel
theorem dL_law_7 : decode code 7 = .ok (.astore_n 1, 1) := by decide +kernel
theorem dL_law_8 : decode code 8 = .ok (.new 47, 3) := by decide +kernel
theorem dL_law_11 : decode code 11 = .ok (.dup, 1) := by decide +kernel
theorem dL_law_12 : decode code 12 = .ok (.invokespecial 49, 3) := by decide +kernel
theorem dL_law_15 : decode code 15 = .ok (.astore_n 2, 1) := by decide +kernel
theorem dL_law_16 : decode code 16 = .ok (.iconst 1, 1) := by decide +kernel
theorem dL_law_17 : decode code 17 = .ok (.newarray .long, 2) := by decide +kernel
theorem dL_law_19 : decode code 19 = .ok (.astore_n 3, 1) := by decide +kernel
theorem dL_law_20 : decode code 20 = .ok (.iconst 0, 1) := by decide +kernel
theorem dL_law_21 : decode code 21 = .ok (.istore 4, 2) := by decide +kernel
theorem dL_law_23 : decode code 23 = .ok (.iload 4, 2) := by decide +kernel
theorem dL_law_25 : decode code 25 = .ok (.aload_n 0, 1) := by decide +kernel
theorem dL_law_26 : decode code 26 = .ok (.arraylength, 1) := by decide +kernel
theorem dL_law_27 : decode code 27 = .ok (.iconst 4, 1) := by decide +kernel
theorem dL_law_28 : decode code 28 = .ok (.isub, 1) := by decide +kernel
theorem dL_law_29 : decode code 29 = .ok (.if_icmp .gt 612, 3) := by decide +kernel
theorem dL_law_32 : decode code 32 = .ok (.aload_n 0, 1) := by decide +kernel
theorem dL_law_33 : decode code 33 = .ok (.iload 4, 2) := by decide +kernel
theorem dL_law_35 : decode code 35 = .ok (.iaload, 1) := by decide +kernel
theorem dL_law_36 : decode code 36 = .ok (.bipush 15, 2) := by decide +kernel
theorem dL_law_38 : decode code 38 = .ok (.iand, 1) := by decide +kernel
theorem dL_law_39 : decode code 39 = .ok (.tableswitch 596 0 9 #[53, 64, 132, 212, 248, 316, 384, 440, 508, 583], 53) := by decide +kernel
theorem dL_law_92 : decode code 92 = .ok (.aload_n 1, 1) := by decide +kernel
theorem dL_law_93 : decode code 93 = .ok (.invokevirtual 50, 3) := by decide +kernel
theorem dL_law_96 : decode code 96 = .ok (.aload_n 2, 1) := by decide +kernel
theorem dL_law_97 : decode code 97 = .ok (.invokevirtual 53, 3) := by decide +kernel
theorem dL_law_100 : decode code 100 = .ok (.goto 535, 3) := by decide +kernel
theorem dL_law_103 : decode code 103 = .ok (.aload_n 1, 1) := by decide +kernel
theorem dL_law_104 : decode code 104 = .ok (.aload_n 0, 1) := by decide +kernel
theorem dL_law_105 : decode code 105 = .ok (.iload 4, 2) := by decide +kernel
theorem dL_law_107 : decode code 107 = .ok (.iconst 1, 1) := by decide +kernel
theorem dL_law_108 : decode code 108 = .ok (.iadd, 1) := by decide +kernel
theorem dL_law_109 : decode code 109 = .ok (.iaload, 1) := by decide +kernel
theorem dL_law_110 : decode code 110 = .ok (.aload_n 0, 1) := by decide +kernel
theorem dL_law_111 : decode code 111 = .ok (.iload 4, 2) := by decide +kernel
theorem dL_law_113 : decode code 113 = .ok (.iconst 2, 1) := by decide +kernel
theorem dL_law_114 : decode code 114 = .ok (.iadd, 1) := by decide +kernel
theorem dL_law_115 : decode code 115 = .ok (.iaload, 1) := by decide +kernel
theorem dL_law_116 : decode code 116 = .ok (.aload_n 3, 1) := by decide +kernel
theorem dL_law_117 : decode code 117 = .ok (.invokestatic 54, 3) := by decide +kernel
theorem dL_law_120 : decode code 120 = .ok (.istore 5, 2) := by decide +kernel
theorem dL_law_122 : decode code 122 = .ok (.aload_n 2, 1) := by decide +kernel
theorem dL_law_123 : decode code 123 = .ok (.aload_n 0, 1) := by decide +kernel
theorem dL_law_124 : decode code 124 = .ok (.iload 4, 2) := by decide +kernel
theorem dL_law_126 : decode code 126 = .ok (.iconst 1, 1) := by decide +kernel
theorem dL_law_127 : decode code 127 = .ok (.iadd, 1) := by decide +kernel
theorem dL_law_128 : decode code 128 = .ok (.iaload, 1) := by decide +kernel
theorem dL_law_129 : decode code 129 = .ok (.aload_n 0, 1) := by decide +kernel
theorem dL_law_130 : decode code 130 = .ok (.iload 4, 2) := by decide +kernel
theorem dL_law_132 : decode code 132 = .ok (.iconst 2, 1) := by decide +kernel
theorem dL_law_133 : decode code 133 = .ok (.iadd, 1) := by decide +kernel
theorem dL_law_134 : decode code 134 = .ok (.iaload, 1) := by decide +kernel
theorem dL_law_135 : decode code 135 = .ok (.invokevirtual 59, 3) := by decide +kernel
theorem dL_law_138 : decode code 138 = .ok (.istore 6, 2) := by decide +kernel
theorem dL_law_140 : decode code 140 = .ok (.aload_n 2, 1) := by decide +kernel
theorem dL_law_141 : decode code 141 = .ok (.invokevirtual 60, 3) := by decide +kernel
theorem dL_law_144 : decode code 144 = .ok (.iload 5, 2) := by decide +kernel
theorem dL_law_146 : decode code 146 = .ok (.if_icmp .eq 5, 3) := by decide +kernel
theorem dL_law_149 : decode code 149 = .ok (.iconst 0, 1) := by decide +kernel
theorem dL_law_150 : decode code 150 = .ok (.ireturn, 1) := by decide +kernel
theorem dL_law_151 : decode code 151 = .ok (.iload 5, 2) := by decide +kernel
theorem dL_law_153 : decode code 153 = .ok (.ifCond .ne 15, 3) := by decide +kernel
theorem dL_law_156 : decode code 156 = .ok (.aload_n 3, 1) := by decide +kernel
theorem dL_law_157 : decode code 157 = .ok (.iconst 0, 1) := by decide +kernel
theorem dL_law_158 : decode code 158 = .ok (.laload, 1) := by decide +kernel
theorem dL_law_159 : decode code 159 = .ok (.iload 6, 2) := by decide +kernel
theorem dL_law_161 : decode code 161 = .ok (.i2l, 1) := by decide +kernel
theorem dL_law_162 : decode code 162 = .ok (.lcmp, 1) := by decide +kernel
theorem dL_law_163 : decode code 163 = .ok (.ifCond .eq 5, 3) := by decide +kernel
theorem dL_law_166 : decode code 166 = .ok (.iconst 0, 1) := by decide +kernel
theorem dL_law_167 : decode code 167 = .ok (.ireturn, 1) := by decide +kernel
theorem dL_law_168 : decode code 168 = .ok (.goto 467, 3) := by decide +kernel
theorem dL_law_171 : decode code 171 = .ok (.aload_n 1, 1) := by decide +kernel
theorem dL_law_172 : decode code 172 = .ok (.aload_n 0, 1) := by decide +kernel
theorem dL_law_173 : decode code 173 = .ok (.iload 4, 2) := by decide +kernel
theorem dL_law_175 : decode code 175 = .ok (.iconst 1, 1) := by decide +kernel
theorem dL_law_176 : decode code 176 = .ok (.iadd, 1) := by decide +kernel
theorem dL_law_177 : decode code 177 = .ok (.iaload, 1) := by decide +kernel
theorem dL_law_178 : decode code 178 = .ok (.aload_n 0, 1) := by decide +kernel
theorem dL_law_179 : decode code 179 = .ok (.iload 4, 2) := by decide +kernel
theorem dL_law_181 : decode code 181 = .ok (.iconst 2, 1) := by decide +kernel
theorem dL_law_182 : decode code 182 = .ok (.iadd, 1) := by decide +kernel
theorem dL_law_183 : decode code 183 = .ok (.iaload, 1) := by decide +kernel
theorem dL_law_184 : decode code 184 = .ok (.aload_n 0, 1) := by decide +kernel
theorem dL_law_185 : decode code 185 = .ok (.iload 4, 2) := by decide +kernel
theorem dL_law_187 : decode code 187 = .ok (.iconst 3, 1) := by decide +kernel
theorem dL_law_188 : decode code 188 = .ok (.iadd, 1) := by decide +kernel
theorem dL_law_189 : decode code 189 = .ok (.iaload, 1) := by decide +kernel
theorem dL_law_190 : decode code 190 = .ok (.aload_n 3, 1) := by decide +kernel
theorem dL_law_191 : decode code 191 = .ok (.invokestatic 64, 3) := by decide +kernel
theorem dL_law_194 : decode code 194 = .ok (.istore 5, 2) := by decide +kernel
theorem dL_law_196 : decode code 196 = .ok (.aload_n 2, 1) := by decide +kernel
theorem dL_law_197 : decode code 197 = .ok (.aload_n 0, 1) := by decide +kernel
theorem dL_law_198 : decode code 198 = .ok (.iload 4, 2) := by decide +kernel
theorem dL_law_200 : decode code 200 = .ok (.iconst 1, 1) := by decide +kernel
theorem dL_law_201 : decode code 201 = .ok (.iadd, 1) := by decide +kernel
theorem dL_law_202 : decode code 202 = .ok (.iaload, 1) := by decide +kernel
theorem dL_law_203 : decode code 203 = .ok (.aload_n 0, 1) := by decide +kernel
theorem dL_law_204 : decode code 204 = .ok (.iload 4, 2) := by decide +kernel
theorem dL_law_206 : decode code 206 = .ok (.iconst 2, 1) := by decide +kernel
theorem dL_law_207 : decode code 207 = .ok (.iadd, 1) := by decide +kernel
theorem dL_law_208 : decode code 208 = .ok (.iaload, 1) := by decide +kernel
theorem dL_law_209 : decode code 209 = .ok (.aload_n 0, 1) := by decide +kernel
theorem dL_law_210 : decode code 210 = .ok (.iload 4, 2) := by decide +kernel
theorem dL_law_212 : decode code 212 = .ok (.iconst 3, 1) := by decide +kernel
theorem dL_law_213 : decode code 213 = .ok (.iadd, 1) := by decide +kernel
theorem dL_law_214 : decode code 214 = .ok (.iaload, 1) := by decide +kernel
theorem dL_law_215 : decode code 215 = .ok (.invokevirtual 67, 3) := by decide +kernel
theorem dL_law_218 : decode code 218 = .ok (.istore 6, 2) := by decide +kernel
theorem dL_law_220 : decode code 220 = .ok (.aload_n 2, 1) := by decide +kernel
theorem dL_law_221 : decode code 221 = .ok (.invokevirtual 60, 3) := by decide +kernel
theorem dL_law_224 : decode code 224 = .ok (.iload 5, 2) := by decide +kernel
theorem dL_law_226 : decode code 226 = .ok (.if_icmp .eq 5, 3) := by decide +kernel
theorem dL_law_229 : decode code 229 = .ok (.iconst 0, 1) := by decide +kernel
theorem dL_law_230 : decode code 230 = .ok (.ireturn, 1) := by decide +kernel
theorem dL_law_231 : decode code 231 = .ok (.iload 5, 2) := by decide +kernel
theorem dL_law_233 : decode code 233 = .ok (.ifCond .ne 15, 3) := by decide +kernel
theorem dL_law_236 : decode code 236 = .ok (.aload_n 3, 1) := by decide +kernel
theorem dL_law_237 : decode code 237 = .ok (.iconst 0, 1) := by decide +kernel
theorem dL_law_238 : decode code 238 = .ok (.laload, 1) := by decide +kernel
theorem dL_law_239 : decode code 239 = .ok (.iload 6, 2) := by decide +kernel
theorem dL_law_241 : decode code 241 = .ok (.i2l, 1) := by decide +kernel
theorem dL_law_242 : decode code 242 = .ok (.lcmp, 1) := by decide +kernel
theorem dL_law_243 : decode code 243 = .ok (.ifCond .eq 5, 3) := by decide +kernel
theorem dL_law_246 : decode code 246 = .ok (.iconst 0, 1) := by decide +kernel
theorem dL_law_247 : decode code 247 = .ok (.ireturn, 1) := by decide +kernel
theorem dL_law_248 : decode code 248 = .ok (.goto 387, 3) := by decide +kernel
theorem dL_law_251 : decode code 251 = .ok (.aload_n 1, 1) := by decide +kernel
theorem dL_law_252 : decode code 252 = .ok (.aload_n 0, 1) := by decide +kernel
theorem dL_law_253 : decode code 253 = .ok (.iload 4, 2) := by decide +kernel
theorem dL_law_255 : decode code 255 = .ok (.iconst 1, 1) := by decide +kernel
theorem dL_law_256 : decode code 256 = .ok (.iadd, 1) := by decide +kernel
theorem dL_law_257 : decode code 257 = .ok (.iaload, 1) := by decide +kernel
theorem dL_law_258 : decode code 258 = .ok (.invokestatic 68, 3) := by decide +kernel
theorem dL_law_261 : decode code 261 = .ok (.istore 5, 2) := by decide +kernel
theorem dL_law_263 : decode code 263 = .ok (.aload_n 2, 1) := by decide +kernel
theorem dL_law_264 : decode code 264 = .ok (.aload_n 0, 1) := by decide +kernel
theorem dL_law_265 : decode code 265 = .ok (.iload 4, 2) := by decide +kernel
theorem dL_law_267 : decode code 267 = .ok (.iconst 1, 1) := by decide +kernel
theorem dL_law_268 : decode code 268 = .ok (.iadd, 1) := by decide +kernel
theorem dL_law_269 : decode code 269 = .ok (.iaload, 1) := by decide +kernel
theorem dL_law_270 : decode code 270 = .ok (.invokevirtual 71, 3) := by decide +kernel
theorem dL_law_273 : decode code 273 = .ok (.aload_n 2, 1) := by decide +kernel
theorem dL_law_274 : decode code 274 = .ok (.invokevirtual 60, 3) := by decide +kernel
theorem dL_law_277 : decode code 277 = .ok (.iload 5, 2) := by decide +kernel
theorem dL_law_279 : decode code 279 = .ok (.if_icmp .eq 5, 3) := by decide +kernel
theorem dL_law_282 : decode code 282 = .ok (.iconst 0, 1) := by decide +kernel
theorem dL_law_283 : decode code 283 = .ok (.ireturn, 1) := by decide +kernel
theorem dL_law_284 : decode code 284 = .ok (.goto 351, 3) := by decide +kernel
theorem dL_law_287 : decode code 287 = .ok (.aload_n 1, 1) := by decide +kernel
theorem dL_law_288 : decode code 288 = .ok (.aload_n 0, 1) := by decide +kernel
theorem dL_law_289 : decode code 289 = .ok (.iload 4, 2) := by decide +kernel
theorem dL_law_291 : decode code 291 = .ok (.iconst 1, 1) := by decide +kernel
theorem dL_law_292 : decode code 292 = .ok (.iadd, 1) := by decide +kernel
theorem dL_law_293 : decode code 293 = .ok (.iaload, 1) := by decide +kernel
theorem dL_law_294 : decode code 294 = .ok (.aload_n 0, 1) := by decide +kernel
theorem dL_law_295 : decode code 295 = .ok (.iload 4, 2) := by decide +kernel
theorem dL_law_297 : decode code 297 = .ok (.iconst 2, 1) := by decide +kernel
theorem dL_law_298 : decode code 298 = .ok (.iadd, 1) := by decide +kernel
theorem dL_law_299 : decode code 299 = .ok (.iaload, 1) := by decide +kernel
theorem dL_law_300 : decode code 300 = .ok (.aload_n 3, 1) := by decide +kernel
theorem dL_law_301 : decode code 301 = .ok (.invokestatic 72, 3) := by decide +kernel
theorem dL_law_304 : decode code 304 = .ok (.istore 5, 2) := by decide +kernel
theorem dL_law_306 : decode code 306 = .ok (.aload_n 2, 1) := by decide +kernel
theorem dL_law_307 : decode code 307 = .ok (.aload_n 0, 1) := by decide +kernel
theorem dL_law_308 : decode code 308 = .ok (.iload 4, 2) := by decide +kernel
theorem dL_law_310 : decode code 310 = .ok (.iconst 1, 1) := by decide +kernel
theorem dL_law_311 : decode code 311 = .ok (.iadd, 1) := by decide +kernel
theorem dL_law_312 : decode code 312 = .ok (.iaload, 1) := by decide +kernel
theorem dL_law_313 : decode code 313 = .ok (.aload_n 0, 1) := by decide +kernel
theorem dL_law_314 : decode code 314 = .ok (.iload 4, 2) := by decide +kernel
theorem dL_law_316 : decode code 316 = .ok (.iconst 2, 1) := by decide +kernel
theorem dL_law_317 : decode code 317 = .ok (.iadd, 1) := by decide +kernel
theorem dL_law_318 : decode code 318 = .ok (.iaload, 1) := by decide +kernel
theorem dL_law_319 : decode code 319 = .ok (.invokevirtual 74, 3) := by decide +kernel
theorem dL_law_322 : decode code 322 = .ok (.istore 6, 2) := by decide +kernel
theorem dL_law_324 : decode code 324 = .ok (.aload_n 2, 1) := by decide +kernel
theorem dL_law_325 : decode code 325 = .ok (.invokevirtual 60, 3) := by decide +kernel
theorem dL_law_328 : decode code 328 = .ok (.iload 5, 2) := by decide +kernel
theorem dL_law_330 : decode code 330 = .ok (.if_icmp .eq 5, 3) := by decide +kernel
theorem dL_law_333 : decode code 333 = .ok (.iconst 0, 1) := by decide +kernel
theorem dL_law_334 : decode code 334 = .ok (.ireturn, 1) := by decide +kernel
theorem dL_law_335 : decode code 335 = .ok (.iload 5, 2) := by decide +kernel
theorem dL_law_337 : decode code 337 = .ok (.ifCond .ne 15, 3) := by decide +kernel
theorem dL_law_340 : decode code 340 = .ok (.aload_n 3, 1) := by decide +kernel
theorem dL_law_341 : decode code 341 = .ok (.iconst 0, 1) := by decide +kernel
theorem dL_law_342 : decode code 342 = .ok (.laload, 1) := by decide +kernel
theorem dL_law_343 : decode code 343 = .ok (.iload 6, 2) := by decide +kernel
theorem dL_law_345 : decode code 345 = .ok (.i2l, 1) := by decide +kernel
theorem dL_law_346 : decode code 346 = .ok (.lcmp, 1) := by decide +kernel
theorem dL_law_347 : decode code 347 = .ok (.ifCond .eq 5, 3) := by decide +kernel
theorem dL_law_350 : decode code 350 = .ok (.iconst 0, 1) := by decide +kernel
theorem dL_law_351 : decode code 351 = .ok (.ireturn, 1) := by decide +kernel
theorem dL_law_352 : decode code 352 = .ok (.goto 283, 3) := by decide +kernel
theorem dL_law_355 : decode code 355 = .ok (.aload_n 1, 1) := by decide +kernel
theorem dL_law_356 : decode code 356 = .ok (.aload_n 0, 1) := by decide +kernel
theorem dL_law_357 : decode code 357 = .ok (.iload 4, 2) := by decide +kernel
theorem dL_law_359 : decode code 359 = .ok (.iconst 1, 1) := by decide +kernel
theorem dL_law_360 : decode code 360 = .ok (.iadd, 1) := by decide +kernel
theorem dL_law_361 : decode code 361 = .ok (.iaload, 1) := by decide +kernel
theorem dL_law_362 : decode code 362 = .ok (.aload_n 0, 1) := by decide +kernel
theorem dL_law_363 : decode code 363 = .ok (.iload 4, 2) := by decide +kernel
theorem dL_law_365 : decode code 365 = .ok (.iconst 2, 1) := by decide +kernel
theorem dL_law_366 : decode code 366 = .ok (.iadd, 1) := by decide +kernel
theorem dL_law_367 : decode code 367 = .ok (.iaload, 1) := by decide +kernel
theorem dL_law_368 : decode code 368 = .ok (.aload_n 3, 1) := by decide +kernel
theorem dL_law_369 : decode code 369 = .ok (.invokestatic 75, 3) := by decide +kernel
theorem dL_law_372 : decode code 372 = .ok (.istore 5, 2) := by decide +kernel
theorem dL_law_374 : decode code 374 = .ok (.aload_n 2, 1) := by decide +kernel
theorem dL_law_375 : decode code 375 = .ok (.aload_n 0, 1) := by decide +kernel
theorem dL_law_376 : decode code 376 = .ok (.iload 4, 2) := by decide +kernel
theorem dL_law_378 : decode code 378 = .ok (.iconst 1, 1) := by decide +kernel
theorem dL_law_379 : decode code 379 = .ok (.iadd, 1) := by decide +kernel
theorem dL_law_380 : decode code 380 = .ok (.iaload, 1) := by decide +kernel
theorem dL_law_381 : decode code 381 = .ok (.aload_n 0, 1) := by decide +kernel
theorem dL_law_382 : decode code 382 = .ok (.iload 4, 2) := by decide +kernel
theorem dL_law_384 : decode code 384 = .ok (.iconst 2, 1) := by decide +kernel
theorem dL_law_385 : decode code 385 = .ok (.iadd, 1) := by decide +kernel
theorem dL_law_386 : decode code 386 = .ok (.iaload, 1) := by decide +kernel
theorem dL_law_387 : decode code 387 = .ok (.invokevirtual 77, 3) := by decide +kernel
theorem dL_law_390 : decode code 390 = .ok (.istore 6, 2) := by decide +kernel
theorem dL_law_392 : decode code 392 = .ok (.aload_n 2, 1) := by decide +kernel
theorem dL_law_393 : decode code 393 = .ok (.invokevirtual 60, 3) := by decide +kernel
theorem dL_law_396 : decode code 396 = .ok (.iload 5, 2) := by decide +kernel
theorem dL_law_398 : decode code 398 = .ok (.if_icmp .eq 5, 3) := by decide +kernel
theorem dL_law_401 : decode code 401 = .ok (.iconst 0, 1) := by decide +kernel
theorem dL_law_402 : decode code 402 = .ok (.ireturn, 1) := by decide +kernel
theorem dL_law_403 : decode code 403 = .ok (.iload 5, 2) := by decide +kernel
theorem dL_law_405 : decode code 405 = .ok (.ifCond .ne 15, 3) := by decide +kernel
theorem dL_law_408 : decode code 408 = .ok (.aload_n 3, 1) := by decide +kernel
theorem dL_law_409 : decode code 409 = .ok (.iconst 0, 1) := by decide +kernel
theorem dL_law_410 : decode code 410 = .ok (.laload, 1) := by decide +kernel
theorem dL_law_411 : decode code 411 = .ok (.iload 6, 2) := by decide +kernel
theorem dL_law_413 : decode code 413 = .ok (.i2l, 1) := by decide +kernel
theorem dL_law_414 : decode code 414 = .ok (.lcmp, 1) := by decide +kernel
theorem dL_law_415 : decode code 415 = .ok (.ifCond .eq 5, 3) := by decide +kernel
theorem dL_law_418 : decode code 418 = .ok (.iconst 0, 1) := by decide +kernel
theorem dL_law_419 : decode code 419 = .ok (.ireturn, 1) := by decide +kernel
theorem dL_law_420 : decode code 420 = .ok (.goto 215, 3) := by decide +kernel
theorem dL_law_423 : decode code 423 = .ok (.aload_n 1, 1) := by decide +kernel
theorem dL_law_424 : decode code 424 = .ok (.aload_n 0, 1) := by decide +kernel
theorem dL_law_425 : decode code 425 = .ok (.iload 4, 2) := by decide +kernel
theorem dL_law_427 : decode code 427 = .ok (.iconst 1, 1) := by decide +kernel
theorem dL_law_428 : decode code 428 = .ok (.iadd, 1) := by decide +kernel
theorem dL_law_429 : decode code 429 = .ok (.iaload, 1) := by decide +kernel
theorem dL_law_430 : decode code 430 = .ok (.aload_n 3, 1) := by decide +kernel
theorem dL_law_431 : decode code 431 = .ok (.invokestatic 78, 3) := by decide +kernel
theorem dL_law_434 : decode code 434 = .ok (.istore 5, 2) := by decide +kernel
theorem dL_law_436 : decode code 436 = .ok (.aload_n 2, 1) := by decide +kernel
theorem dL_law_437 : decode code 437 = .ok (.aload_n 0, 1) := by decide +kernel
theorem dL_law_438 : decode code 438 = .ok (.iload 4, 2) := by decide +kernel
theorem dL_law_440 : decode code 440 = .ok (.iconst 1, 1) := by decide +kernel
theorem dL_law_441 : decode code 441 = .ok (.iadd, 1) := by decide +kernel
theorem dL_law_442 : decode code 442 = .ok (.iaload, 1) := by decide +kernel
theorem dL_law_443 : decode code 443 = .ok (.invokevirtual 81, 3) := by decide +kernel
theorem dL_law_446 : decode code 446 = .ok (.istore 6, 2) := by decide +kernel
theorem dL_law_448 : decode code 448 = .ok (.aload_n 2, 1) := by decide +kernel
theorem dL_law_449 : decode code 449 = .ok (.invokevirtual 60, 3) := by decide +kernel
theorem dL_law_452 : decode code 452 = .ok (.iload 5, 2) := by decide +kernel
theorem dL_law_454 : decode code 454 = .ok (.if_icmp .eq 5, 3) := by decide +kernel
theorem dL_law_457 : decode code 457 = .ok (.iconst 0, 1) := by decide +kernel
theorem dL_law_458 : decode code 458 = .ok (.ireturn, 1) := by decide +kernel
theorem dL_law_459 : decode code 459 = .ok (.iload 5, 2) := by decide +kernel
theorem dL_law_461 : decode code 461 = .ok (.ifCond .ne 15, 3) := by decide +kernel
theorem dL_law_464 : decode code 464 = .ok (.aload_n 3, 1) := by decide +kernel
theorem dL_law_465 : decode code 465 = .ok (.iconst 0, 1) := by decide +kernel
theorem dL_law_466 : decode code 466 = .ok (.laload, 1) := by decide +kernel
theorem dL_law_467 : decode code 467 = .ok (.iload 6, 2) := by decide +kernel
theorem dL_law_469 : decode code 469 = .ok (.i2l, 1) := by decide +kernel
theorem dL_law_470 : decode code 470 = .ok (.lcmp, 1) := by decide +kernel
theorem dL_law_471 : decode code 471 = .ok (.ifCond .eq 5, 3) := by decide +kernel
theorem dL_law_474 : decode code 474 = .ok (.iconst 0, 1) := by decide +kernel
theorem dL_law_475 : decode code 475 = .ok (.ireturn, 1) := by decide +kernel
theorem dL_law_476 : decode code 476 = .ok (.goto 159, 3) := by decide +kernel
theorem dL_law_479 : decode code 479 = .ok (.aload_n 1, 1) := by decide +kernel
theorem dL_law_480 : decode code 480 = .ok (.aload_n 0, 1) := by decide +kernel
theorem dL_law_481 : decode code 481 = .ok (.iload 4, 2) := by decide +kernel
theorem dL_law_483 : decode code 483 = .ok (.iconst 1, 1) := by decide +kernel
theorem dL_law_484 : decode code 484 = .ok (.iadd, 1) := by decide +kernel
theorem dL_law_485 : decode code 485 = .ok (.iaload, 1) := by decide +kernel
theorem dL_law_486 : decode code 486 = .ok (.aload_n 0, 1) := by decide +kernel
theorem dL_law_487 : decode code 487 = .ok (.iload 4, 2) := by decide +kernel
theorem dL_law_489 : decode code 489 = .ok (.iconst 2, 1) := by decide +kernel
theorem dL_law_490 : decode code 490 = .ok (.iadd, 1) := by decide +kernel
theorem dL_law_491 : decode code 491 = .ok (.iaload, 1) := by decide +kernel
theorem dL_law_492 : decode code 492 = .ok (.aload_n 3, 1) := by decide +kernel
theorem dL_law_493 : decode code 493 = .ok (.invokestatic 82, 3) := by decide +kernel
theorem dL_law_496 : decode code 496 = .ok (.istore 5, 2) := by decide +kernel
theorem dL_law_498 : decode code 498 = .ok (.aload_n 2, 1) := by decide +kernel
theorem dL_law_499 : decode code 499 = .ok (.aload_n 0, 1) := by decide +kernel
theorem dL_law_500 : decode code 500 = .ok (.iload 4, 2) := by decide +kernel
theorem dL_law_502 : decode code 502 = .ok (.iconst 1, 1) := by decide +kernel
theorem dL_law_503 : decode code 503 = .ok (.iadd, 1) := by decide +kernel
theorem dL_law_504 : decode code 504 = .ok (.iaload, 1) := by decide +kernel
theorem dL_law_505 : decode code 505 = .ok (.aload_n 0, 1) := by decide +kernel
theorem dL_law_506 : decode code 506 = .ok (.iload 4, 2) := by decide +kernel
theorem dL_law_508 : decode code 508 = .ok (.iconst 2, 1) := by decide +kernel
theorem dL_law_509 : decode code 509 = .ok (.iadd, 1) := by decide +kernel
theorem dL_law_510 : decode code 510 = .ok (.iaload, 1) := by decide +kernel
theorem dL_law_511 : decode code 511 = .ok (.invokevirtual 84, 3) := by decide +kernel
theorem dL_law_514 : decode code 514 = .ok (.istore 6, 2) := by decide +kernel
theorem dL_law_516 : decode code 516 = .ok (.aload_n 2, 1) := by decide +kernel
theorem dL_law_517 : decode code 517 = .ok (.invokevirtual 60, 3) := by decide +kernel
theorem dL_law_520 : decode code 520 = .ok (.iload 5, 2) := by decide +kernel
theorem dL_law_522 : decode code 522 = .ok (.if_icmp .eq 5, 3) := by decide +kernel
theorem dL_law_525 : decode code 525 = .ok (.iconst 0, 1) := by decide +kernel
theorem dL_law_526 : decode code 526 = .ok (.ireturn, 1) := by decide +kernel
theorem dL_law_527 : decode code 527 = .ok (.iload 5, 2) := by decide +kernel
theorem dL_law_529 : decode code 529 = .ok (.ifCond .ne 15, 3) := by decide +kernel
theorem dL_law_532 : decode code 532 = .ok (.aload_n 3, 1) := by decide +kernel
theorem dL_law_533 : decode code 533 = .ok (.iconst 0, 1) := by decide +kernel
theorem dL_law_534 : decode code 534 = .ok (.laload, 1) := by decide +kernel
theorem dL_law_535 : decode code 535 = .ok (.iload 6, 2) := by decide +kernel
theorem dL_law_537 : decode code 537 = .ok (.i2l, 1) := by decide +kernel
theorem dL_law_538 : decode code 538 = .ok (.lcmp, 1) := by decide +kernel
theorem dL_law_539 : decode code 539 = .ok (.ifCond .eq 5, 3) := by decide +kernel
theorem dL_law_542 : decode code 542 = .ok (.iconst 0, 1) := by decide +kernel
theorem dL_law_543 : decode code 543 = .ok (.ireturn, 1) := by decide +kernel
theorem dL_law_544 : decode code 544 = .ok (.goto 91, 3) := by decide +kernel
theorem dL_law_547 : decode code 547 = .ok (.aload_n 1, 1) := by decide +kernel
theorem dL_law_548 : decode code 548 = .ok (.aload_n 0, 1) := by decide +kernel
theorem dL_law_549 : decode code 549 = .ok (.iload 4, 2) := by decide +kernel
theorem dL_law_551 : decode code 551 = .ok (.iconst 1, 1) := by decide +kernel
theorem dL_law_552 : decode code 552 = .ok (.iadd, 1) := by decide +kernel
theorem dL_law_553 : decode code 553 = .ok (.iaload, 1) := by decide +kernel
theorem dL_law_554 : decode code 554 = .ok (.aload_n 0, 1) := by decide +kernel
theorem dL_law_555 : decode code 555 = .ok (.iload 4, 2) := by decide +kernel
theorem dL_law_557 : decode code 557 = .ok (.iconst 2, 1) := by decide +kernel
theorem dL_law_558 : decode code 558 = .ok (.iadd, 1) := by decide +kernel
theorem dL_law_559 : decode code 559 = .ok (.iaload, 1) := by decide +kernel
theorem dL_law_560 : decode code 560 = .ok (.aload_n 3, 1) := by decide +kernel
theorem dL_law_561 : decode code 561 = .ok (.invokestatic 85, 3) := by decide +kernel
theorem dL_law_564 : decode code 564 = .ok (.istore 5, 2) := by decide +kernel
theorem dL_law_566 : decode code 566 = .ok (.aload_n 2, 1) := by decide +kernel
theorem dL_law_567 : decode code 567 = .ok (.aload_n 0, 1) := by decide +kernel
theorem dL_law_568 : decode code 568 = .ok (.iload 4, 2) := by decide +kernel
theorem dL_law_570 : decode code 570 = .ok (.iconst 1, 1) := by decide +kernel
theorem dL_law_571 : decode code 571 = .ok (.iadd, 1) := by decide +kernel
theorem dL_law_572 : decode code 572 = .ok (.iaload, 1) := by decide +kernel
theorem dL_law_573 : decode code 573 = .ok (.aload_n 0, 1) := by decide +kernel
theorem dL_law_574 : decode code 574 = .ok (.iload 4, 2) := by decide +kernel
theorem dL_law_576 : decode code 576 = .ok (.iconst 2, 1) := by decide +kernel
theorem dL_law_577 : decode code 577 = .ok (.iadd, 1) := by decide +kernel
theorem dL_law_578 : decode code 578 = .ok (.iaload, 1) := by decide +kernel
theorem dL_law_579 : decode code 579 = .ok (.invokevirtual 87, 3) := by decide +kernel
theorem dL_law_582 : decode code 582 = .ok (.istore 6, 2) := by decide +kernel
theorem dL_law_584 : decode code 584 = .ok (.aload_n 2, 1) := by decide +kernel
theorem dL_law_585 : decode code 585 = .ok (.invokevirtual 60, 3) := by decide +kernel
theorem dL_law_588 : decode code 588 = .ok (.iload 5, 2) := by decide +kernel
theorem dL_law_590 : decode code 590 = .ok (.if_icmp .eq 5, 3) := by decide +kernel
theorem dL_law_593 : decode code 593 = .ok (.iconst 0, 1) := by decide +kernel
theorem dL_law_594 : decode code 594 = .ok (.ireturn, 1) := by decide +kernel
theorem dL_law_595 : decode code 595 = .ok (.iload 5, 2) := by decide +kernel
theorem dL_law_597 : decode code 597 = .ok (.ifCond .ne 22, 3) := by decide +kernel
theorem dL_law_600 : decode code 600 = .ok (.aload_n 3, 1) := by decide +kernel
theorem dL_law_601 : decode code 601 = .ok (.iconst 0, 1) := by decide +kernel
theorem dL_law_602 : decode code 602 = .ok (.laload, 1) := by decide +kernel
theorem dL_law_603 : decode code 603 = .ok (.iload 6, 2) := by decide +kernel
theorem dL_law_605 : decode code 605 = .ok (.ifCond .eq 7, 3) := by decide +kernel
theorem dL_law_608 : decode code 608 = .ok (.lconst 1, 1) := by decide +kernel
theorem dL_law_609 : decode code 609 = .ok (.goto 4, 3) := by decide +kernel
theorem dL_law_612 : decode code 612 = .ok (.lconst 0, 1) := by decide +kernel
theorem dL_law_613 : decode code 613 = .ok (.lcmp, 1) := by decide +kernel
theorem dL_law_614 : decode code 614 = .ok (.ifCond .eq 5, 3) := by decide +kernel
theorem dL_law_617 : decode code 617 = .ok (.iconst 0, 1) := by decide +kernel
theorem dL_law_618 : decode code 618 = .ok (.ireturn, 1) := by decide +kernel
theorem dL_law_619 : decode code 619 = .ok (.goto 16, 3) := by decide +kernel
theorem dL_law_622 : decode code 622 = .ok (.aload_n 1, 1) := by decide +kernel
theorem dL_law_623 : decode code 623 = .ok (.invokevirtual 88, 3) := by decide +kernel
theorem dL_law_626 : decode code 626 = .ok (.aload_n 2, 1) := by decide +kernel
theorem dL_law_627 : decode code 627 = .ok (.invokevirtual 91, 3) := by decide +kernel
theorem dL_law_630 : decode code 630 = .ok (.if_icmp .eq 5, 3) := by decide +kernel
theorem dL_law_633 : decode code 633 = .ok (.iconst 0, 1) := by decide +kernel
theorem dL_law_634 : decode code 634 = .ok (.ireturn, 1) := by decide +kernel
theorem dL_law_635 : decode code 635 = .ok (.iinc 4 4, 3) := by decide +kernel
theorem dL_law_638 : decode code 638 = .ok (.goto (-615), 3) := by decide +kernel
theorem dL_law_641 : decode code 641 = .ok (.iconst 1, 1) := by decide +kernel
theorem dL_law_642 : decode code 642 = .ok (.ireturn, 1) := by decide +kernel
end
section
/-! small rows: numbers, indices that are naturals, branches on them -/
theorem yn_inc (i : Nat) : nI i + Int32.ofInt 1 = nI (i + 1) := by rw [show Int32.ofInt 1 = (1 : Int32) from by decide]; exact nI_1 i
theorem yn_dec (i : Nat) : nI (i + 1) + Int32.ofInt (-1) = nI i := by rw [show Int32.ofInt (-1) = (-1 : Int32) from by decide]; exact pk_m1 i
theorem yn_inck4 (i : Nat) : nI i + Int32.ofInt 4 = nI (i + 4) := by rw [show Int32.ofInt 4 = nI 4 from by decide]; exact nI_add i 4
theorem yn_dm (x : Int32) : x + Int32.ofInt (-1) = x - 1 := by rw [show Int32.ofInt (-1) = (-1 : Int32) from by decide, Int32.sub_eq_add_neg]
theorem yn_toInt {i : Nat} (h : i < 1000) : (nI i).toInt = (i : Int) := nI_toInt (by omega)
theorem yn_z0 : vp_nar .boolean 0 = 0 := by decide
theorem yn_z1 : vp_nar .boolean 1 = 1 := by decide
theorem yn_m1 {i : Nat} (h : i < 2 ^ 31) : ¬ nI i = -1 := by
  intro q
  have h1 := nI_toInt h
  rw [q] at h1
  have h2 : (-1 : Int32).toInt = -1 := by decide
  omega
/-- a natural-valued row of an array, one place set -/
def vu (f : Nat → Nat) (k x : Nat) : Nat → Nat := fun j => if j = k then x else f j
theorem vu_upd (f : Nat → Nat) (k x : Nat) : upd (fun j => nI (f j)) k (nI x) = fun j => nI (vu f k x j) := by
  funext j
  by_cases h : j = k
  · subst h; simp [vu, pk_us]
  · rw [pk_un h]; simp [vu, h]
theorem vu_same (f : Nat → Nat) (k x : Nat) : vu f k x k = x := by simp [vu]
theorem vu_other {f : Nat → Nat} {k x j : Nat} (h : j ≠ k) : vu f k x j = f j := by simp [vu, h]
section YAA
variable {p : Program} {l : Launch} {e : Env} {R : Room} {s : State} {m : MethodId} {args : Array Value} {below : List Frame} {meth : Method} {c : Code} {H : Heap} {locs : List Loc} {cells slots : Nat} {Q : State → Prop}
variable {cc : ByteArray} {pc : Nat} {ls : Array Slot} {rest : List Value} {D : va_G} {cl : List vw_C} {A : Nat → Prop} {a : Nat} {tys : List (ClassId × FieldType)} {ws : va_W} {H0 : Heap}
theorem ya_iald (hexec : p.tables.exec = Jvm.exec) (hb : c.code = cc) (hK : va_K D cl tys s) (hP : va_P D cl ws H) (q0 t0 : Nat) {cA : ClassId} {n : Nat} {f : Nat → Int32} (ha : ws[q0]? = some (a, .inl (cA, n, .inl f))) (ht : tys[t0]? = some (cA, .int)) {j : Nat} (hj : j < n) (hn : n < 2 ^ 31) (hdg : decode cc pc = .ok (.iaload, 1))
    (kk : W p l e R s m args below meth c H locs cells slots Q (F0 m (pc + 1) ls (.int (f j) :: rest))) : W p l e R s m args below meth c H locs cells slots Q (F0 m pc ls (.int (nI j) :: .ref a :: rest)) :=
  va_iald hexec hb hK hP q0 t0 ha ht (vp_in_nI hj hn) hdg (by rw [nI_clamp (Nat.lt_trans hj hn)]; exact kk)
theorem ya_zald (hexec : p.tables.exec = Jvm.exec) (hb : c.code = cc) (hK : va_K D cl tys s) (hP : va_P D cl ws H) (q0 t0 : Nat) {cA : ClassId} {n : Nat} {f : Nat → Int32} (ha : ws[q0]? = some (a, .inl (cA, n, .inl f))) (ht : tys[t0]? = some (cA, .boolean)) {j : Nat} (hj : j < n) (hn : n < 2 ^ 31) (hdg : decode cc pc = .ok (.baload, 1))
    (kk : W p l e R s m args below meth c H locs cells slots Q (F0 m (pc + 1) ls (.int (f j) :: rest))) : W p l e R s m args below meth c H locs cells slots Q (F0 m pc ls (.int (nI j) :: .ref a :: rest)) :=
  va_zald hexec hb hK hP q0 t0 ha ht (vp_in_nI hj hn) hdg (by rw [nI_clamp (Nat.lt_trans hj hn)]; exact kk)
theorem ya_iast (hexec : p.tables.exec = Jvm.exec) (hb : c.code = cc) (hK : va_K D cl tys s) (hP : va_P D cl ws H) (hD : va_D A ws) (hS : va_S A H0 H locs) (q0 t0 : Nat) {cA : ClassId} {n : Nat} {f : Nat → Int32} (ha : ws[q0]? = some (a, .inl (cA, n, .inl f))) (ht : tys[t0]? = some (cA, .int)) {j : Nat} {x : Int32} (hj : j < n) (hn : n < 2 ^ 31) (hdg : decode cc pc = .ok (.iastore, 1))
    (kk : ∀ (H1 : Heap) (locs1 : List Loc), va_P D cl (ws.set q0 (a, .inl (cA, n, .inl (upd f j x)))) H1 → va_D A (ws.set q0 (a, .inl (cA, n, .inl (upd f j x)))) → va_S A H0 H1 locs1 → W p l e R s m args below meth c H1 locs1 cells slots Q (F0 m (pc + 1) ls rest)) : W p l e R s m args below meth c H locs cells slots Q (F0 m pc ls (.int x :: .int (nI j) :: .ref a :: rest)) :=
  va_iast hexec hb hK hP hD hS q0 t0 ha ht (vp_in_nI hj hn) hdg (by rw [nI_clamp (Nat.lt_trans hj hn)]; exact kk)
theorem ya_zast (hexec : p.tables.exec = Jvm.exec) (hb : c.code = cc) (hK : va_K D cl tys s) (hP : va_P D cl ws H) (hD : va_D A ws) (hS : va_S A H0 H locs) (q0 t0 : Nat) {cA : ClassId} {n : Nat} {f : Nat → Int32} (ha : ws[q0]? = some (a, .inl (cA, n, .inl f))) (ht : tys[t0]? = some (cA, .boolean)) {j : Nat} {x : Int32} (hj : j < n) (hn : n < 2 ^ 31) (hz : vp_nar .boolean x = x) (hdg : decode cc pc = .ok (.bastore, 1))
    (kk : ∀ (H1 : Heap) (locs1 : List Loc), va_P D cl (ws.set q0 (a, .inl (cA, n, .inl (upd f j x)))) H1 → va_D A (ws.set q0 (a, .inl (cA, n, .inl (upd f j x)))) → va_S A H0 H1 locs1 → W p l e R s m args below meth c H1 locs1 cells slots Q (F0 m (pc + 1) ls rest)) : W p l e R s m args below meth c H locs cells slots Q (F0 m pc ls (.int x :: .int (nI j) :: .ref a :: rest)) :=
  va_zast hexec hb hK hP hD hS q0 t0 ha ht (vp_in_nI hj hn) hdg (by rw [nI_clamp (Nat.lt_trans hj hn), hz]; exact kk)
theorem yb_ge {off : Int} {tgt i n : Nat} (hi : i < 2 ^ 31) (hn : n < 2 ^ 31) (hexec : p.tables.exec = Jvm.exec) (hb : c.code = cc) (hdg : decode cc pc = .ok (.if_icmp .ge off, 3)) (ht : (pc : Int) + off = (tgt : Int))
    (kt : n ≤ i → W p l e R s m args below meth c H locs cells slots Q (F0 m tgt ls rest)) (kf : i < n → W p l e R s m args below meth c H locs cells slots Q (F0 m (pc + 3) ls rest)) : W p l e R s m args below meth c H locs cells slots Q (F0 m pc ls (.int (nI n) :: .int (nI i) :: rest)) :=
  lv_icmp_ge hexec hb hdg ht (fun h => kt ((nI_leI hn hi).mp h)) (fun h => kf (Nat.lt_of_not_le fun q => h ((nI_leI hn hi).mpr q)))
theorem yb_lt {off : Int} {tgt i n : Nat} (hi : i < 2 ^ 31) (hn : n < 2 ^ 31) (hexec : p.tables.exec = Jvm.exec) (hb : c.code = cc) (hdg : decode cc pc = .ok (.if_icmp .lt off, 3)) (ht : (pc : Int) + off = (tgt : Int))
    (kt : i < n → W p l e R s m args below meth c H locs cells slots Q (F0 m tgt ls rest)) (kf : n ≤ i → W p l e R s m args below meth c H locs cells slots Q (F0 m (pc + 3) ls rest)) : W p l e R s m args below meth c H locs cells slots Q (F0 m pc ls (.int (nI n) :: .int (nI i) :: rest)) :=
  lv_icmp_lt hexec hb hdg ht (fun h => kt ((nI_ltI hi hn).mp h)) (fun h => kf (Nat.le_of_not_lt fun q => h ((nI_ltI hi hn).mpr q)))
theorem yb_le {off : Int} {tgt i n : Nat} (hi : i < 2 ^ 31) (hn : n < 2 ^ 31) (hexec : p.tables.exec = Jvm.exec) (hb : c.code = cc) (hdg : decode cc pc = .ok (.if_icmp .le off, 3)) (ht : (pc : Int) + off = (tgt : Int))
    (kt : i ≤ n → W p l e R s m args below meth c H locs cells slots Q (F0 m tgt ls rest)) (kf : n < i → W p l e R s m args below meth c H locs cells slots Q (F0 m (pc + 3) ls rest)) : W p l e R s m args below meth c H locs cells slots Q (F0 m pc ls (.int (nI n) :: .int (nI i) :: rest)) :=
  lv_icmp_le hexec hb hdg ht (fun h => kt ((nI_leI hi hn).mp h)) (fun h => kf (Nat.lt_of_not_le fun q => h ((nI_leI hi hn).mpr q)))
theorem yb_gt {off : Int} {tgt i n : Nat} (hi : i < 2 ^ 31) (hn : n < 2 ^ 31) (hexec : p.tables.exec = Jvm.exec) (hb : c.code = cc) (hdg : decode cc pc = .ok (.if_icmp .gt off, 3)) (ht : (pc : Int) + off = (tgt : Int))
    (kt : n < i → W p l e R s m args below meth c H locs cells slots Q (F0 m tgt ls rest)) (kf : i ≤ n → W p l e R s m args below meth c H locs cells slots Q (F0 m (pc + 3) ls rest)) : W p l e R s m args below meth c H locs cells slots Q (F0 m pc ls (.int (nI n) :: .int (nI i) :: rest)) :=
  lv_icmp_gt hexec hb hdg ht (fun h => kt ((nI_ltI hn hi).mp h)) (fun h => kf (Nat.le_of_not_lt fun q => h ((nI_ltI hn hi).mpr q)))
theorem yb_eq {off : Int} {tgt i n : Nat} (hi : i < 2 ^ 31) (hn : n < 2 ^ 31) (hexec : p.tables.exec = Jvm.exec) (hb : c.code = cc) (hdg : decode cc pc = .ok (.if_icmp .eq off, 3)) (ht : (pc : Int) + off = (tgt : Int))
    (kt : i = n → W p l e R s m args below meth c H locs cells slots Q (F0 m tgt ls rest)) (kf : ¬ i = n → W p l e R s m args below meth c H locs cells slots Q (F0 m (pc + 3) ls rest)) : W p l e R s m args below meth c H locs cells slots Q (F0 m pc ls (.int (nI n) :: .int (nI i) :: rest)) :=
  lv_icmp_eq hexec hb hdg ht (fun h => kt ((nI_eq hi hn).mp h)) (fun h => kf (fun q => h ((nI_eq hi hn).mpr q)))
theorem yb_ne {off : Int} {tgt i n : Nat} (hi : i < 2 ^ 31) (hn : n < 2 ^ 31) (hexec : p.tables.exec = Jvm.exec) (hb : c.code = cc) (hdg : decode cc pc = .ok (.if_icmp .ne off, 3)) (ht : (pc : Int) + off = (tgt : Int))
    (kt : ¬ i = n → W p l e R s m args below meth c H locs cells slots Q (F0 m tgt ls rest)) (kf : i = n → W p l e R s m args below meth c H locs cells slots Q (F0 m (pc + 3) ls rest)) : W p l e R s m args below meth c H locs cells slots Q (F0 m pc ls (.int (nI n) :: .int (nI i) :: rest)) :=
  lv_icmp_ne hexec hb hdg ht (fun h => kt (fun q => h ((nI_eq hi hn).mpr q))) (fun h => kf ((nI_eq hi hn).mp h))
end YAA
end
section
/-- the cells of a WindowMeters: the object at ad 0, its eight rows at ad 1 .. ad 8; the rows of naturals (keys, bySize, seenOfKey) as naturals -/
abbrev wm (ca : Nat → ClassId) (ad : Nat → Nat) (t : Nat → Int32) (k : Nat → Nat) (v : Nat → Int32) (b : Nat → Nat) (n : Nat) (kd : Nat → Int32) (ln : Nat → Int32) (w : Nat) (nw : Int32) (ins : Nat → Int32) (sn : Nat → Nat) : va_W := [(ad 0, .inr (0, [.ref (ad 1), .ref (ad 2), .ref (ad 3), .ref (ad 4), .int (nI n), .ref (ad 5), .ref (ad 6), .int (nI w), .int nw, .ref (ad 7), .ref (ad 8)])), (ad 1, .inl (ca 1, 300, .inl t)), (ad 2, .inl (ca 2, 300, .inl (fun j => nI (k j)))), (ad 3, .inl (ca 3, 300, .inl v)), (ad 4, .inl (ca 4, 300, .inl (fun j => nI (b j)))), (ad 5, .inl (ca 5, 6, .inl kd)), (ad 6, .inl (ca 6, 6, .inl ln)), (ad 7, .inl (ca 7, 300, .inl ins)), (ad 8, .inl (ca 8, 8, .inl (fun j => nI (sn j))))]
abbrev wmT (ca : Nat → ClassId) : List (ClassId × FieldType) := [(ca 1, .int), (ca 2, .int), (ca 3, .int), (ca 4, .int), (ca 5, .int), (ca 6, .int), (ca 7, .boolean), (ca 8, .int)]
abbrev wmPre (dC : Nat → ClassId) (dI : Nat → Nat → Nat) (ca : Nat → ClassId) (ad : Nat → Nat) (sz : Nat) (t : Nat → Int32) (k : Nat → Nat) (v : Nat → Int32) (b : Nat → Nat) (n : Nat) (kd : Nat → Int32) (ln : Nat → Int32) (w : Nat) (nw : Int32) (ins : Nat → Int32) (sn : Nat → Nat) (U : State) : Prop := U.heap.size = sz ∧ va_P (dC, dI) vwCl (wm ca ad t k v b n kd ln w nw ins sn) U.heap ∧ va_K (dC, dI) vwCl (wmT ca) U ∧ va_D (fun _ => True) (wm ca ad t k v b n kd ln w nw ins sn)
abbrev wmAt (dC : Nat → ClassId) (dI : Nat → Nat → Nat) (ca : Nat → ClassId) (ad : Nat → Nat) (A : Nat → Prop) (t : Nat → Int32) (k : Nat → Nat) (v : Nat → Int32) (b : Nat → Nat) (n : Nat) (kd : Nat → Int32) (ln : Nat → Int32) (w : Nat) (nw : Int32) (ins : Nat → Int32) (sn : Nat → Nat) (U : State) : Prop := va_P (dC, dI) vwCl (wm ca ad t k v b n kd ln w nw ins sn) U.heap ∧ va_K (dC, dI) vwCl (wmT ca) U ∧ va_D A (wm ca ad t k v b n kd ln w nw ins sn)
theorem wm_preV {s : State} {H : Heap} {dC : Nat → ClassId} {dI : Nat → Nat → Nat} {ca : Nat → ClassId} {ad : Nat → Nat} {A : Nat → Prop} {t : Nat → Int32} {k : Nat → Nat} {v : Nat → Int32} {b : Nat → Nat} {n : Nat} {kd : Nat → Int32} {ln : Nat → Int32} {w : Nat} {nw : Int32} {ins : Nat → Int32} {sn : Nat → Nat} (hK : va_K (dC, dI) vwCl (wmT ca) s) (hP : va_P (dC, dI) vwCl (wm ca ad t k v b n kd ln w nw ins sn) H) (hD : va_D A (wm ca ad t k v b n kd ln w nw ins sn)) (As : List Value) : PreV s H RX0 (ad 0) (va_Pc (.ref (ad 0) :: As) (wmPre dC dI ca ad H.size t k v b n kd ln w nw ins sn)) As :=
  ⟨fun a U g mk q => by
    obtain ⟨q0, q1, qP, qK, qD⟩ := q
    exact ⟨q0, q1, qP, va_K.moved (u := U) (U := U.calling g mk a) (Vm.Alike.refl U.vm) qK, qD⟩,
   va_recv hK hP (ci := 0) (q0 := 0) rfl rfl, fun U hU hW => ⟨rfl, by rw [hU], by rw [hU]; exact hP, va_K.moved hW.alike hK, hD.weaken (fun _ _ _ _ => trivial)⟩⟩
end
section
/-! what the loops of WindowMeters count, as they count it -/
def qc_cnt (f : Nat → Int32) : Nat → Nat
  | 0 => 0
  | i + 1 => if f i = 0 then qc_cnt f i else qc_cnt f i + 1
def qc_sum (v f : Nat → Int32) : Nat → Int32
  | 0 => 0
  | i + 1 => if f i = 0 then qc_sum v f i else qc_sum v f i + v i
def qc_bel (v f : Nat → Int32) (x : Int32) : Nat → Nat
  | 0 => 0
  | i + 1 => if f i = 0 then qc_bel v f x i else if x ≤ v i then qc_bel v f x i else qc_bel v f x i + 1
def qc_eqc (v f : Nat → Int32) (x : Int32) : Nat → Nat
  | 0 => 0
  | i + 1 => if f i = 0 then qc_eqc v f x i else if v i = x then qc_eqc v f x i + 1 else qc_eqc v f x i
/-- a number of a tuple, or NONE -/
def qc_o (o : Option Nat) : Int32 := match o with
  | none => -1
  | some j => nI j
def qc_unl (v : Nat → Int32) (b : Nat → Nat) (f : Nat → Int32) : Nat → Nat × Option Nat
  | 0 => (0, none)
  | i + 1 => if f (b i) = 0 then qc_unl v b f i else
    (match (qc_unl v b f i).2 with
      | none => (qc_unl v b f i).1 + 1
      | some j => if v (b i) = v j then (qc_unl v b f i).1 else (qc_unl v b f i).1 + 1, some (b i))
/-- how often, with the next one x -/
def qc_oft (v : Nat → Int32) (x : Int32) (lo : Option Nat) (o : Nat) : Nat := match lo with
  | none => 1
  | some j => if x = v j then o + 1 else 1
/-- findMostFrequent: (most, mostOften, last, often) -/
def qc_fmf (v : Nat → Int32) (b : Nat → Nat) (f : Nat → Int32) : Nat → Option Nat × Nat × Option Nat × Nat
  | 0 => (none, 0, none, 0)
  | i + 1 => if f (b i) = 0 then qc_fmf v b f i else
    let q := qc_fmf v b f i
    let o := qc_oft v (v (b i)) q.2.2.1 q.2.2.2
    if q.2.1 < o then (some (b i), o, some (b i), o) else (q.1, q.2.1, some (b i), o)
def qc_cnb (b : Nat → Nat) (f : Nat → Int32) : Nat → Nat
  | 0 => 0
  | i + 1 => if f (b i) = 0 then qc_cnb b f i else qc_cnb b f i + 1
/-- countMostFrequent -/
def qc_cmf (v : Nat → Int32) (b : Nat → Nat) (f : Nat → Int32) (n : Nat) : Int32 := match (qc_fmf v b f n).1 with
  | none => 0
  | some j => nI (qc_eqc v f (v j) n)
theorem qc_o_none {o : Option Nat} (hN : ∀ j, o = some j → j < 2 ^ 31) (h : qc_o o = -1) : o = none := by
  cases o with
  | none => rfl
  | some j => exact absurd h (yn_m1 (hN j rfl))
theorem qc_o_some {o : Option Nat} (h : ¬ qc_o o = -1) : ∃ j, o = some j := by
  cases o with
  | none => exact absurd rfl h
  | some j => exact ⟨j, rfl⟩
theorem qc_cnt_le (f : Nat → Int32) : ∀ i, qc_cnt f i ≤ i
  | 0 => Nat.le_refl 0
  | i + 1 => by have := qc_cnt_le f i; unfold qc_cnt; split <;> omega
theorem qc_unl_in {v : Nat → Int32} {b : Nat → Nat} {f : Nat → Int32} {n : Nat} (hb : ∀ j, j < n → b j < n) : ∀ i, i ≤ n → ∀ j, (qc_unl v b f i).2 = some j → j < n
  | 0, _, j, h => by cases h
  | i + 1, hi, j, h => by
    unfold qc_unl at h
    split at h
    · exact qc_unl_in hb i (by omega) j h
    · cases h
      exact hb i (by omega)
theorem qc_fmf_in {v : Nat → Int32} {b : Nat → Nat} {f : Nat → Int32} {n : Nat} (hb : ∀ j, j < n → b j < n) : ∀ i, i ≤ n → (∀ j, (qc_fmf v b f i).1 = some j → j < n) ∧ (∀ j, (qc_fmf v b f i).2.2.1 = some j → j < n) ∧ (qc_fmf v b f i).2.1 ≤ i ∧ (qc_fmf v b f i).2.2.2 ≤ i := by
  intro i
  induction i with
  | zero =>
    intro _
    refine ⟨fun j h => ?_, fun j h => ?_, Nat.le_refl 0, Nat.le_refl 0⟩
    · cases h
    · cases h
  | succ i ih =>
    intro hi
    obtain ⟨h1, h2, h3, h4⟩ := ih (by omega)
    rw [qc_fmf]
    by_cases hf : f (b i) = 0
    · rw [if_pos hf]; exact ⟨h1, h2, by omega, by omega⟩
    · rw [if_neg hf]
      obtain ⟨o, ho⟩ : ∃ o : Nat, o = qc_oft v (v (b i)) (qc_fmf v b f i).2.2.1 (qc_fmf v b f i).2.2.2 := ⟨_, rfl⟩
      have hol : o ≤ i + 1 := by
        rw [ho]
        cases (qc_fmf v b f i).2.2.1 with
        | none => exact Nat.succ_le_succ (Nat.zero_le i)
        | some j =>
          show (if v (b i) = v j then (qc_fmf v b f i).2.2.2 + 1 else 1) ≤ i + 1
          by_cases e : v (b i) = v j
          · rw [if_pos e]; exact Nat.succ_le_succ h4
          · rw [if_neg e]; exact Nat.succ_le_succ (Nat.zero_le i)
      dsimp only
      rw [← ho]
      have hbi : ∀ j, some (b i) = some j → j < n := fun j h => by cases h; exact hb i (by omega)
      by_cases hlt : (qc_fmf v b f i).2.1 < o
      · rw [if_pos hlt]; exact ⟨hbi, hbi, hol, hol⟩
      · rw [if_neg hlt]; exact ⟨h1, hbi, Nat.le_succ_of_le h3, hol⟩
set_option maxRecDepth 100000 in
set_option maxHeartbeats 4000000 in
/-- countInside(): how many are marked -/
theorem c_countInside (l : Launch) (dC : Nat → ClassId) (dI : Nat → Nat → Nat) (ca : Nat → ClassId) (ad : Nat → Nat) (sz : Nat) (t : Nat → Int32) (k : Nat → Nat) (v : Nat → Int32) (b : Nat → Nat) (n : Nat) (kd : Nat → Int32) (ln : Nat → Int32) (w : Nat) (nw : Int32) (ins : Nat → Int32) (sn : Nat → Nat) (hn : n ≤ 300) : Met l yX0_countInside wsX0_countInside ({ frames := 0, cells := 0, slots := 0, locals := 0 }) (va_Pc [.ref (ad 0)] (wmPre dC dI ca ad sz t k v b n kd ln w nw ins sn)) (vp_Si (fun r => r = nI (qc_cnt ins n))) 0 0 (fun _ => False) := by
  refine Met.ofW (cc := cX0_countInside) (maxL := 3) (ret := (some .int)) (by decide) rfl ?_
  intro p e s m args below meth c s₁ B hml hv
  obtain ⟨rfl, hsz, hP, hK, hD0⟩ := hv
  have hx := B.exec
  have hb := B.bytes
  have hr := B.returns
  have hts := atoms_spec (ws := wsX0_countInside) B.pre
  have hown : s.vm.findClass RX0 = some m.cls := findClass_of_methodNamed B.named
  have hlocks := B.notSynchronized
  subst hsz
  have hin0 : ∀ w ∈ u_ws RX0 TX0 11, w ∈ wsX0_countInside := fun w h => List.mem_cons_of_mem _ (wiX0 w h)
  have fl_28 := hts _ (List.mem_cons_of_mem _ flX0_28)
  have fl_35 := hts _ (List.mem_cons_of_mem _ flX0_35)
  have hD := hD0
  have hl := lv_entry ([.ref (ad 0)]) (n := 3) (Nat.le_of_ble_eq_true rfl)
  rw [lg_entry_eq]
  generalize (lg_sl ([.ref (ad 0)]) ++ List.replicate (3 - (lg_sl ([.ref (ad 0)])).length) Slot.unset).toArray = ls at hl ⊢
  have hl : lv_has ls 3 [(0, .ref (ad 0))] := hl
  refine lv_iconst (v := 0) hx hb dX0_countInside_0 (by decide) ?_
  refine lv_istore_n (lv' := [(1, .int 0), (0, .ref (ad 0))]) hx hb dX0_countInside_1 rfl hl (by decide) rfl (fun ls hl => ?_)
  refine lv_iconst (v := 0) hx hb dX0_countInside_2 (by decide) ?_
  refine lv_istore_n (lv' := [(2, .int 0), (1, .int 0), (0, .ref (ad 0))]) hx hb dX0_countInside_3 rfl hl (by decide) rfl (fun ls hl => ?_)
  have loop : ∀ (d i : Nat) (x1 : Int32), i ≤ n → n + 1 ≤ i + d → (x1 = nI (qc_cnt ins i)) → ∀ (ls : Array Slot), lv_has ls 3 [(0, .ref (ad 0)), (1, .int x1), (2, .int (nI i))] → W p l e (headSpec wsX0_countInside ({ frames := 0, cells := 0, slots := 0, locals := 0 })).room s m ([.ref (ad 0)] : List Value).toArray below meth c s.heap [] 0 0 (MQ below (vp_Si (fun r => r = nI (qc_cnt ins n))) ([.ref (ad 0)] : List Value).toArray s 0 0 (fun _ => False)) (F0 m 4 ls []) := by
    intro d
    induction d with
    | zero =>
      intro i x1 hi hfu
      exact absurd hfu (by omega)
    | succ d ih =>
      intro i x1 hi hfu hx1 ls hl
      refine lv_iload_n hx hb dX0_countInside_4 rfl (lv_at hl 2 rfl) ?_
      refine lv_aload_n hx hb dX0_countInside_5 rfl (lv_at hl 0 rfl) ?_
      refine va_get (D := (dC, dI)) (ci := 0) (v := .int (nI n)) (C := RX0) (T := TX0) (N := 11) hx hb hts hin0 hown hK hP 0 rfl rfl 4 (by decide) fl_35 (fun _ h9 => h9) rfl dX0_countInside_6 ?_
      refine yb_ge (tgt := 30) (by omega) (by omega) hx hb dX0_countInside_9 (by decide) (fun c_1 => ?_) (fun c_1 => ?_)
      · refine lv_iload_n hx hb dX0_countInside_30 rfl (lv_at hl 1 rfl) ?_
        exact W.iret (v := x1) hx hb hr (fun t ht hW => ⟨_, rfl, by rw [hx1, show i = n from by omega], ht⟩) (fun q h => by cases h) dX0_countInside_31
      · refine lv_aload_n hx hb dX0_countInside_12 rfl (lv_at hl 0 rfl) ?_
        refine va_get (D := (dC, dI)) (ci := 0) (v := .ref (ad 7)) (C := RX0) (T := TX0) (N := 11) hx hb hts hin0 hown hK hP 0 rfl rfl 9 (by decide) fl_28 (fun _ h9 => h9) rfl dX0_countInside_13 ?_
        refine lv_iload_n hx hb dX0_countInside_16 rfl (lv_at hl 2 rfl) ?_
        refine ya_zald hx hb hK hP 7 6 rfl rfl (j := i) (by omega) (by decide) dX0_countInside_17 ?_
        refine lv_if_eq (tgt := 24) hx hb dX0_countInside_18 (by decide) (fun c_2 => ?_) (fun c_2 => ?_)
        · refine lv_iinc (v := (nI (i + 1))) (lv' := [(2, .int (nI (i + 1))), (0, .ref (ad 0)), (1, .int x1)]) hx hb dX0_countInside_24 hl (k := 2) rfl (yn_inc _) (by decide) rfl (fun ls hl => ?_)
          refine lv_goto (tgt := 4) hx hb dX0_countInside_27 (by decide) ?_
          exact ih (i + 1) x1 (by omega) (by omega) (by rw [hx1]; simp [qc_cnt, c_2]) ls (lv_sub hl [1, 2, 0] rfl)
        · subst hx1
          refine lv_iinc (v := (nI ((qc_cnt ins i) + 1))) (lv' := [(1, .int (nI ((qc_cnt ins i) + 1))), (0, .ref (ad 0)), (2, .int (nI i))]) hx hb dX0_countInside_21 hl (k := 1) rfl (yn_inc _) (by decide) rfl (fun ls hl => ?_)
          refine lv_iinc (v := (nI (i + 1))) (lv' := [(2, .int (nI (i + 1))), (1, .int (nI ((qc_cnt ins i) + 1))), (0, .ref (ad 0))]) hx hb dX0_countInside_24 hl (k := 2) rfl (yn_inc _) (by decide) rfl (fun ls hl => ?_)
          refine lv_goto (tgt := 4) hx hb dX0_countInside_27 (by decide) ?_
          exact ih (i + 1) _ (by omega) (by omega) (by simp [qc_cnt, c_2]) ls (lv_sub hl [2, 1, 0] rfl)
  exact loop (n + 1) 0 0 (Nat.zero_le n) (by omega) rfl ls (lv_sub hl [2, 1, 0] rfl)

set_option maxRecDepth 100000 in
set_option maxHeartbeats 4000000 in
/-- sumInside(): the sum of the marked -/
theorem c_sumInside (l : Launch) (dC : Nat → ClassId) (dI : Nat → Nat → Nat) (ca : Nat → ClassId) (ad : Nat → Nat) (sz : Nat) (t : Nat → Int32) (k : Nat → Nat) (v : Nat → Int32) (b : Nat → Nat) (n : Nat) (kd : Nat → Int32) (ln : Nat → Int32) (w : Nat) (nw : Int32) (ins : Nat → Int32) (sn : Nat → Nat) (hn : n ≤ 300) : Met l yX0_sumInside wsX0_sumInside ({ frames := 0, cells := 0, slots := 0, locals := 0 }) (va_Pc [.ref (ad 0)] (wmPre dC dI ca ad sz t k v b n kd ln w nw ins sn)) (vp_Si (fun r => r = qc_sum v ins n)) 0 0 (fun _ => False) := by
  refine Met.ofW (cc := cX0_sumInside) (maxL := 3) (ret := (some .int)) (by decide) rfl ?_
  intro p e s m args below meth c s₁ B hml hv
  obtain ⟨rfl, hsz, hP, hK, hD0⟩ := hv
  have hx := B.exec
  have hb := B.bytes
  have hr := B.returns
  have hts := atoms_spec (ws := wsX0_sumInside) B.pre
  have hown : s.vm.findClass RX0 = some m.cls := findClass_of_methodNamed B.named
  have hlocks := B.notSynchronized
  subst hsz
  have hin0 : ∀ w ∈ u_ws RX0 TX0 11, w ∈ wsX0_sumInside := fun w h => List.mem_cons_of_mem _ (wiX0 w h)
  have fl_16 := hts _ (List.mem_cons_of_mem _ flX0_16)
  have fl_28 := hts _ (List.mem_cons_of_mem _ flX0_28)
  have fl_35 := hts _ (List.mem_cons_of_mem _ flX0_35)
  have hD := hD0
  have hl := lv_entry ([.ref (ad 0)]) (n := 3) (Nat.le_of_ble_eq_true rfl)
  rw [lg_entry_eq]
  generalize (lg_sl ([.ref (ad 0)]) ++ List.replicate (3 - (lg_sl ([.ref (ad 0)])).length) Slot.unset).toArray = ls at hl ⊢
  have hl : lv_has ls 3 [(0, .ref (ad 0))] := hl
  refine lv_iconst (v := 0) hx hb dX0_sumInside_0 (by decide) ?_
  refine lv_istore_n (lv' := [(1, .int 0), (0, .ref (ad 0))]) hx hb dX0_sumInside_1 rfl hl (by decide) rfl (fun ls hl => ?_)
  refine lv_iconst (v := 0) hx hb dX0_sumInside_2 (by decide) ?_
  refine lv_istore_n (lv' := [(2, .int 0), (1, .int 0), (0, .ref (ad 0))]) hx hb dX0_sumInside_3 rfl hl (by decide) rfl (fun ls hl => ?_)
  have loop : ∀ (d i : Nat) (x1 : Int32), i ≤ n → n + 1 ≤ i + d → (x1 = qc_sum v ins i) → ∀ (ls : Array Slot), lv_has ls 3 [(0, .ref (ad 0)), (1, .int x1), (2, .int (nI i))] → W p l e (headSpec wsX0_sumInside ({ frames := 0, cells := 0, slots := 0, locals := 0 })).room s m ([.ref (ad 0)] : List Value).toArray below meth c s.heap [] 0 0 (MQ below (vp_Si (fun r => r = qc_sum v ins n)) ([.ref (ad 0)] : List Value).toArray s 0 0 (fun _ => False)) (F0 m 4 ls []) := by
    intro d
    induction d with
    | zero =>
      intro i x1 hi hfu
      exact absurd hfu (by omega)
    | succ d ih =>
      intro i x1 hi hfu hx1 ls hl
      refine lv_iload_n hx hb dX0_sumInside_4 rfl (lv_at hl 2 rfl) ?_
      refine lv_aload_n hx hb dX0_sumInside_5 rfl (lv_at hl 0 rfl) ?_
      refine va_get (D := (dC, dI)) (ci := 0) (v := .int (nI n)) (C := RX0) (T := TX0) (N := 11) hx hb hts hin0 hown hK hP 0 rfl rfl 4 (by decide) fl_35 (fun _ h9 => h9) rfl dX0_sumInside_6 ?_
      refine yb_ge (tgt := 36) (by omega) (by omega) hx hb dX0_sumInside_9 (by decide) (fun c_1 => ?_) (fun c_1 => ?_)
      · refine lv_iload_n hx hb dX0_sumInside_36 rfl (lv_at hl 1 rfl) ?_
        exact W.iret (v := x1) hx hb hr (fun t ht hW => ⟨_, rfl, by rw [hx1, show i = n from by omega], ht⟩) (fun q h => by cases h) dX0_sumInside_37
      · refine lv_aload_n hx hb dX0_sumInside_12 rfl (lv_at hl 0 rfl) ?_
        refine va_get (D := (dC, dI)) (ci := 0) (v := .ref (ad 7)) (C := RX0) (T := TX0) (N := 11) hx hb hts hin0 hown hK hP 0 rfl rfl 9 (by decide) fl_28 (fun _ h9 => h9) rfl dX0_sumInside_13 ?_
        refine lv_iload_n hx hb dX0_sumInside_16 rfl (lv_at hl 2 rfl) ?_
        refine ya_zald hx hb hK hP 7 6 rfl rfl (j := i) (by omega) (by decide) dX0_sumInside_17 ?_
        refine lv_if_eq (tgt := 30) hx hb dX0_sumInside_18 (by decide) (fun c_2 => ?_) (fun c_2 => ?_)
        · refine lv_iinc (v := (nI (i + 1))) (lv' := [(2, .int (nI (i + 1))), (0, .ref (ad 0)), (1, .int x1)]) hx hb dX0_sumInside_30 hl (k := 2) rfl (yn_inc _) (by decide) rfl (fun ls hl => ?_)
          refine lv_goto (tgt := 4) hx hb dX0_sumInside_33 (by decide) ?_
          exact ih (i + 1) x1 (by omega) (by omega) (by rw [hx1]; simp [qc_sum, c_2]) ls (lv_sub hl [1, 2, 0] rfl)
        · refine lv_iload_n hx hb dX0_sumInside_21 rfl (lv_at hl 1 rfl) ?_
          refine lv_aload_n hx hb dX0_sumInside_22 rfl (lv_at hl 0 rfl) ?_
          refine va_get (D := (dC, dI)) (ci := 0) (v := .ref (ad 3)) (C := RX0) (T := TX0) (N := 11) hx hb hts hin0 hown hK hP 0 rfl rfl 2 (by decide) fl_16 (fun _ h9 => h9) rfl dX0_sumInside_23 ?_
          refine lv_iload_n hx hb dX0_sumInside_26 rfl (lv_at hl 2 rfl) ?_
          refine ya_iald hx hb hK hP 3 2 rfl rfl (j := i) (by omega) (by decide) dX0_sumInside_27 ?_
          refine lv_iadd hx hb dX0_sumInside_28 ?_
          refine lv_istore_n (lv' := [(1, .int (x1 + (v i))), (0, .ref (ad 0)), (2, .int (nI i))]) hx hb dX0_sumInside_29 rfl hl (by decide) rfl (fun ls hl => ?_)
          refine lv_iinc (v := (nI (i + 1))) (lv' := [(2, .int (nI (i + 1))), (1, .int (x1 + (v i))), (0, .ref (ad 0))]) hx hb dX0_sumInside_30 hl (k := 2) rfl (yn_inc _) (by decide) rfl (fun ls hl => ?_)
          refine lv_goto (tgt := 4) hx hb dX0_sumInside_33 (by decide) ?_
          exact ih (i + 1) _ (by omega) (by omega) (by rw [hx1]; simp [qc_sum, c_2]) ls (lv_sub hl [2, 1, 0] rfl)
  exact loop (n + 1) 0 0 (Nat.zero_le n) (by omega) rfl ls (lv_sub hl [2, 1, 0] rfl)

set_option maxRecDepth 100000 in
set_option maxHeartbeats 4000000 in
/-- countUnlike() -/
theorem c_countUnlike (l : Launch) (dC : Nat → ClassId) (dI : Nat → Nat → Nat) (ca : Nat → ClassId) (ad : Nat → Nat) (sz : Nat) (t : Nat → Int32) (k : Nat → Nat) (v : Nat → Int32) (b : Nat → Nat) (n : Nat) (kd : Nat → Int32) (ln : Nat → Int32) (w : Nat) (nw : Int32) (ins : Nat → Int32) (sn : Nat → Nat) (hn : n ≤ 300) (hbn : ∀ j, j < n → b j < n) : Met l yX0_countUnlike wsX0_countUnlike ({ frames := 0, cells := 0, slots := 0, locals := 0 }) (va_Pc [.ref (ad 0)] (wmPre dC dI ca ad sz t k v b n kd ln w nw ins sn)) (vp_Si (fun r => r = nI (qc_unl v b ins n).1)) 0 0 (fun _ => False) := by
  refine Met.ofW (cc := cX0_countUnlike) (maxL := 5) (ret := (some .int)) (by decide) rfl ?_
  intro p e s m args below meth c s₁ B hml hv
  obtain ⟨rfl, hsz, hP, hK, hD0⟩ := hv
  have hx := B.exec
  have hb := B.bytes
  have hr := B.returns
  have hts := atoms_spec (ws := wsX0_countUnlike) B.pre
  have hown : s.vm.findClass RX0 = some m.cls := findClass_of_methodNamed B.named
  have hlocks := B.notSynchronized
  subst hsz
  have hin0 : ∀ w ∈ u_ws RX0 TX0 11, w ∈ wsX0_countUnlike := fun w h => List.mem_cons_of_mem _ (wiX0 w h)
  have fl_16 := hts _ (List.mem_cons_of_mem _ flX0_16)
  have fl_19 := hts _ (List.mem_cons_of_mem _ flX0_19)
  have fl_28 := hts _ (List.mem_cons_of_mem _ flX0_28)
  have fl_35 := hts _ (List.mem_cons_of_mem _ flX0_35)
  have hD := hD0
  have hl := lv_entry ([.ref (ad 0)]) (n := 5) (Nat.le_of_ble_eq_true rfl)
  rw [lg_entry_eq]
  generalize (lg_sl ([.ref (ad 0)]) ++ List.replicate (5 - (lg_sl ([.ref (ad 0)])).length) Slot.unset).toArray = ls at hl ⊢
  have hl : lv_has ls 5 [(0, .ref (ad 0))] := hl
  refine lv_iconst (v := 0) hx hb dX0_countUnlike_0 (by decide) ?_
  refine lv_istore_n (lv' := [(1, .int 0), (0, .ref (ad 0))]) hx hb dX0_countUnlike_1 rfl hl (by decide) rfl (fun ls hl => ?_)
  refine lv_iconst (v := (-1)) hx hb dX0_countUnlike_2 (by decide) ?_
  refine lv_istore_n (lv' := [(2, .int (-1)), (1, .int 0), (0, .ref (ad 0))]) hx hb dX0_countUnlike_3 rfl hl (by decide) rfl (fun ls hl => ?_)
  refine lv_iconst (v := 0) hx hb dX0_countUnlike_4 (by decide) ?_
  refine lv_istore_n (lv' := [(3, .int 0), (2, .int (-1)), (1, .int 0), (0, .ref (ad 0))]) hx hb dX0_countUnlike_5 rfl hl (by decide) rfl (fun ls hl => ?_)
  have loop : ∀ (d i : Nat) (c0 : Nat) (lo : Option Nat), i ≤ n → n + 1 ≤ i + d → (qc_unl v b ins i = (c0, lo)) → ∀ (ls : Array Slot), lv_has ls 5 [(0, .ref (ad 0)), (1, .int (nI c0)), (2, .int (qc_o lo)), (3, .int (nI i))] → W p l e (headSpec wsX0_countUnlike ({ frames := 0, cells := 0, slots := 0, locals := 0 })).room s m ([.ref (ad 0)] : List Value).toArray below meth c s.heap [] 0 0 (MQ below (vp_Si (fun r => r = nI (qc_unl v b ins n).1)) ([.ref (ad 0)] : List Value).toArray s 0 0 (fun _ => False)) (F0 m 6 ls []) := by
    intro d
    induction d with
    | zero =>
      intro i c0 lo hi hfu
      exact absurd hfu (by omega)
    | succ d ih =>
      intro i c0 lo hi hfu hq ls hl
      refine lv_iload_n hx hb dX0_countUnlike_6 rfl (lv_at hl 3 rfl) ?_
      refine lv_aload_n hx hb dX0_countUnlike_7 rfl (lv_at hl 0 rfl) ?_
      refine va_get (D := (dC, dI)) (ci := 0) (v := .int (nI n)) (C := RX0) (T := TX0) (N := 11) hx hb hts hin0 hown hK hP 0 rfl rfl 4 (by decide) fl_35 (fun _ h9 => h9) rfl dX0_countUnlike_8 ?_
      refine yb_ge (tgt := 65) (by omega) (by omega) hx hb dX0_countUnlike_11 (by decide) (fun c_1 => ?_) (fun c_1 => ?_)
      · refine lv_iload_n hx hb dX0_countUnlike_65 rfl (lv_at hl 1 rfl) ?_
        exact W.iret (v := (nI c0)) hx hb hr (fun t ht hW => ⟨_, rfl, by rw [show n = i from by omega, hq], ht⟩) (fun q h => by cases h) dX0_countUnlike_66
      · have hbi : b i < 300 := Nat.lt_of_lt_of_le (hbn i c_1) hn
        refine lv_aload_n hx hb dX0_countUnlike_14 rfl (lv_at hl 0 rfl) ?_
        refine va_get (D := (dC, dI)) (ci := 0) (v := .ref (ad 4)) (C := RX0) (T := TX0) (N := 11) hx hb hts hin0 hown hK hP 0 rfl rfl 3 (by decide) fl_19 (fun _ h9 => h9) rfl dX0_countUnlike_15 ?_
        refine lv_iload_n hx hb dX0_countUnlike_18 rfl (lv_at hl 3 rfl) ?_
        refine ya_iald hx hb hK hP 4 3 rfl rfl (j := i) (by omega) (by decide) dX0_countUnlike_19 ?_
        refine lv_istore (lv' := [(4, .int (nI (b i))), (0, .ref (ad 0)), (1, .int (nI c0)), (2, .int (qc_o lo)), (3, .int (nI i))]) hx hb dX0_countUnlike_20 hl (by decide) rfl (fun ls hl => ?_)
        refine lv_aload_n hx hb dX0_countUnlike_22 rfl (lv_at hl 1 rfl) ?_
        refine va_get (D := (dC, dI)) (ci := 0) (v := .ref (ad 7)) (C := RX0) (T := TX0) (N := 11) hx hb hts hin0 hown hK hP 0 rfl rfl 9 (by decide) fl_28 (fun _ h9 => h9) rfl dX0_countUnlike_23 ?_
        refine lv_iload hx hb dX0_countUnlike_26 (lv_at hl 0 rfl) ?_
        refine ya_zald hx hb hK hP 7 6 rfl rfl (j := (b i)) hbi (by decide) dX0_countUnlike_28 ?_
        refine lv_if_eq (tgt := 59) hx hb dX0_countUnlike_29 (by decide) (fun c_2 => ?_) (fun c_2 => ?_)
        · refine lv_iinc (v := (nI (i + 1))) (lv' := [(3, .int (nI (i + 1))), (4, .int (nI (b i))), (0, .ref (ad 0)), (1, .int (nI c0)), (2, .int (qc_o lo))]) hx hb dX0_countUnlike_59 hl (k := 4) rfl (yn_inc _) (by decide) rfl (fun ls hl => ?_)
          refine lv_goto (tgt := 6) hx hb dX0_countUnlike_62 (by decide) ?_
          exact ih (i + 1) c0 lo (by omega) (by omega) (by unfold qc_unl; rw [if_pos c_2, hq]) ls (lv_sub hl [2, 3, 4, 0] rfl)
        · refine lv_iload_n hx hb dX0_countUnlike_32 rfl (lv_at hl 3 rfl) ?_
          refine lv_iconst (v := (-1)) hx hb dX0_countUnlike_33 (by decide) ?_
          refine lv_icmp_eq (tgt := 53) hx hb dX0_countUnlike_34 (by decide) (fun c_3 => ?_) (fun c_3 => ?_)
          · obtain rfl := qc_o_none (fun j h => Nat.lt_trans (qc_unl_in hbn i hi j (by rw [hq]; exact h)) (by omega)) c_3
            refine lv_iinc (v := (nI (c0 + 1))) (lv' := [(1, .int (nI (c0 + 1))), (4, .int (nI (b i))), (0, .ref (ad 0)), (2, .int (qc_o none)), (3, .int (nI i))]) hx hb dX0_countUnlike_53 hl (k := 2) rfl (yn_inc _) (by decide) rfl (fun ls hl => ?_)
            refine lv_iload hx hb dX0_countUnlike_56 (lv_at hl 1 rfl) ?_
            refine lv_istore_n (lv' := [(2, .int (nI (b i))), (1, .int (nI (c0 + 1))), (4, .int (nI (b i))), (0, .ref (ad 0)), (3, .int (nI i))]) hx hb dX0_countUnlike_58 rfl hl (by decide) rfl (fun ls hl => ?_)
            refine lv_iinc (v := (nI (i + 1))) (lv' := [(3, .int (nI (i + 1))), (2, .int (nI (b i))), (1, .int (nI (c0 + 1))), (4, .int (nI (b i))), (0, .ref (ad 0))]) hx hb dX0_countUnlike_59 hl (k := 4) rfl (yn_inc _) (by decide) rfl (fun ls hl => ?_)
            refine lv_goto (tgt := 6) hx hb dX0_countUnlike_62 (by decide) ?_
            exact ih (i + 1) (c0 + 1) (some (b i)) (by omega) (by omega) (by rw [qc_unl, if_neg c_2, hq]) ls (lv_sub hl [4, 2, 1, 0] rfl)
          · obtain ⟨j, rfl⟩ := qc_o_some c_3
            have hl : lv_has ls 5 [(4, .int (nI (b i))), (0, .ref (ad 0)), (1, .int (nI c0)), (2, .int (nI j)), (3, .int (nI i))] := hl
            have hj : j < n := qc_unl_in hbn i hi j (by rw [hq])
            refine lv_aload_n hx hb dX0_countUnlike_37 rfl (lv_at hl 1 rfl) ?_
            refine va_get (D := (dC, dI)) (ci := 0) (v := .ref (ad 3)) (C := RX0) (T := TX0) (N := 11) hx hb hts hin0 hown hK hP 0 rfl rfl 2 (by decide) fl_16 (fun _ h9 => h9) rfl dX0_countUnlike_38 ?_
            refine lv_iload hx hb dX0_countUnlike_41 (lv_at hl 0 rfl) ?_
            refine ya_iald hx hb hK hP 3 2 rfl rfl (j := (b i)) hbi (by decide) dX0_countUnlike_43 ?_
            refine lv_aload_n hx hb dX0_countUnlike_44 rfl (lv_at hl 1 rfl) ?_
            refine va_get (D := (dC, dI)) (ci := 0) (v := .ref (ad 3)) (C := RX0) (T := TX0) (N := 11) hx hb hts hin0 hown hK hP 0 rfl rfl 2 (by decide) fl_16 (fun _ h9 => h9) rfl dX0_countUnlike_45 ?_
            refine lv_iload_n hx hb dX0_countUnlike_48 rfl (lv_at hl 3 rfl) ?_
            refine ya_iald hx hb hK hP 3 2 rfl rfl (j := j) (by omega) (by decide) dX0_countUnlike_49 ?_
            refine lv_icmp_eq (tgt := 56) hx hb dX0_countUnlike_50 (by decide) (fun c_4 => ?_) (fun c_4 => ?_)
            · refine lv_iload hx hb dX0_countUnlike_56 (lv_at hl 0 rfl) ?_
              refine lv_istore_n (lv' := [(2, .int (nI (b i))), (4, .int (nI (b i))), (0, .ref (ad 0)), (1, .int (nI c0)), (3, .int (nI i))]) hx hb dX0_countUnlike_58 rfl hl (by decide) rfl (fun ls hl => ?_)
              refine lv_iinc (v := (nI (i + 1))) (lv' := [(3, .int (nI (i + 1))), (2, .int (nI (b i))), (4, .int (nI (b i))), (0, .ref (ad 0)), (1, .int (nI c0))]) hx hb dX0_countUnlike_59 hl (k := 4) rfl (yn_inc _) (by decide) rfl (fun ls hl => ?_)
              refine lv_goto (tgt := 6) hx hb dX0_countUnlike_62 (by decide) ?_
              exact ih (i + 1) c0 (some (b i)) (by omega) (by omega) (by rw [qc_unl, if_neg c_2, hq]; simp [c_4]) ls (lv_sub hl [3, 4, 1, 0] rfl)
            · refine lv_iinc (v := (nI (c0 + 1))) (lv' := [(1, .int (nI (c0 + 1))), (4, .int (nI (b i))), (0, .ref (ad 0)), (2, .int (nI j)), (3, .int (nI i))]) hx hb dX0_countUnlike_53 hl (k := 2) rfl (yn_inc _) (by decide) rfl (fun ls hl => ?_)
              refine lv_iload hx hb dX0_countUnlike_56 (lv_at hl 1 rfl) ?_
              refine lv_istore_n (lv' := [(2, .int (nI (b i))), (1, .int (nI (c0 + 1))), (4, .int (nI (b i))), (0, .ref (ad 0)), (3, .int (nI i))]) hx hb dX0_countUnlike_58 rfl hl (by decide) rfl (fun ls hl => ?_)
              refine lv_iinc (v := (nI (i + 1))) (lv' := [(3, .int (nI (i + 1))), (2, .int (nI (b i))), (1, .int (nI (c0 + 1))), (4, .int (nI (b i))), (0, .ref (ad 0))]) hx hb dX0_countUnlike_59 hl (k := 4) rfl (yn_inc _) (by decide) rfl (fun ls hl => ?_)
              refine lv_goto (tgt := 6) hx hb dX0_countUnlike_62 (by decide) ?_
              exact ih (i + 1) (c0 + 1) (some (b i)) (by omega) (by omega) (by rw [qc_unl, if_neg c_2, hq]; simp [c_4]) ls (lv_sub hl [4, 2, 1, 0] rfl)
  exact loop (n + 1) 0 0 none (Nat.zero_le n) (by omega) rfl ls (lv_sub hl [3, 2, 1, 0] rfl)

set_option maxRecDepth 100000 in
set_option maxHeartbeats 4000000 in
/-- findMostFrequent() -/
theorem c_findMostFrequent (l : Launch) (dC : Nat → ClassId) (dI : Nat → Nat → Nat) (ca : Nat → ClassId) (ad : Nat → Nat) (sz : Nat) (t : Nat → Int32) (k : Nat → Nat) (v : Nat → Int32) (b : Nat → Nat) (n : Nat) (kd : Nat → Int32) (ln : Nat → Int32) (w : Nat) (nw : Int32) (ins : Nat → Int32) (sn : Nat → Nat) (hn : n ≤ 300) (hbn : ∀ j, j < n → b j < n) : Met l yX0_findMostFrequent wsX0_findMostFrequent ({ frames := 0, cells := 0, slots := 0, locals := 0 }) (va_Pc [.ref (ad 0)] (wmPre dC dI ca ad sz t k v b n kd ln w nw ins sn)) (vp_Si (fun r => r = qc_o (qc_fmf v b ins n).1)) 0 0 (fun _ => False) := by
  refine Met.ofW (cc := cX0_findMostFrequent) (maxL := 7) (ret := (some .int)) (by decide) rfl ?_
  intro p e s m args below meth c s₁ B hml hv
  obtain ⟨rfl, hsz, hP, hK, hD0⟩ := hv
  have hx := B.exec
  have hb := B.bytes
  have hr := B.returns
  have hts := atoms_spec (ws := wsX0_findMostFrequent) B.pre
  have hown : s.vm.findClass RX0 = some m.cls := findClass_of_methodNamed B.named
  have hlocks := B.notSynchronized
  subst hsz
  have hin0 : ∀ w ∈ u_ws RX0 TX0 11, w ∈ wsX0_findMostFrequent := fun w h => List.mem_cons_of_mem _ (wiX0 w h)
  have fl_16 := hts _ (List.mem_cons_of_mem _ flX0_16)
  have fl_19 := hts _ (List.mem_cons_of_mem _ flX0_19)
  have fl_28 := hts _ (List.mem_cons_of_mem _ flX0_28)
  have fl_35 := hts _ (List.mem_cons_of_mem _ flX0_35)
  have hD := hD0
  have hl := lv_entry ([.ref (ad 0)]) (n := 7) (Nat.le_of_ble_eq_true rfl)
  rw [lg_entry_eq]
  generalize (lg_sl ([.ref (ad 0)]) ++ List.replicate (7 - (lg_sl ([.ref (ad 0)])).length) Slot.unset).toArray = ls at hl ⊢
  have hl : lv_has ls 7 [(0, .ref (ad 0))] := hl
  refine lv_iconst (v := (-1)) hx hb dX0_findMostFrequent_0 (by decide) ?_
  refine lv_istore_n (lv' := [(1, .int (-1)), (0, .ref (ad 0))]) hx hb dX0_findMostFrequent_1 rfl hl (by decide) rfl (fun ls hl => ?_)
  refine lv_iconst (v := 0) hx hb dX0_findMostFrequent_2 (by decide) ?_
  refine lv_istore_n (lv' := [(2, .int 0), (1, .int (-1)), (0, .ref (ad 0))]) hx hb dX0_findMostFrequent_3 rfl hl (by decide) rfl (fun ls hl => ?_)
  refine lv_iconst (v := (-1)) hx hb dX0_findMostFrequent_4 (by decide) ?_
  refine lv_istore_n (lv' := [(3, .int (-1)), (2, .int 0), (1, .int (-1)), (0, .ref (ad 0))]) hx hb dX0_findMostFrequent_5 rfl hl (by decide) rfl (fun ls hl => ?_)
  refine lv_iconst (v := 0) hx hb dX0_findMostFrequent_6 (by decide) ?_
  refine lv_istore (lv' := [(4, .int 0), (3, .int (-1)), (2, .int 0), (1, .int (-1)), (0, .ref (ad 0))]) hx hb dX0_findMostFrequent_7 hl (by decide) rfl (fun ls hl => ?_)
  refine lv_iconst (v := 0) hx hb dX0_findMostFrequent_9 (by decide) ?_
  refine lv_istore (lv' := [(5, .int 0), (4, .int 0), (3, .int (-1)), (2, .int 0), (1, .int (-1)), (0, .ref (ad 0))]) hx hb dX0_findMostFrequent_10 hl (by decide) rfl (fun ls hl => ?_)
  have loop : ∀ (d i : Nat) (m0 : Option Nat) (mo : Nat) (lo : Option Nat) (of0 : Nat), i ≤ n → n + 1 ≤ i + d → (qc_fmf v b ins i = (m0, mo, lo, of0)) → ∀ (ls : Array Slot), lv_has ls 7 [(0, .ref (ad 0)), (1, .int (qc_o m0)), (2, .int (nI mo)), (3, .int (qc_o lo)), (4, .int (nI of0)), (5, .int (nI i))] → W p l e (headSpec wsX0_findMostFrequent ({ frames := 0, cells := 0, slots := 0, locals := 0 })).room s m ([.ref (ad 0)] : List Value).toArray below meth c s.heap [] 0 0 (MQ below (vp_Si (fun r => r = qc_o (qc_fmf v b ins n).1)) ([.ref (ad 0)] : List Value).toArray s 0 0 (fun _ => False)) (F0 m 12 ls []) := by
    intro d
    induction d with
    | zero =>
      intro i m0 mo lo of0 hi hfu
      exact absurd hfu (by omega)
    | succ d ih =>
      intro i m0 mo lo of0 hi hfu hq ls hl
      refine lv_iload hx hb dX0_findMostFrequent_12 (lv_at hl 5 rfl) ?_
      refine lv_aload_n hx hb dX0_findMostFrequent_14 rfl (lv_at hl 0 rfl) ?_
      refine va_get (D := (dC, dI)) (ci := 0) (v := .int (nI n)) (C := RX0) (T := TX0) (N := 11) hx hb hts hin0 hown hK hP 0 rfl rfl 4 (by decide) fl_35 (fun _ h9 => h9) rfl dX0_findMostFrequent_15 ?_
      refine yb_ge (tgt := 92) (by omega) (by omega) hx hb dX0_findMostFrequent_18 (by decide) (fun c_1 => ?_) (fun c_1 => ?_)
      · refine lv_iload_n hx hb dX0_findMostFrequent_92 rfl (lv_at hl 1 rfl) ?_
        exact W.iret (v := (qc_o m0)) hx hb hr (fun t ht hW => ⟨_, rfl, by rw [show n = i from by omega, hq], ht⟩) (fun q h => by cases h) dX0_findMostFrequent_93
      · have hbi : b i < 300 := Nat.lt_of_lt_of_le (hbn i c_1) hn
        have hin := qc_fmf_in (v := v) (f := ins) hbn i hi
        rw [hq] at hin
        obtain ⟨hm0, hl0, hmo, hof⟩ := hin
        dsimp only at hm0 hl0 hmo hof
        refine lv_aload_n hx hb dX0_findMostFrequent_21 rfl (lv_at hl 0 rfl) ?_
        refine va_get (D := (dC, dI)) (ci := 0) (v := .ref (ad 4)) (C := RX0) (T := TX0) (N := 11) hx hb hts hin0 hown hK hP 0 rfl rfl 3 (by decide) fl_19 (fun _ h9 => h9) rfl dX0_findMostFrequent_22 ?_
        refine lv_iload hx hb dX0_findMostFrequent_25 (lv_at hl 5 rfl) ?_
        refine ya_iald hx hb hK hP 4 3 rfl rfl (j := i) (by omega) (by decide) dX0_findMostFrequent_27 ?_
        refine lv_istore (lv' := [(6, .int (nI (b i))), (0, .ref (ad 0)), (1, .int (qc_o m0)), (2, .int (nI mo)), (3, .int (qc_o lo)), (4, .int (nI of0)), (5, .int (nI i))]) hx hb dX0_findMostFrequent_28 hl (by decide) rfl (fun ls hl => ?_)
        refine lv_aload_n hx hb dX0_findMostFrequent_30 rfl (lv_at hl 1 rfl) ?_
        refine va_get (D := (dC, dI)) (ci := 0) (v := .ref (ad 7)) (C := RX0) (T := TX0) (N := 11) hx hb hts hin0 hown hK hP 0 rfl rfl 9 (by decide) fl_28 (fun _ h9 => h9) rfl dX0_findMostFrequent_31 ?_
        refine lv_iload hx hb dX0_findMostFrequent_34 (lv_at hl 0 rfl) ?_
        refine ya_zald hx hb hK hP 7 6 rfl rfl (j := (b i)) hbi (by decide) dX0_findMostFrequent_36 ?_
        refine lv_if_eq (tgt := 86) hx hb dX0_findMostFrequent_37 (by decide) (fun c_2 => ?_) (fun c_2 => ?_)
        · refine lv_iinc (v := (nI (i + 1))) (lv' := [(5, .int (nI (i + 1))), (6, .int (nI (b i))), (0, .ref (ad 0)), (1, .int (qc_o m0)), (2, .int (nI mo)), (3, .int (qc_o lo)), (4, .int (nI of0))]) hx hb dX0_findMostFrequent_86 hl (k := 6) rfl (yn_inc _) (by decide) rfl (fun ls hl => ?_)
          refine lv_goto (tgt := 12) hx hb dX0_findMostFrequent_89 (by decide) ?_
          exact ih (i + 1) m0 mo lo of0 (by omega) (by omega) (by unfold qc_fmf; rw [if_pos c_2, hq]) ls (lv_sub hl [2, 3, 4, 5, 6, 0] rfl)
        · refine lv_iload_n hx hb dX0_findMostFrequent_40 rfl (lv_at hl 4 rfl) ?_
          refine lv_iconst (v := (-1)) hx hb dX0_findMostFrequent_41 (by decide) ?_
          refine lv_icmp_eq (tgt := 68) hx hb dX0_findMostFrequent_42 (by decide) (fun c_3 => ?_) (fun c_3 => ?_)
          · obtain rfl := qc_o_none (fun j h => Nat.lt_trans (hl0 j h) (by omega)) c_3
            refine lv_iconst (v := 1) hx hb dX0_findMostFrequent_68 (by decide) ?_
            refine lv_istore (lv' := [(4, .int (nI 1)), (6, .int (nI (b i))), (0, .ref (ad 0)), (1, .int (qc_o m0)), (2, .int (nI mo)), (3, .int (qc_o none)), (5, .int (nI i))]) hx hb dX0_findMostFrequent_69 hl (by decide) rfl (fun ls hl => ?_)
            refine lv_iload hx hb dX0_findMostFrequent_71 (lv_at hl 1 rfl) ?_
            refine lv_istore_n (lv' := [(3, .int (nI (b i))), (4, .int (nI 1)), (6, .int (nI (b i))), (0, .ref (ad 0)), (1, .int (qc_o m0)), (2, .int (nI mo)), (5, .int (nI i))]) hx hb dX0_findMostFrequent_73 rfl hl (by decide) rfl (fun ls hl => ?_)
            refine lv_iload hx hb dX0_findMostFrequent_74 (lv_at hl 1 rfl) ?_
            refine lv_iload_n hx hb dX0_findMostFrequent_76 rfl (lv_at hl 5 rfl) ?_
            refine yb_le (tgt := 86) (by omega) (by omega) hx hb dX0_findMostFrequent_77 (by decide) (fun c_4 => ?_) (fun c_4 => ?_)
            · refine lv_iinc (v := (nI (i + 1))) (lv' := [(5, .int (nI (i + 1))), (3, .int (nI (b i))), (4, .int (nI 1)), (6, .int (nI (b i))), (0, .ref (ad 0)), (1, .int (qc_o m0)), (2, .int (nI mo))]) hx hb dX0_findMostFrequent_86 hl (k := 6) rfl (yn_inc _) (by decide) rfl (fun ls hl => ?_)
              refine lv_goto (tgt := 12) hx hb dX0_findMostFrequent_89 (by decide) ?_
              exact ih (i + 1) m0 mo (some (b i)) 1 (by omega) (by omega) (by rw [qc_fmf, if_neg c_2, hq]; dsimp only; rw [show qc_oft v (v (b i)) none of0 = 1 from rfl]; exact if_neg (by omega)) ls (lv_sub hl [4, 5, 6, 1, 2, 0] rfl)
            · refine lv_iload hx hb dX0_findMostFrequent_80 (lv_at hl 1 rfl) ?_
              refine lv_istore_n (lv' := [(2, .int (nI 1)), (3, .int (nI (b i))), (4, .int (nI 1)), (6, .int (nI (b i))), (0, .ref (ad 0)), (1, .int (qc_o m0)), (5, .int (nI i))]) hx hb dX0_findMostFrequent_82 rfl hl (by decide) rfl (fun ls hl => ?_)
              refine lv_iload hx hb dX0_findMostFrequent_83 (lv_at hl 3 rfl) ?_
              refine lv_istore_n (lv' := [(1, .int (nI (b i))), (2, .int (nI 1)), (3, .int (nI (b i))), (4, .int (nI 1)), (6, .int (nI (b i))), (0, .ref (ad 0)), (5, .int (nI i))]) hx hb dX0_findMostFrequent_85 rfl hl (by decide) rfl (fun ls hl => ?_)
              refine lv_iinc (v := (nI (i + 1))) (lv' := [(5, .int (nI (i + 1))), (1, .int (nI (b i))), (2, .int (nI 1)), (3, .int (nI (b i))), (4, .int (nI 1)), (6, .int (nI (b i))), (0, .ref (ad 0))]) hx hb dX0_findMostFrequent_86 hl (k := 6) rfl (yn_inc _) (by decide) rfl (fun ls hl => ?_)
              refine lv_goto (tgt := 12) hx hb dX0_findMostFrequent_89 (by decide) ?_
              exact ih (i + 1) (some (b i)) 1 (some (b i)) 1 (by omega) (by omega) (by rw [qc_fmf, if_neg c_2, hq]; dsimp only; rw [show qc_oft v (v (b i)) none of0 = 1 from rfl]; exact if_pos (by omega)) ls (lv_sub hl [6, 1, 2, 3, 4, 0] rfl)
          · obtain ⟨j, rfl⟩ := qc_o_some c_3
            have hl : lv_has ls 7 [(6, .int (nI (b i))), (0, .ref (ad 0)), (1, .int (qc_o m0)), (2, .int (nI mo)), (3, .int (nI j)), (4, .int (nI of0)), (5, .int (nI i))] := hl
            have hj : j < n := hl0 j rfl
            refine lv_aload_n hx hb dX0_findMostFrequent_45 rfl (lv_at hl 1 rfl) ?_
            refine va_get (D := (dC, dI)) (ci := 0) (v := .ref (ad 3)) (C := RX0) (T := TX0) (N := 11) hx hb hts hin0 hown hK hP 0 rfl rfl 2 (by decide) fl_16 (fun _ h9 => h9) rfl dX0_findMostFrequent_46 ?_
            refine lv_iload hx hb dX0_findMostFrequent_49 (lv_at hl 0 rfl) ?_
            refine ya_iald hx hb hK hP 3 2 rfl rfl (j := (b i)) hbi (by decide) dX0_findMostFrequent_51 ?_
            refine lv_aload_n hx hb dX0_findMostFrequent_52 rfl (lv_at hl 1 rfl) ?_
            refine va_get (D := (dC, dI)) (ci := 0) (v := .ref (ad 3)) (C := RX0) (T := TX0) (N := 11) hx hb hts hin0 hown hK hP 0 rfl rfl 2 (by decide) fl_16 (fun _ h9 => h9) rfl dX0_findMostFrequent_53 ?_
            refine lv_iload_n hx hb dX0_findMostFrequent_56 rfl (lv_at hl 4 rfl) ?_
            refine ya_iald hx hb hK hP 3 2 rfl rfl (j := j) (by omega) (by decide) dX0_findMostFrequent_57 ?_
            refine lv_icmp_ne (tgt := 68) hx hb dX0_findMostFrequent_58 (by decide) (fun c_5 => ?_) (fun c_5 => ?_)
            · refine lv_iconst (v := 1) hx hb dX0_findMostFrequent_68 (by decide) ?_
              refine lv_istore (lv' := [(4, .int (nI 1)), (6, .int (nI (b i))), (0, .ref (ad 0)), (1, .int (qc_o m0)), (2, .int (nI mo)), (3, .int (nI j)), (5, .int (nI i))]) hx hb dX0_findMostFrequent_69 hl (by decide) rfl (fun ls hl => ?_)
              refine lv_iload hx hb dX0_findMostFrequent_71 (lv_at hl 1 rfl) ?_
              refine lv_istore_n (lv' := [(3, .int (nI (b i))), (4, .int (nI 1)), (6, .int (nI (b i))), (0, .ref (ad 0)), (1, .int (qc_o m0)), (2, .int (nI mo)), (5, .int (nI i))]) hx hb dX0_findMostFrequent_73 rfl hl (by decide) rfl (fun ls hl => ?_)
              refine lv_iload hx hb dX0_findMostFrequent_74 (lv_at hl 1 rfl) ?_
              refine lv_iload_n hx hb dX0_findMostFrequent_76 rfl (lv_at hl 5 rfl) ?_
              refine yb_le (tgt := 86) (by omega) (by omega) hx hb dX0_findMostFrequent_77 (by decide) (fun c_6 => ?_) (fun c_6 => ?_)
              · refine lv_iinc (v := (nI (i + 1))) (lv' := [(5, .int (nI (i + 1))), (3, .int (nI (b i))), (4, .int (nI 1)), (6, .int (nI (b i))), (0, .ref (ad 0)), (1, .int (qc_o m0)), (2, .int (nI mo))]) hx hb dX0_findMostFrequent_86 hl (k := 6) rfl (yn_inc _) (by decide) rfl (fun ls hl => ?_)
                refine lv_goto (tgt := 12) hx hb dX0_findMostFrequent_89 (by decide) ?_
                exact ih (i + 1) m0 mo (some (b i)) 1 (by omega) (by omega) (by rw [qc_fmf, if_neg c_2, hq]; dsimp only; rw [show qc_oft v (v (b i)) (some j) of0 = 1 from if_neg c_5]; exact if_neg (by omega)) ls (lv_sub hl [4, 5, 6, 1, 2, 0] rfl)
              · refine lv_iload hx hb dX0_findMostFrequent_80 (lv_at hl 1 rfl) ?_
                refine lv_istore_n (lv' := [(2, .int (nI 1)), (3, .int (nI (b i))), (4, .int (nI 1)), (6, .int (nI (b i))), (0, .ref (ad 0)), (1, .int (qc_o m0)), (5, .int (nI i))]) hx hb dX0_findMostFrequent_82 rfl hl (by decide) rfl (fun ls hl => ?_)
                refine lv_iload hx hb dX0_findMostFrequent_83 (lv_at hl 3 rfl) ?_
                refine lv_istore_n (lv' := [(1, .int (nI (b i))), (2, .int (nI 1)), (3, .int (nI (b i))), (4, .int (nI 1)), (6, .int (nI (b i))), (0, .ref (ad 0)), (5, .int (nI i))]) hx hb dX0_findMostFrequent_85 rfl hl (by decide) rfl (fun ls hl => ?_)
                refine lv_iinc (v := (nI (i + 1))) (lv' := [(5, .int (nI (i + 1))), (1, .int (nI (b i))), (2, .int (nI 1)), (3, .int (nI (b i))), (4, .int (nI 1)), (6, .int (nI (b i))), (0, .ref (ad 0))]) hx hb dX0_findMostFrequent_86 hl (k := 6) rfl (yn_inc _) (by decide) rfl (fun ls hl => ?_)
                refine lv_goto (tgt := 12) hx hb dX0_findMostFrequent_89 (by decide) ?_
                exact ih (i + 1) (some (b i)) 1 (some (b i)) 1 (by omega) (by omega) (by rw [qc_fmf, if_neg c_2, hq]; dsimp only; rw [show qc_oft v (v (b i)) (some j) of0 = 1 from if_neg c_5]; exact if_pos (by omega)) ls (lv_sub hl [6, 1, 2, 3, 4, 0] rfl)
            · refine lv_iload hx hb dX0_findMostFrequent_61 (lv_at hl 5 rfl) ?_
              refine lv_iconst (v := 1) hx hb dX0_findMostFrequent_63 (by decide) ?_
              refine lv_iadd hx hb dX0_findMostFrequent_64 ?_
              rw [nI_1 of0]
              refine W.eq (g2 := F0 m 65 ls [.int (nI (of0 + 1))]) (by rw [← nI_1]) ?_
              refine lv_goto (tgt := 69) hx hb dX0_findMostFrequent_65 (by decide) ?_
              refine lv_istore (lv' := [(4, .int (nI (of0 + 1))), (6, .int (nI (b i))), (0, .ref (ad 0)), (1, .int (qc_o m0)), (2, .int (nI mo)), (3, .int (nI j)), (5, .int (nI i))]) hx hb dX0_findMostFrequent_69 hl (by decide) rfl (fun ls hl => ?_)
              refine lv_iload hx hb dX0_findMostFrequent_71 (lv_at hl 1 rfl) ?_
              refine lv_istore_n (lv' := [(3, .int (nI (b i))), (4, .int (nI (of0 + 1))), (6, .int (nI (b i))), (0, .ref (ad 0)), (1, .int (qc_o m0)), (2, .int (nI mo)), (5, .int (nI i))]) hx hb dX0_findMostFrequent_73 rfl hl (by decide) rfl (fun ls hl => ?_)
              refine lv_iload hx hb dX0_findMostFrequent_74 (lv_at hl 1 rfl) ?_
              refine lv_iload_n hx hb dX0_findMostFrequent_76 rfl (lv_at hl 5 rfl) ?_
              refine yb_le (tgt := 86) (by omega) (by omega) hx hb dX0_findMostFrequent_77 (by decide) (fun c_7 => ?_) (fun c_7 => ?_)
              · refine lv_iinc (v := (nI (i + 1))) (lv' := [(5, .int (nI (i + 1))), (3, .int (nI (b i))), (4, .int (nI (of0 + 1))), (6, .int (nI (b i))), (0, .ref (ad 0)), (1, .int (qc_o m0)), (2, .int (nI mo))]) hx hb dX0_findMostFrequent_86 hl (k := 6) rfl (yn_inc _) (by decide) rfl (fun ls hl => ?_)
                refine lv_goto (tgt := 12) hx hb dX0_findMostFrequent_89 (by decide) ?_
                exact ih (i + 1) m0 mo (some (b i)) (of0 + 1) (by omega) (by omega) (by rw [qc_fmf, if_neg c_2, hq]; dsimp only; rw [show qc_oft v (v (b i)) (some j) of0 = of0 + 1 from if_pos c_5]; exact if_neg (by omega)) ls (lv_sub hl [4, 5, 6, 1, 2, 0] rfl)
              · refine lv_iload hx hb dX0_findMostFrequent_80 (lv_at hl 1 rfl) ?_
                refine lv_istore_n (lv' := [(2, .int (nI (of0 + 1))), (3, .int (nI (b i))), (4, .int (nI (of0 + 1))), (6, .int (nI (b i))), (0, .ref (ad 0)), (1, .int (qc_o m0)), (5, .int (nI i))]) hx hb dX0_findMostFrequent_82 rfl hl (by decide) rfl (fun ls hl => ?_)
                refine lv_iload hx hb dX0_findMostFrequent_83 (lv_at hl 3 rfl) ?_
                refine lv_istore_n (lv' := [(1, .int (nI (b i))), (2, .int (nI (of0 + 1))), (3, .int (nI (b i))), (4, .int (nI (of0 + 1))), (6, .int (nI (b i))), (0, .ref (ad 0)), (5, .int (nI i))]) hx hb dX0_findMostFrequent_85 rfl hl (by decide) rfl (fun ls hl => ?_)
                refine lv_iinc (v := (nI (i + 1))) (lv' := [(5, .int (nI (i + 1))), (1, .int (nI (b i))), (2, .int (nI (of0 + 1))), (3, .int (nI (b i))), (4, .int (nI (of0 + 1))), (6, .int (nI (b i))), (0, .ref (ad 0))]) hx hb dX0_findMostFrequent_86 hl (k := 6) rfl (yn_inc _) (by decide) rfl (fun ls hl => ?_)
                refine lv_goto (tgt := 12) hx hb dX0_findMostFrequent_89 (by decide) ?_
                exact ih (i + 1) (some (b i)) (of0 + 1) (some (b i)) (of0 + 1) (by omega) (by omega) (by rw [qc_fmf, if_neg c_2, hq]; dsimp only; rw [show qc_oft v (v (b i)) (some j) of0 = of0 + 1 from if_pos c_5]; exact if_pos (by omega)) ls (lv_sub hl [6, 1, 2, 3, 4, 0] rfl)
  exact loop (n + 1) 0 none 0 none 0 (Nat.zero_le n) (by omega) rfl ls (lv_sub hl [5, 4, 3, 2, 1, 0] rfl)

set_option maxRecDepth 100000 in
set_option maxHeartbeats 4000000 in
/-- findKth(k) -/
theorem c_findKth (l : Launch) (dC : Nat → ClassId) (dI : Nat → Nat → Nat) (ca : Nat → ClassId) (ad : Nat → Nat) (sz : Nat) (t : Nat → Int32) (k : Nat → Nat) (v : Nat → Int32) (b : Nat → Nat) (n : Nat) (kd : Nat → Int32) (ln : Nat → Int32) (w : Nat) (nw : Int32) (ins : Nat → Int32) (sn : Nat → Nat) (p1 : Int32) (hn : n ≤ 300) (hbn : ∀ j, j < n → b j < n) : Met l yX0_findKth wsX0_findKth ({ frames := 0, cells := 0, slots := 0, locals := 0 }) (va_Pc [.ref (ad 0), .int p1] (wmPre dC dI ca ad sz t k v b n kd ln w nw ins sn)) (vp_Si (fun r => (∃ q, q < n ∧ ins (b q) ≠ 0 ∧ nI (qc_cnb b ins q) = p1 ∧ r = nI (b q)) ∨ (r = -1 ∧ ∀ q, q < n → ins (b q) ≠ 0 → nI (qc_cnb b ins q) ≠ p1))) 0 0 (fun _ => False) := by
  refine Met.ofW (cc := cX0_findKth) (maxL := 5) (ret := (some .int)) (by decide) rfl ?_
  intro p e s m args below meth c s₁ B hml hv
  obtain ⟨rfl, hsz, hP, hK, hD0⟩ := hv
  have hx := B.exec
  have hb := B.bytes
  have hr := B.returns
  have hts := atoms_spec (ws := wsX0_findKth) B.pre
  have hown : s.vm.findClass RX0 = some m.cls := findClass_of_methodNamed B.named
  have hlocks := B.notSynchronized
  subst hsz
  have hin0 : ∀ w ∈ u_ws RX0 TX0 11, w ∈ wsX0_findKth := fun w h => List.mem_cons_of_mem _ (wiX0 w h)
  have fl_19 := hts _ (List.mem_cons_of_mem _ flX0_19)
  have fl_28 := hts _ (List.mem_cons_of_mem _ flX0_28)
  have fl_35 := hts _ (List.mem_cons_of_mem _ flX0_35)
  have hD := hD0
  have hl := lv_entry ([.ref (ad 0), .int p1]) (n := 5) (Nat.le_of_ble_eq_true rfl)
  rw [lg_entry_eq]
  generalize (lg_sl ([.ref (ad 0), .int p1]) ++ List.replicate (5 - (lg_sl ([.ref (ad 0), .int p1])).length) Slot.unset).toArray = ls at hl ⊢
  have hl : lv_has ls 5 [(0, .ref (ad 0)), (1, .int p1)] := hl
  refine lv_iconst (v := 0) hx hb dX0_findKth_0 (by decide) ?_
  refine lv_istore_n (lv' := [(2, .int 0), (0, .ref (ad 0)), (1, .int p1)]) hx hb dX0_findKth_1 rfl hl (by decide) rfl (fun ls hl => ?_)
  refine lv_iconst (v := 0) hx hb dX0_findKth_2 (by decide) ?_
  refine lv_istore_n (lv' := [(3, .int 0), (2, .int 0), (0, .ref (ad 0)), (1, .int p1)]) hx hb dX0_findKth_3 rfl hl (by decide) rfl (fun ls hl => ?_)
  have loop : ∀ (d i : Nat), i ≤ n → n + 1 ≤ i + d → (∀ q, q < i → ins (b q) ≠ 0 → nI (qc_cnb b ins q) ≠ p1) → ∀ (ls : Array Slot), lv_has ls 5 [(0, .ref (ad 0)), (1, .int p1), (2, .int (nI (qc_cnb b ins i))), (3, .int (nI i))] → W p l e (headSpec wsX0_findKth ({ frames := 0, cells := 0, slots := 0, locals := 0 })).room s m ([.ref (ad 0), .int p1] : List Value).toArray below meth c s.heap [] 0 0 (MQ below (vp_Si (fun r => (∃ q, q < n ∧ ins (b q) ≠ 0 ∧ nI (qc_cnb b ins q) = p1 ∧ r = nI (b q)) ∨ (r = -1 ∧ ∀ q, q < n → ins (b q) ≠ 0 → nI (qc_cnb b ins q) ≠ p1))) ([.ref (ad 0), .int p1] : List Value).toArray s 0 0 (fun _ => False)) (F0 m 4 ls []) := by
    intro d
    induction d with
    | zero =>
      intro i hi hfu
      exact absurd hfu (by omega)
    | succ d ih =>
      intro i hi hfu hq ls hl
      refine lv_iload_n hx hb dX0_findKth_4 rfl (lv_at hl 3 rfl) ?_
      refine lv_aload_n hx hb dX0_findKth_5 rfl (lv_at hl 0 rfl) ?_
      refine va_get (D := (dC, dI)) (ci := 0) (v := .int (nI n)) (C := RX0) (T := TX0) (N := 11) hx hb hts hin0 hown hK hP 0 rfl rfl 4 (by decide) fl_35 (fun _ h9 => h9) rfl dX0_findKth_6 ?_
      refine yb_ge (tgt := 47) (by omega) (by omega) hx hb dX0_findKth_9 (by decide) (fun c_1 => ?_) (fun c_1 => ?_)
      · refine lv_iconst (v := (-1)) hx hb dX0_findKth_47 (by decide) ?_
        exact W.iret (v := (-1)) hx hb hr (fun t ht hW => ⟨_, rfl, Or.inr ⟨rfl, fun q h1 h2 => hq q (by omega) h2⟩, ht⟩) (fun q h => by cases h) dX0_findKth_48
      · have hbi : b i < 300 := Nat.lt_of_lt_of_le (hbn i c_1) hn
        refine lv_aload_n hx hb dX0_findKth_12 rfl (lv_at hl 0 rfl) ?_
        refine va_get (D := (dC, dI)) (ci := 0) (v := .ref (ad 4)) (C := RX0) (T := TX0) (N := 11) hx hb hts hin0 hown hK hP 0 rfl rfl 3 (by decide) fl_19 (fun _ h9 => h9) rfl dX0_findKth_13 ?_
        refine lv_iload_n hx hb dX0_findKth_16 rfl (lv_at hl 3 rfl) ?_
        refine ya_iald hx hb hK hP 4 3 rfl rfl (j := i) (by omega) (by decide) dX0_findKth_17 ?_
        refine lv_istore (lv' := [(4, .int (nI (b i))), (0, .ref (ad 0)), (1, .int p1), (2, .int (nI (qc_cnb b ins i))), (3, .int (nI i))]) hx hb dX0_findKth_18 hl (by decide) rfl (fun ls hl => ?_)
        refine lv_aload_n hx hb dX0_findKth_20 rfl (lv_at hl 1 rfl) ?_
        refine va_get (D := (dC, dI)) (ci := 0) (v := .ref (ad 7)) (C := RX0) (T := TX0) (N := 11) hx hb hts hin0 hown hK hP 0 rfl rfl 9 (by decide) fl_28 (fun _ h9 => h9) rfl dX0_findKth_21 ?_
        refine lv_iload hx hb dX0_findKth_24 (lv_at hl 0 rfl) ?_
        refine ya_zald hx hb hK hP 7 6 rfl rfl (j := (b i)) hbi (by decide) dX0_findKth_26 ?_
        refine lv_if_eq (tgt := 41) hx hb dX0_findKth_27 (by decide) (fun c_2 => ?_) (fun c_2 => ?_)
        · refine lv_iinc (v := (nI (i + 1))) (lv' := [(3, .int (nI (i + 1))), (4, .int (nI (b i))), (0, .ref (ad 0)), (1, .int p1), (2, .int (nI (qc_cnb b ins i)))]) hx hb dX0_findKth_41 hl (k := 4) rfl (yn_inc _) (by decide) rfl (fun ls hl => ?_)
          refine lv_goto (tgt := 4) hx hb dX0_findKth_44 (by decide) ?_
          exact ih (i + 1) (by omega) (by omega) (fun q h3 h4 => by
            rcases Nat.lt_or_ge q i with g | g
            · exact hq q g h4
            · obtain rfl : q = i := by omega
              exact absurd c_2 h4) ls (by
              have hl := (lv_sub hl [2, 3, 4, 0] rfl)
              have e9 : qc_cnb b ins (i + 1) = qc_cnb b ins i := by simp [qc_cnb, c_2]
              rw [e9]; exact hl)
        · refine lv_iload_n hx hb dX0_findKth_30 rfl (lv_at hl 3 rfl) ?_
          refine lv_iload_n hx hb dX0_findKth_31 rfl (lv_at hl 2 rfl) ?_
          refine lv_icmp_ne (tgt := 38) hx hb dX0_findKth_32 (by decide) (fun c_3 => ?_) (fun c_3 => ?_)
          · refine lv_iinc (v := (nI ((qc_cnb b ins i) + 1))) (lv' := [(2, .int (nI ((qc_cnb b ins i) + 1))), (4, .int (nI (b i))), (0, .ref (ad 0)), (1, .int p1), (3, .int (nI i))]) hx hb dX0_findKth_38 hl (k := 3) rfl (yn_inc _) (by decide) rfl (fun ls hl => ?_)
            refine lv_iinc (v := (nI (i + 1))) (lv' := [(3, .int (nI (i + 1))), (2, .int (nI ((qc_cnb b ins i) + 1))), (4, .int (nI (b i))), (0, .ref (ad 0)), (1, .int p1)]) hx hb dX0_findKth_41 hl (k := 4) rfl (yn_inc _) (by decide) rfl (fun ls hl => ?_)
            refine lv_goto (tgt := 4) hx hb dX0_findKth_44 (by decide) ?_
            exact ih (i + 1) (by omega) (by omega) (fun q h4 h5 => by
              rcases Nat.lt_or_ge q i with g | g
              · exact hq q g h5
              · obtain rfl : q = i := by omega
                exact c_3) ls (by
                have hl := (lv_sub hl [3, 4, 1, 0] rfl)
                have e9 : qc_cnb b ins (i + 1) = qc_cnb b ins i + 1 := by simp [qc_cnb, c_2]
                rw [e9]; exact hl)
          · refine lv_iload hx hb dX0_findKth_35 (lv_at hl 0 rfl) ?_
            exact W.iret (v := (nI (b i))) hx hb hr (fun t ht hW => ⟨_, rfl, Or.inl ⟨i, c_1, c_2, c_3, rfl⟩, ht⟩) (fun q h => by cases h) dX0_findKth_37
  exact loop (n + 1) 0 (Nat.zero_le n) (by omega) (fun q h => absurd h (Nat.not_lt_zero q)) ls (lv_sub hl [2, 3, 1, 0] rfl)

set_option maxRecDepth 100000 in
set_option maxHeartbeats 4000000 in
/-- countMostFrequent() -/
theorem c_countMostFrequent (l : Launch) (dC : Nat → ClassId) (dI : Nat → Nat → Nat) (ca : Nat → ClassId) (ad : Nat → Nat) (sz : Nat) (t : Nat → Int32) (k : Nat → Nat) (v : Nat → Int32) (b : Nat → Nat) (n : Nat) (kd : Nat → Int32) (ln : Nat → Int32) (w : Nat) (nw : Int32) (ins : Nat → Int32) (sn : Nat → Nat) (hn : n ≤ 300) (hbn : ∀ j, j < n → b j < n) : Met l yX0_countMostFrequent wsX0_countMostFrequent ({ frames := 1, cells := 0, slots := 0, locals := 26 }) (va_Pc [.ref (ad 0)] (wmPre dC dI ca ad sz t k v b n kd ln w nw ins sn)) (vp_Si (fun r => r = qc_cmf v b ins n)) 0 0 (fun _ => False) := by
  refine Met.ofW (cc := cX0_countMostFrequent) (maxL := 4) (ret := (some .int)) (by decide) rfl ?_
  intro p e s m args below meth c s₁ B hml hv
  obtain ⟨rfl, hsz, hP, hK, hD0⟩ := hv
  have hx := B.exec
  have hb := B.bytes
  have hr := B.returns
  have hts := atoms_spec (ws := wsX0_countMostFrequent) B.pre
  have hown : s.vm.findClass RX0 = some m.cls := findClass_of_methodNamed B.named
  have hlocks := B.notSynchronized
  subst hsz
  have hin0 : ∀ w ∈ u_ws RX0 TX0 11, w ∈ wsX0_countMostFrequent := fun w h => List.mem_cons_of_mem _ (wiX0 w h)
  have fl_16 := hts _ (List.mem_cons_of_mem _ flX0_16)
  have fl_28 := hts _ (List.mem_cons_of_mem _ flX0_28)
  have fl_35 := hts _ (List.mem_cons_of_mem _ flX0_35)
  have hD := hD0
  have hl := lv_entry ([.ref (ad 0)]) (n := 4) (Nat.le_of_ble_eq_true rfl)
  rw [lg_entry_eq]
  generalize (lg_sl ([.ref (ad 0)]) ++ List.replicate (4 - (lg_sl ([.ref (ad 0)])).length) Slot.unset).toArray = ls at hl ⊢
  have hl : lv_has ls 4 [(0, .ref (ad 0))] := hl
  refine lv_aload_n hx hb dX0_countMostFrequent_0 rfl (lv_at hl 0 rfl) ?_
  refine vp_callSi (W.runV (As := []) (rest := []) ⟨hx, hb, hml, hown, hts⟩ (c_findMostFrequent l dC dI ca ad _ t k v b n kd ln w nw ins sn   hn hbn) (cwV 0 hts (gg_V mlX0_100 imX0_findMostFrequent seX0_findMostFrequent in_WindowMeters kwX0_findMostFrequent) rfl rfl rfl (by decide +kernel) ⟨Nat.le_of_ble_eq_true rfl, Nat.le_of_ble_eq_true rfl⟩) (wm_preV hK hP hD []) rfl rfl hl.1 rfl (lv_room (Nat.le_of_ble_eq_true rfl)) dX0_countMostFrequent_1 ⟨Nat.le_of_ble_eq_true rfl, Nat.le_of_ble_eq_true rfl⟩) (fun r_1 hr_2 => ?_)
  obtain ⟨o9, ho9⟩ : ∃ o, o = (qc_fmf v b ins n).1 := ⟨_, rfl⟩
  rw [← ho9] at hr_2
  subst hr_2
  have hin9 := (qc_fmf_in (v := v) (f := ins) hbn n (Nat.le_refl n)).1
  rw [← ho9] at hin9
  refine lv_istore_n (lv' := [(1, .int (qc_o o9)), (0, .ref (ad 0))]) hx hb dX0_countMostFrequent_4 rfl hl (by decide) rfl (fun ls hl => ?_)
  refine lv_iload_n hx hb dX0_countMostFrequent_5 rfl (lv_at hl 0 rfl) ?_
  refine lv_iconst (v := (-1)) hx hb dX0_countMostFrequent_6 (by decide) ?_
  refine lv_icmp_ne (tgt := 12) hx hb dX0_countMostFrequent_7 (by decide) (fun c_3 => ?_) (fun c_3 => ?_)
  · obtain ⟨j9, rfl⟩ := qc_o_some c_3
    have hl : lv_has ls 4 [(1, .int (nI j9)), (0, .ref (ad 0))] := hl
    have hj9 : j9 < n := hin9 j9 rfl
    refine lv_iconst (v := 0) hx hb dX0_countMostFrequent_12 (by decide) ?_
    refine lv_istore_n (lv' := [(2, .int 0), (1, .int (nI j9)), (0, .ref (ad 0))]) hx hb dX0_countMostFrequent_13 rfl hl (by decide) rfl (fun ls hl => ?_)
    refine lv_iconst (v := 0) hx hb dX0_countMostFrequent_14 (by decide) ?_
    refine lv_istore_n (lv' := [(3, .int 0), (2, .int 0), (1, .int (nI j9)), (0, .ref (ad 0))]) hx hb dX0_countMostFrequent_15 rfl hl (by decide) rfl (fun ls hl => ?_)
    have loop : ∀ (d i : Nat), i ≤ n → n + 1 ≤ i + d → ∀ (ls : Array Slot), lv_has ls 4 [(0, .ref (ad 0)), (1, .int (nI j9)), (2, .int (nI (qc_eqc v ins (v j9) i))), (3, .int (nI i))] → W p l e (headSpec wsX0_countMostFrequent ({ frames := 1, cells := 0, slots := 0, locals := 26 })).room s m ([.ref (ad 0)] : List Value).toArray below meth c s.heap [] 0 0 (MQ below (vp_Si (fun r => r = qc_cmf v b ins n)) ([.ref (ad 0)] : List Value).toArray s 0 0 (fun _ => False)) (F0 m 16 ls []) := by
      intro d
      induction d with
      | zero =>
        intro i hi hfu
        exact absurd hfu (by omega)
      | succ d ih =>
        intro i hi hfu  ls hl
        refine lv_iload_n hx hb dX0_countMostFrequent_16 rfl (lv_at hl 3 rfl) ?_
        refine lv_aload_n hx hb dX0_countMostFrequent_17 rfl (lv_at hl 0 rfl) ?_
        refine va_get (D := (dC, dI)) (ci := 0) (v := .int (nI n)) (C := RX0) (T := TX0) (N := 11) hx hb hts hin0 hown hK hP 0 rfl rfl 4 (by decide) fl_35 (fun _ h9 => h9) rfl dX0_countMostFrequent_18 ?_
        refine yb_ge (tgt := 57) (by omega) (by omega) hx hb dX0_countMostFrequent_21 (by decide) (fun c_4 => ?_) (fun c_4 => ?_)
        · refine lv_iload_n hx hb dX0_countMostFrequent_57 rfl (lv_at hl 2 rfl) ?_
          exact W.iret (v := (nI (qc_eqc v ins (v j9) i))) hx hb hr (fun t ht hW => ⟨_, rfl, by rw [qc_cmf, ← ho9, show n = i from by omega], ht⟩) (fun q h => by cases h) dX0_countMostFrequent_58
        · refine lv_aload_n hx hb dX0_countMostFrequent_24 rfl (lv_at hl 0 rfl) ?_
          refine va_get (D := (dC, dI)) (ci := 0) (v := .ref (ad 7)) (C := RX0) (T := TX0) (N := 11) hx hb hts hin0 hown hK hP 0 rfl rfl 9 (by decide) fl_28 (fun _ h9 => h9) rfl dX0_countMostFrequent_25 ?_
          refine lv_iload_n hx hb dX0_countMostFrequent_28 rfl (lv_at hl 3 rfl) ?_
          refine ya_zald hx hb hK hP 7 6 rfl rfl (j := i) (by omega) (by decide) dX0_countMostFrequent_29 ?_
          refine lv_if_eq (tgt := 51) hx hb dX0_countMostFrequent_30 (by decide) (fun c_5 => ?_) (fun c_5 => ?_)
          · refine lv_iinc (v := (nI (i + 1))) (lv' := [(3, .int (nI (i + 1))), (0, .ref (ad 0)), (1, .int (nI j9)), (2, .int (nI (qc_eqc v ins (v j9) i)))]) hx hb dX0_countMostFrequent_51 hl (k := 3) rfl (yn_inc _) (by decide) rfl (fun ls hl => ?_)
            refine lv_goto (tgt := 16) hx hb dX0_countMostFrequent_54 (by decide) ?_
            exact ih (i + 1) (by omega) (by omega) ls (by rw [qc_eqc, if_pos c_5]; exact (lv_sub hl [1, 2, 3, 0] rfl))
          · refine lv_aload_n hx hb dX0_countMostFrequent_33 rfl (lv_at hl 0 rfl) ?_
            refine va_get (D := (dC, dI)) (ci := 0) (v := .ref (ad 3)) (C := RX0) (T := TX0) (N := 11) hx hb hts hin0 hown hK hP 0 rfl rfl 2 (by decide) fl_16 (fun _ h9 => h9) rfl dX0_countMostFrequent_34 ?_
            refine lv_iload_n hx hb dX0_countMostFrequent_37 rfl (lv_at hl 3 rfl) ?_
            refine ya_iald hx hb hK hP 3 2 rfl rfl (j := i) (by omega) (by decide) dX0_countMostFrequent_38 ?_
            refine lv_aload_n hx hb dX0_countMostFrequent_39 rfl (lv_at hl 0 rfl) ?_
            refine va_get (D := (dC, dI)) (ci := 0) (v := .ref (ad 3)) (C := RX0) (T := TX0) (N := 11) hx hb hts hin0 hown hK hP 0 rfl rfl 2 (by decide) fl_16 (fun _ h9 => h9) rfl dX0_countMostFrequent_40 ?_
            refine lv_iload_n hx hb dX0_countMostFrequent_43 rfl (lv_at hl 1 rfl) ?_
            refine ya_iald hx hb hK hP 3 2 rfl rfl (j := j9) (by omega) (by decide) dX0_countMostFrequent_44 ?_
            refine lv_icmp_ne (tgt := 51) hx hb dX0_countMostFrequent_45 (by decide) (fun c_6 => ?_) (fun c_6 => ?_)
            · refine lv_iinc (v := (nI (i + 1))) (lv' := [(3, .int (nI (i + 1))), (0, .ref (ad 0)), (1, .int (nI j9)), (2, .int (nI (qc_eqc v ins (v j9) i)))]) hx hb dX0_countMostFrequent_51 hl (k := 3) rfl (yn_inc _) (by decide) rfl (fun ls hl => ?_)
              refine lv_goto (tgt := 16) hx hb dX0_countMostFrequent_54 (by decide) ?_
              exact ih (i + 1) (by omega) (by omega) ls (by rw [qc_eqc, if_neg c_5, if_neg c_6]; exact (lv_sub hl [1, 2, 3, 0] rfl))
            · refine lv_iinc (v := (nI ((qc_eqc v ins (v j9) i) + 1))) (lv' := [(2, .int (nI ((qc_eqc v ins (v j9) i) + 1))), (0, .ref (ad 0)), (1, .int (nI j9)), (3, .int (nI i))]) hx hb dX0_countMostFrequent_48 hl (k := 2) rfl (yn_inc _) (by decide) rfl (fun ls hl => ?_)
              refine lv_iinc (v := (nI (i + 1))) (lv' := [(3, .int (nI (i + 1))), (2, .int (nI ((qc_eqc v ins (v j9) i) + 1))), (0, .ref (ad 0)), (1, .int (nI j9))]) hx hb dX0_countMostFrequent_51 hl (k := 3) rfl (yn_inc _) (by decide) rfl (fun ls hl => ?_)
              refine lv_goto (tgt := 16) hx hb dX0_countMostFrequent_54 (by decide) ?_
              exact ih (i + 1) (by omega) (by omega) ls (by rw [qc_eqc, if_neg c_5, if_pos c_6]; exact (lv_sub hl [2, 3, 1, 0] rfl))
    exact loop (n + 1) 0 (Nat.zero_le n) (by omega) ls (lv_sub hl [3, 2, 1, 0] rfl)
  · obtain rfl := qc_o_none (fun j h => Nat.lt_trans (hin9 j h) (by omega)) c_3
    refine lv_iconst (v := 0) hx hb dX0_countMostFrequent_10 (by decide) ?_
    exact W.iret (v := 0) hx hb hr (fun t ht hW => ⟨_, rfl, by rw [qc_cmf, ← ho9], ht⟩) (fun q h => by cases h) dX0_countMostFrequent_11
end
section
/-! which tuples a window has, as the class marks them -/
def qc_mk (x : Int32) (P : Prop) : Prop := (x = 1 ∧ P) ∨ (x = 0 ∧ ¬ P)
theorem qc_mk1 {P : Prop} (h : P) : qc_mk 1 P := Or.inl ⟨rfl, h⟩
theorem qc_mk0 {P : Prop} (h : ¬ P) : qc_mk 0 P := Or.inr ⟨rfl, h⟩
theorem qm_step {f : Nat → Int32} {i : Nat} {x : Int32} {P : Nat → Prop} (hf : ∀ j, j < i → qc_mk (f j) (P j)) (hx : qc_mk x (P i)) : ∀ j, j < i + 1 → qc_mk (upd f i x j) (P j) := by
  intro j hj
  by_cases h : j = i
  · subst h; rw [pk_us]; exact hx
  · rw [pk_un h]; exact hf j (by omega)
theorem qm_down {f : Nat → Int32} {i n : Nat} {x : Int32} {P : Nat → Prop} (hf : ∀ j, i + 1 ≤ j → j < n → qc_mk (f j) (P j)) (hx : qc_mk x (P i)) : ∀ j, i ≤ j → j < n → qc_mk (upd f i x j) (P j) := by
  intro j hj hn
  by_cases h : j = i
  · subst h; rw [pk_us]; exact hx
  · rw [pk_un h]; exact hf j (by omega) hn
/-- how many of the places lo .. n - 1 hold x -/
def qc_oc (k : Nat → Nat) (x lo : Nat) : Nat → Nat
  | 0 => 0
  | n + 1 => if lo ≤ n ∧ k n = x then qc_oc k x lo n + 1 else qc_oc k x lo n
theorem qc_oc_none (k : Nat → Nat) (x lo : Nat) : ∀ n, n ≤ lo → qc_oc k x lo n = 0
  | 0, _ => rfl
  | n + 1, h => by unfold qc_oc; rw [if_neg (by omega)]; exact qc_oc_none k x lo n (by omega)
theorem qc_oc_down (k : Nat → Nat) (x lo : Nat) : ∀ n, lo < n → qc_oc k x lo n = qc_oc k x (lo + 1) n + (if k lo = x then 1 else 0)
  | 0, h => absurd h (Nat.not_lt_zero lo)
  | n + 1, h => by
    by_cases e : lo = n
    · subst e
      rw [qc_oc, qc_oc, qc_oc_none k x lo lo (Nat.le_refl lo), qc_oc_none k x (lo + 1) lo (by omega), if_neg (show ¬ (lo + 1 ≤ lo ∧ k lo = x) by omega)]
      by_cases q : k lo = x
      · simp [q]
      · simp [q]
    · have ih := qc_oc_down k x lo n (by omega)
      rw [qc_oc, qc_oc, ih]
      by_cases q : k n = x
      · rw [if_pos (show lo ≤ n ∧ k n = x from ⟨by omega, q⟩), if_pos (show lo + 1 ≤ n ∧ k n = x from ⟨by omega, q⟩)]; omega
      · rw [if_neg (show ¬ (lo ≤ n ∧ k n = x) from fun h => q h.2), if_neg (show ¬ (lo + 1 ≤ n ∧ k n = x) from fun h => q h.2)]
/-- the time that the tuple before place r is held against -/
def qc_nx (t : Nat → Int32) (nw : Int32) (n r : Nat) : Int32 := if r < n then t r else nw
def qc_td (t : Nat → Int32) (nw nn : Int32) (n r : Nat) : Prop := ∀ q, r ≤ q → q < n → ¬ t q < qc_nx t nw n (q + 1) - nn
def qc_len (nn : Int32) : Int32 := if nn ≤ 0 then 1 else nn
theorem qc_len_ne (nn : Int32) : ¬ qc_len nn = 0 := by
  unfold qc_len
  split
  · decide
  · rename_i h
    intro q
    exact h (by rw [q]; exact Int32.le_refl 0)
def qc_in (t : Nat → Int32) (k : Nat → Nat) (n : Nat) (nw kind nn : Int32) (j : Nat) : Prop :=
  if kind = 0 then ¬ t j < nw - nn else if kind = 1 then ¬ nI j < nI n - nn else if kind = 2 then nI (qc_oc k (k j) (j + 1) n) < nn else
  if kind = 3 then t j / qc_len nn = nw / qc_len nn else if kind = 4 then qc_td t nw nn n j else t j < nw - nn
set_option maxRecDepth 100000 in
set_option maxHeartbeats 4000000 in
/-- markRange(n) -/
theorem c_markRange (l : Launch) (dC : Nat → ClassId) (dI : Nat → Nat → Nat) (ca : Nat → ClassId) (ad : Nat → Nat) (sz : Nat) (t : Nat → Int32) (k : Nat → Nat) (v : Nat → Int32) (b : Nat → Nat) (n : Nat) (kd : Nat → Int32) (ln : Nat → Int32) (w : Nat) (nw : Int32) (ins : Nat → Int32) (sn : Nat → Nat) (p1 : Int32) (hn : n ≤ 300) : Met l yX0_markRange wsX0_markRange ({ frames := 0, cells := 0, slots := 0, locals := 0 }) (va_Pc [.ref (ad 0), .int p1] (wmPre dC dI ca ad sz t k v b n kd ln w nw ins sn)) (va_Qv (fun u : Nat → Int32 => ∀ j, j < n → qc_mk (u j) (¬ t j < nw - p1)) (fun u t9 => wmAt dC dI ca ad (va_A (wm ca ad t k v b n kd ln w nw ins sn) sz) t k v b n kd ln w nw u sn t9) (va_A (wm ca ad t k v b n kd ln w nw ins sn) sz)) 0 0 (va_A (wm ca ad t k v b n kd ln w nw ins sn) sz) := by
  refine Met.ofW (cc := cX0_markRange) (maxL := 3) (ret := none) (by decide) rfl ?_
  intro p e s m args below meth c s₁ B hml hv
  obtain ⟨rfl, hsz, hP, hK, hD0⟩ := hv
  have hx := B.exec
  have hb := B.bytes
  have hr := B.returns
  have hts := atoms_spec (ws := wsX0_markRange) B.pre
  have hown : s.vm.findClass RX0 = some m.cls := findClass_of_methodNamed B.named
  have hlocks := B.notSynchronized
  subst hsz
  have hin0 : ∀ w ∈ u_ws RX0 TX0 11, w ∈ wsX0_markRange := fun w h => List.mem_cons_of_mem _ (wiX0 w h)
  have fl_9 := hts _ (List.mem_cons_of_mem _ flX0_9)
  have fl_28 := hts _ (List.mem_cons_of_mem _ flX0_28)
  have fl_35 := hts _ (List.mem_cons_of_mem _ flX0_35)
  have fl_42 := hts _ (List.mem_cons_of_mem _ flX0_42)
  have hD := hD0.self (sz := s.heap.size)
  generalize hAe : va_A (wm ca ad t k v b n kd ln w nw ins sn) s.heap.size = A at hD ⊢
  have hA : ∀ q : Nat, s.heap.size ≤ q → A q := fun q h => by rw [← hAe]; exact Or.inr h
  have hS : va_S A s.heap s.heap [] := va_S.rf
  have hl := lv_entry ([.ref (ad 0), .int p1]) (n := 3) (Nat.le_of_ble_eq_true rfl)
  rw [lg_entry_eq]
  generalize (lg_sl ([.ref (ad 0), .int p1]) ++ List.replicate (3 - (lg_sl ([.ref (ad 0), .int p1])).length) Slot.unset).toArray = ls at hl ⊢
  have hl : lv_has ls 3 [(0, .ref (ad 0)), (1, .int p1)] := hl
  refine lv_iconst (v := 0) hx hb dX0_markRange_0 (by decide) ?_
  refine lv_istore_n (lv' := [(2, .int 0), (0, .ref (ad 0)), (1, .int p1)]) hx hb dX0_markRange_1 rfl hl (by decide) rfl (fun ls hl => ?_)
  have loop : ∀ (d i : Nat), i ≤ n → n + 1 ≤ i + d → ∀ (f : Nat → Int32) (H : Heap) (locs : List Loc), va_P (dC, dI) vwCl (wm ca ad t k v b n kd ln w nw f sn) H → va_D A (wm ca ad t k v b n kd ln w nw f sn) → va_S A s.heap H locs → (∀ j, j < i → qc_mk (f j) (¬ t j < nw - p1)) → ∀ (ls : Array Slot), lv_has ls 3 [(0, .ref (ad 0)), (1, .int p1), (2, .int (nI i))] → W p l e (headSpec wsX0_markRange ({ frames := 0, cells := 0, slots := 0, locals := 0 })).room s m ([.ref (ad 0), .int p1] : List Value).toArray below meth c H locs 0 0 (MQ below (va_Qv (fun u : Nat → Int32 => ∀ j, j < n → qc_mk (u j) (¬ t j < nw - p1)) (fun u t9 => wmAt dC dI ca ad A t k v b n kd ln w nw u sn t9) A) ([.ref (ad 0), .int p1] : List Value).toArray s 0 0 A) (F0 m 2 ls []) := by
    intro d
    induction d with
    | zero =>
      intro i hi hfu
      exact absurd hfu (by omega)
    | succ d ih =>
      intro i hi hfu f H locs hP hD hS hf ls hl
      refine lv_iload_n hx hb dX0_markRange_2 rfl (lv_at hl 2 rfl) ?_
      refine lv_aload_n hx hb dX0_markRange_3 rfl (lv_at hl 0 rfl) ?_
      refine va_get (D := (dC, dI)) (ci := 0) (v := .int (nI n)) (C := RX0) (T := TX0) (N := 11) hx hb hts hin0 hown hK hP 0 rfl rfl 4 (by decide) fl_35 (fun _ h9 => h9) rfl dX0_markRange_4 ?_
      refine yb_ge (tgt := 42) (by omega) (by omega) hx hb dX0_markRange_7 (by decide) (fun c_1 => ?_) (fun c_1 => ?_)
      · exact W.vret hx hb hr (fun t9 ht hW => ⟨⟨f, rfl, fun j hj => hf j (by omega), by rw [ht]; exact hP, va_K.moved hW.alike hK, hD⟩, hS.F ht⟩) hS.2.2 dX0_markRange_42
      · refine lv_aload_n hx hb dX0_markRange_10 rfl (lv_at hl 0 rfl) ?_
        refine va_get (D := (dC, dI)) (ci := 0) (v := .ref (ad 7)) (C := RX0) (T := TX0) (N := 11) hx hb hts hin0 hown hK hP 0 rfl rfl 9 (by decide) fl_28 (fun _ h9 => h9) rfl dX0_markRange_11 ?_
        refine lv_iload_n hx hb dX0_markRange_14 rfl (lv_at hl 2 rfl) ?_
        refine lv_aload_n hx hb dX0_markRange_15 rfl (lv_at hl 0 rfl) ?_
        refine va_get (D := (dC, dI)) (ci := 0) (v := .ref (ad 1)) (C := RX0) (T := TX0) (N := 11) hx hb hts hin0 hown hK hP 0 rfl rfl 0 (by decide) fl_9 (fun _ h9 => h9) rfl dX0_markRange_16 ?_
        refine lv_iload_n hx hb dX0_markRange_19 rfl (lv_at hl 2 rfl) ?_
        refine ya_iald hx hb hK hP 1 0 rfl rfl (j := i) (by omega) (by decide) dX0_markRange_20 ?_
        refine lv_aload_n hx hb dX0_markRange_21 rfl (lv_at hl 0 rfl) ?_
        refine va_get (D := (dC, dI)) (ci := 0) (v := .int nw) (C := RX0) (T := TX0) (N := 11) hx hb hts hin0 hown hK hP 0 rfl rfl 8 (by decide) fl_42 (fun _ h9 => h9) rfl dX0_markRange_22 ?_
        refine lv_iload_n hx hb dX0_markRange_25 rfl (lv_at hl 1 rfl) ?_
        refine lv_isub hx hb dX0_markRange_26 ?_
        refine lv_icmp_lt (tgt := 34) hx hb dX0_markRange_27 (by decide) (fun c_2 => ?_) (fun c_2 => ?_)
        · refine lv_iconst (v := 0) hx hb dX0_markRange_34 (by decide) ?_
          refine ya_zast hx hb hK hP hD hS 7 6 rfl rfl (j := i) (by omega) (by decide) yn_z0 dX0_markRange_35 (fun H locs hP hD hS => ?_)
          have hP : va_P (dC, dI) vwCl (wm ca ad t k v b n kd ln w nw (upd f i 0) sn) H := hP
          have hD : va_D A (wm ca ad t k v b n kd ln w nw (upd f i 0) sn) := hD
          refine lv_iinc (v := (nI (i + 1))) (lv' := [(2, .int (nI (i + 1))), (0, .ref (ad 0)), (1, .int p1)]) hx hb dX0_markRange_36 hl (k := 2) rfl (yn_inc _) (by decide) rfl (fun ls hl => ?_)
          refine lv_goto (tgt := 2) hx hb dX0_markRange_39 (by decide) ?_
          exact ih (i + 1) (by omega) (by omega) _ _ _ hP hD hS (qm_step (P := fun j => ¬ t j < nw - p1) hf (qc_mk0 (fun q => q c_2))) ls (lv_sub hl [1, 2, 0] rfl)
        · refine lv_iconst (v := 1) hx hb dX0_markRange_30 (by decide) ?_
          refine lv_goto (tgt := 35) hx hb dX0_markRange_31 (by decide) ?_
          refine ya_zast hx hb hK hP hD hS 7 6 rfl rfl (j := i) (by omega) (by decide) yn_z1 dX0_markRange_35 (fun H locs hP hD hS => ?_)
          have hP : va_P (dC, dI) vwCl (wm ca ad t k v b n kd ln w nw (upd f i 1) sn) H := hP
          have hD : va_D A (wm ca ad t k v b n kd ln w nw (upd f i 1) sn) := hD
          refine lv_iinc (v := (nI (i + 1))) (lv' := [(2, .int (nI (i + 1))), (0, .ref (ad 0)), (1, .int p1)]) hx hb dX0_markRange_36 hl (k := 2) rfl (yn_inc _) (by decide) rfl (fun ls hl => ?_)
          refine lv_goto (tgt := 2) hx hb dX0_markRange_39 (by decide) ?_
          exact ih (i + 1) (by omega) (by omega) _ _ _ hP hD hS (qm_step (P := fun j => ¬ t j < nw - p1) hf (qc_mk1 (c_2))) ls (lv_sub hl [1, 2, 0] rfl)
  exact loop (n + 1) 0 (Nat.zero_le n) (by omega) _ _ _ hP hD hS (fun j h => absurd h (Nat.not_lt_zero j)) ls (lv_sub hl [1, 2, 0] rfl)

set_option maxRecDepth 100000 in
set_option maxHeartbeats 4000000 in
/-- markRows(n) -/
theorem c_markRows (l : Launch) (dC : Nat → ClassId) (dI : Nat → Nat → Nat) (ca : Nat → ClassId) (ad : Nat → Nat) (sz : Nat) (t : Nat → Int32) (k : Nat → Nat) (v : Nat → Int32) (b : Nat → Nat) (n : Nat) (kd : Nat → Int32) (ln : Nat → Int32) (w : Nat) (nw : Int32) (ins : Nat → Int32) (sn : Nat → Nat) (p1 : Int32) (hn : n ≤ 300) : Met l yX0_markRows wsX0_markRows ({ frames := 0, cells := 0, slots := 0, locals := 0 }) (va_Pc [.ref (ad 0), .int p1] (wmPre dC dI ca ad sz t k v b n kd ln w nw ins sn)) (va_Qv (fun u : Nat → Int32 => ∀ j, j < n → qc_mk (u j) (¬ nI j < nI n - p1)) (fun u t9 => wmAt dC dI ca ad (va_A (wm ca ad t k v b n kd ln w nw ins sn) sz) t k v b n kd ln w nw u sn t9) (va_A (wm ca ad t k v b n kd ln w nw ins sn) sz)) 0 0 (va_A (wm ca ad t k v b n kd ln w nw ins sn) sz) := by
  refine Met.ofW (cc := cX0_markRows) (maxL := 3) (ret := none) (by decide) rfl ?_
  intro p e s m args below meth c s₁ B hml hv
  obtain ⟨rfl, hsz, hP, hK, hD0⟩ := hv
  have hx := B.exec
  have hb := B.bytes
  have hr := B.returns
  have hts := atoms_spec (ws := wsX0_markRows) B.pre
  have hown : s.vm.findClass RX0 = some m.cls := findClass_of_methodNamed B.named
  have hlocks := B.notSynchronized
  subst hsz
  have hin0 : ∀ w ∈ u_ws RX0 TX0 11, w ∈ wsX0_markRows := fun w h => List.mem_cons_of_mem _ (wiX0 w h)
  have fl_28 := hts _ (List.mem_cons_of_mem _ flX0_28)
  have fl_35 := hts _ (List.mem_cons_of_mem _ flX0_35)
  have hD := hD0.self (sz := s.heap.size)
  generalize hAe : va_A (wm ca ad t k v b n kd ln w nw ins sn) s.heap.size = A at hD ⊢
  have hA : ∀ q : Nat, s.heap.size ≤ q → A q := fun q h => by rw [← hAe]; exact Or.inr h
  have hS : va_S A s.heap s.heap [] := va_S.rf
  have hl := lv_entry ([.ref (ad 0), .int p1]) (n := 3) (Nat.le_of_ble_eq_true rfl)
  rw [lg_entry_eq]
  generalize (lg_sl ([.ref (ad 0), .int p1]) ++ List.replicate (3 - (lg_sl ([.ref (ad 0), .int p1])).length) Slot.unset).toArray = ls at hl ⊢
  have hl : lv_has ls 3 [(0, .ref (ad 0)), (1, .int p1)] := hl
  refine lv_iconst (v := 0) hx hb dX0_markRows_0 (by decide) ?_
  refine lv_istore_n (lv' := [(2, .int 0), (0, .ref (ad 0)), (1, .int p1)]) hx hb dX0_markRows_1 rfl hl (by decide) rfl (fun ls hl => ?_)
  have loop : ∀ (d i : Nat), i ≤ n → n + 1 ≤ i + d → ∀ (f : Nat → Int32) (H : Heap) (locs : List Loc), va_P (dC, dI) vwCl (wm ca ad t k v b n kd ln w nw f sn) H → va_D A (wm ca ad t k v b n kd ln w nw f sn) → va_S A s.heap H locs → (∀ j, j < i → qc_mk (f j) (¬ nI j < nI n - p1)) → ∀ (ls : Array Slot), lv_has ls 3 [(0, .ref (ad 0)), (1, .int p1), (2, .int (nI i))] → W p l e (headSpec wsX0_markRows ({ frames := 0, cells := 0, slots := 0, locals := 0 })).room s m ([.ref (ad 0), .int p1] : List Value).toArray below meth c H locs 0 0 (MQ below (va_Qv (fun u : Nat → Int32 => ∀ j, j < n → qc_mk (u j) (¬ nI j < nI n - p1)) (fun u t9 => wmAt dC dI ca ad A t k v b n kd ln w nw u sn t9) A) ([.ref (ad 0), .int p1] : List Value).toArray s 0 0 A) (F0 m 2 ls []) := by
    intro d
    induction d with
    | zero =>
      intro i hi hfu
      exact absurd hfu (by omega)
    | succ d ih =>
      intro i hi hfu f H locs hP hD hS hf ls hl
      refine lv_iload_n hx hb dX0_markRows_2 rfl (lv_at hl 2 rfl) ?_
      refine lv_aload_n hx hb dX0_markRows_3 rfl (lv_at hl 0 rfl) ?_
      refine va_get (D := (dC, dI)) (ci := 0) (v := .int (nI n)) (C := RX0) (T := TX0) (N := 11) hx hb hts hin0 hown hK hP 0 rfl rfl 4 (by decide) fl_35 (fun _ h9 => h9) rfl dX0_markRows_4 ?_
      refine yb_ge (tgt := 37) (by omega) (by omega) hx hb dX0_markRows_7 (by decide) (fun c_1 => ?_) (fun c_1 => ?_)
      · exact W.vret hx hb hr (fun t9 ht hW => ⟨⟨f, rfl, fun j hj => hf j (by omega), by rw [ht]; exact hP, va_K.moved hW.alike hK, hD⟩, hS.F ht⟩) hS.2.2 dX0_markRows_37
      · refine lv_aload_n hx hb dX0_markRows_10 rfl (lv_at hl 0 rfl) ?_
        refine va_get (D := (dC, dI)) (ci := 0) (v := .ref (ad 7)) (C := RX0) (T := TX0) (N := 11) hx hb hts hin0 hown hK hP 0 rfl rfl 9 (by decide) fl_28 (fun _ h9 => h9) rfl dX0_markRows_11 ?_
        refine lv_iload_n hx hb dX0_markRows_14 rfl (lv_at hl 2 rfl) ?_
        refine lv_iload_n hx hb dX0_markRows_15 rfl (lv_at hl 2 rfl) ?_
        refine lv_aload_n hx hb dX0_markRows_16 rfl (lv_at hl 0 rfl) ?_
        refine va_get (D := (dC, dI)) (ci := 0) (v := .int (nI n)) (C := RX0) (T := TX0) (N := 11) hx hb hts hin0 hown hK hP 0 rfl rfl 4 (by decide) fl_35 (fun _ h9 => h9) rfl dX0_markRows_17 ?_
        refine lv_iload_n hx hb dX0_markRows_20 rfl (lv_at hl 1 rfl) ?_
        refine lv_isub hx hb dX0_markRows_21 ?_
        refine lv_icmp_lt (tgt := 29) hx hb dX0_markRows_22 (by decide) (fun c_2 => ?_) (fun c_2 => ?_)
        · refine lv_iconst (v := 0) hx hb dX0_markRows_29 (by decide) ?_
          refine ya_zast hx hb hK hP hD hS 7 6 rfl rfl (j := i) (by omega) (by decide) yn_z0 dX0_markRows_30 (fun H locs hP hD hS => ?_)
          have hP : va_P (dC, dI) vwCl (wm ca ad t k v b n kd ln w nw (upd f i 0) sn) H := hP
          have hD : va_D A (wm ca ad t k v b n kd ln w nw (upd f i 0) sn) := hD
          refine lv_iinc (v := (nI (i + 1))) (lv' := [(2, .int (nI (i + 1))), (0, .ref (ad 0)), (1, .int p1)]) hx hb dX0_markRows_31 hl (k := 2) rfl (yn_inc _) (by decide) rfl (fun ls hl => ?_)
          refine lv_goto (tgt := 2) hx hb dX0_markRows_34 (by decide) ?_
          exact ih (i + 1) (by omega) (by omega) _ _ _ hP hD hS (qm_step (P := fun j => ¬ nI j < nI n - p1) hf (qc_mk0 (fun q => q c_2))) ls (lv_sub hl [1, 2, 0] rfl)
        · refine lv_iconst (v := 1) hx hb dX0_markRows_25 (by decide) ?_
          refine lv_goto (tgt := 30) hx hb dX0_markRows_26 (by decide) ?_
          refine ya_zast hx hb hK hP hD hS 7 6 rfl rfl (j := i) (by omega) (by decide) yn_z1 dX0_markRows_30 (fun H locs hP hD hS => ?_)
          have hP : va_P (dC, dI) vwCl (wm ca ad t k v b n kd ln w nw (upd f i 1) sn) H := hP
          have hD : va_D A (wm ca ad t k v b n kd ln w nw (upd f i 1) sn) := hD
          refine lv_iinc (v := (nI (i + 1))) (lv' := [(2, .int (nI (i + 1))), (0, .ref (ad 0)), (1, .int p1)]) hx hb dX0_markRows_31 hl (k := 2) rfl (yn_inc _) (by decide) rfl (fun ls hl => ?_)
          refine lv_goto (tgt := 2) hx hb dX0_markRows_34 (by decide) ?_
          exact ih (i + 1) (by omega) (by omega) _ _ _ hP hD hS (qm_step (P := fun j => ¬ nI j < nI n - p1) hf (qc_mk1 (c_2))) ls (lv_sub hl [1, 2, 0] rfl)
  exact loop (n + 1) 0 (Nat.zero_le n) (by omega) _ _ _ hP hD hS (fun j h => absurd h (Nat.not_lt_zero j)) ls (lv_sub hl [1, 2, 0] rfl)

set_option maxRecDepth 100000 in
set_option maxHeartbeats 4000000 in
/-- markOutside(n) -/
theorem c_markOutside (l : Launch) (dC : Nat → ClassId) (dI : Nat → Nat → Nat) (ca : Nat → ClassId) (ad : Nat → Nat) (sz : Nat) (t : Nat → Int32) (k : Nat → Nat) (v : Nat → Int32) (b : Nat → Nat) (n : Nat) (kd : Nat → Int32) (ln : Nat → Int32) (w : Nat) (nw : Int32) (ins : Nat → Int32) (sn : Nat → Nat) (p1 : Int32) (hn : n ≤ 300) : Met l yX0_markOutside wsX0_markOutside ({ frames := 0, cells := 0, slots := 0, locals := 0 }) (va_Pc [.ref (ad 0), .int p1] (wmPre dC dI ca ad sz t k v b n kd ln w nw ins sn)) (va_Qv (fun u : Nat → Int32 => ∀ j, j < n → qc_mk (u j) (t j < nw - p1)) (fun u t9 => wmAt dC dI ca ad (va_A (wm ca ad t k v b n kd ln w nw ins sn) sz) t k v b n kd ln w nw u sn t9) (va_A (wm ca ad t k v b n kd ln w nw ins sn) sz)) 0 0 (va_A (wm ca ad t k v b n kd ln w nw ins sn) sz) := by
  refine Met.ofW (cc := cX0_markOutside) (maxL := 3) (ret := none) (by decide) rfl ?_
  intro p e s m args below meth c s₁ B hml hv
  obtain ⟨rfl, hsz, hP, hK, hD0⟩ := hv
  have hx := B.exec
  have hb := B.bytes
  have hr := B.returns
  have hts := atoms_spec (ws := wsX0_markOutside) B.pre
  have hown : s.vm.findClass RX0 = some m.cls := findClass_of_methodNamed B.named
  have hlocks := B.notSynchronized
  subst hsz
  have hin0 : ∀ w ∈ u_ws RX0 TX0 11, w ∈ wsX0_markOutside := fun w h => List.mem_cons_of_mem _ (wiX0 w h)
  have fl_9 := hts _ (List.mem_cons_of_mem _ flX0_9)
  have fl_28 := hts _ (List.mem_cons_of_mem _ flX0_28)
  have fl_35 := hts _ (List.mem_cons_of_mem _ flX0_35)
  have fl_42 := hts _ (List.mem_cons_of_mem _ flX0_42)
  have hD := hD0.self (sz := s.heap.size)
  generalize hAe : va_A (wm ca ad t k v b n kd ln w nw ins sn) s.heap.size = A at hD ⊢
  have hA : ∀ q : Nat, s.heap.size ≤ q → A q := fun q h => by rw [← hAe]; exact Or.inr h
  have hS : va_S A s.heap s.heap [] := va_S.rf
  have hl := lv_entry ([.ref (ad 0), .int p1]) (n := 3) (Nat.le_of_ble_eq_true rfl)
  rw [lg_entry_eq]
  generalize (lg_sl ([.ref (ad 0), .int p1]) ++ List.replicate (3 - (lg_sl ([.ref (ad 0), .int p1])).length) Slot.unset).toArray = ls at hl ⊢
  have hl : lv_has ls 3 [(0, .ref (ad 0)), (1, .int p1)] := hl
  refine lv_iconst (v := 0) hx hb dX0_markOutside_0 (by decide) ?_
  refine lv_istore_n (lv' := [(2, .int 0), (0, .ref (ad 0)), (1, .int p1)]) hx hb dX0_markOutside_1 rfl hl (by decide) rfl (fun ls hl => ?_)
  have loop : ∀ (d i : Nat), i ≤ n → n + 1 ≤ i + d → ∀ (f : Nat → Int32) (H : Heap) (locs : List Loc), va_P (dC, dI) vwCl (wm ca ad t k v b n kd ln w nw f sn) H → va_D A (wm ca ad t k v b n kd ln w nw f sn) → va_S A s.heap H locs → (∀ j, j < i → qc_mk (f j) (t j < nw - p1)) → ∀ (ls : Array Slot), lv_has ls 3 [(0, .ref (ad 0)), (1, .int p1), (2, .int (nI i))] → W p l e (headSpec wsX0_markOutside ({ frames := 0, cells := 0, slots := 0, locals := 0 })).room s m ([.ref (ad 0), .int p1] : List Value).toArray below meth c H locs 0 0 (MQ below (va_Qv (fun u : Nat → Int32 => ∀ j, j < n → qc_mk (u j) (t j < nw - p1)) (fun u t9 => wmAt dC dI ca ad A t k v b n kd ln w nw u sn t9) A) ([.ref (ad 0), .int p1] : List Value).toArray s 0 0 A) (F0 m 2 ls []) := by
    intro d
    induction d with
    | zero =>
      intro i hi hfu
      exact absurd hfu (by omega)
    | succ d ih =>
      intro i hi hfu f H locs hP hD hS hf ls hl
      refine lv_iload_n hx hb dX0_markOutside_2 rfl (lv_at hl 2 rfl) ?_
      refine lv_aload_n hx hb dX0_markOutside_3 rfl (lv_at hl 0 rfl) ?_
      refine va_get (D := (dC, dI)) (ci := 0) (v := .int (nI n)) (C := RX0) (T := TX0) (N := 11) hx hb hts hin0 hown hK hP 0 rfl rfl 4 (by decide) fl_35 (fun _ h9 => h9) rfl dX0_markOutside_4 ?_
      refine yb_ge (tgt := 42) (by omega) (by omega) hx hb dX0_markOutside_7 (by decide) (fun c_1 => ?_) (fun c_1 => ?_)
      · exact W.vret hx hb hr (fun t9 ht hW => ⟨⟨f, rfl, fun j hj => hf j (by omega), by rw [ht]; exact hP, va_K.moved hW.alike hK, hD⟩, hS.F ht⟩) hS.2.2 dX0_markOutside_42
      · refine lv_aload_n hx hb dX0_markOutside_10 rfl (lv_at hl 0 rfl) ?_
        refine va_get (D := (dC, dI)) (ci := 0) (v := .ref (ad 7)) (C := RX0) (T := TX0) (N := 11) hx hb hts hin0 hown hK hP 0 rfl rfl 9 (by decide) fl_28 (fun _ h9 => h9) rfl dX0_markOutside_11 ?_
        refine lv_iload_n hx hb dX0_markOutside_14 rfl (lv_at hl 2 rfl) ?_
        refine lv_aload_n hx hb dX0_markOutside_15 rfl (lv_at hl 0 rfl) ?_
        refine va_get (D := (dC, dI)) (ci := 0) (v := .ref (ad 1)) (C := RX0) (T := TX0) (N := 11) hx hb hts hin0 hown hK hP 0 rfl rfl 0 (by decide) fl_9 (fun _ h9 => h9) rfl dX0_markOutside_16 ?_
        refine lv_iload_n hx hb dX0_markOutside_19 rfl (lv_at hl 2 rfl) ?_
        refine ya_iald hx hb hK hP 1 0 rfl rfl (j := i) (by omega) (by decide) dX0_markOutside_20 ?_
        refine lv_aload_n hx hb dX0_markOutside_21 rfl (lv_at hl 0 rfl) ?_
        refine va_get (D := (dC, dI)) (ci := 0) (v := .int nw) (C := RX0) (T := TX0) (N := 11) hx hb hts hin0 hown hK hP 0 rfl rfl 8 (by decide) fl_42 (fun _ h9 => h9) rfl dX0_markOutside_22 ?_
        refine lv_iload_n hx hb dX0_markOutside_25 rfl (lv_at hl 1 rfl) ?_
        refine lv_isub hx hb dX0_markOutside_26 ?_
        refine lv_icmp_ge (tgt := 34) hx hb dX0_markOutside_27 (by decide) (fun c_2 => ?_) (fun c_2 => ?_)
        · refine lv_iconst (v := 0) hx hb dX0_markOutside_34 (by decide) ?_
          refine ya_zast hx hb hK hP hD hS 7 6 rfl rfl (j := i) (by omega) (by decide) yn_z0 dX0_markOutside_35 (fun H locs hP hD hS => ?_)
          have hP : va_P (dC, dI) vwCl (wm ca ad t k v b n kd ln w nw (upd f i 0) sn) H := hP
          have hD : va_D A (wm ca ad t k v b n kd ln w nw (upd f i 0) sn) := hD
          refine lv_iinc (v := (nI (i + 1))) (lv' := [(2, .int (nI (i + 1))), (0, .ref (ad 0)), (1, .int p1)]) hx hb dX0_markOutside_36 hl (k := 2) rfl (yn_inc _) (by decide) rfl (fun ls hl => ?_)
          refine lv_goto (tgt := 2) hx hb dX0_markOutside_39 (by decide) ?_
          exact ih (i + 1) (by omega) (by omega) _ _ _ hP hD hS (qm_step (P := fun j => t j < nw - p1) hf (qc_mk0 (Int32.not_lt.mpr c_2))) ls (lv_sub hl [1, 2, 0] rfl)
        · refine lv_iconst (v := 1) hx hb dX0_markOutside_30 (by decide) ?_
          refine lv_goto (tgt := 35) hx hb dX0_markOutside_31 (by decide) ?_
          refine ya_zast hx hb hK hP hD hS 7 6 rfl rfl (j := i) (by omega) (by decide) yn_z1 dX0_markOutside_35 (fun H locs hP hD hS => ?_)
          have hP : va_P (dC, dI) vwCl (wm ca ad t k v b n kd ln w nw (upd f i 1) sn) H := hP
          have hD : va_D A (wm ca ad t k v b n kd ln w nw (upd f i 1) sn) := hD
          refine lv_iinc (v := (nI (i + 1))) (lv' := [(2, .int (nI (i + 1))), (0, .ref (ad 0)), (1, .int p1)]) hx hb dX0_markOutside_36 hl (k := 2) rfl (yn_inc _) (by decide) rfl (fun ls hl => ?_)
          refine lv_goto (tgt := 2) hx hb dX0_markOutside_39 (by decide) ?_
          exact ih (i + 1) (by omega) (by omega) _ _ _ hP hD hS (qm_step (P := fun j => t j < nw - p1) hf (qc_mk1 (Int32.not_le.mp c_2))) ls (lv_sub hl [1, 2, 0] rfl)
  exact loop (n + 1) 0 (Nat.zero_le n) (by omega) _ _ _ hP hD hS (fun j h => absurd h (Nat.not_lt_zero j)) ls (lv_sub hl [1, 2, 0] rfl)

set_option maxRecDepth 100000 in
set_option maxHeartbeats 4000000 in
/-- markBlock(n) -/
theorem c_markBlock (l : Launch) (dC : Nat → ClassId) (dI : Nat → Nat → Nat) (ca : Nat → ClassId) (ad : Nat → Nat) (sz : Nat) (t : Nat → Int32) (k : Nat → Nat) (v : Nat → Int32) (b : Nat → Nat) (n : Nat) (kd : Nat → Int32) (ln : Nat → Int32) (w : Nat) (nw : Int32) (ins : Nat → Int32) (sn : Nat → Nat) (p1 : Int32) (hn : n ≤ 300) : Met l yX0_markBlock wsX0_markBlock ({ frames := 0, cells := 0, slots := 0, locals := 0 }) (va_Pc [.ref (ad 0), .int p1] (wmPre dC dI ca ad sz t k v b n kd ln w nw ins sn)) (va_Qv (fun u : Nat → Int32 => ∀ j, j < n → qc_mk (u j) (t j / qc_len p1 = nw / qc_len p1)) (fun u t9 => wmAt dC dI ca ad (va_A (wm ca ad t k v b n kd ln w nw ins sn) sz) t k v b n kd ln w nw u sn t9) (va_A (wm ca ad t k v b n kd ln w nw ins sn) sz)) 0 0 (va_A (wm ca ad t k v b n kd ln w nw ins sn) sz) := by
  refine Met.ofW (cc := cX0_markBlock) (maxL := 5) (ret := none) (by decide) rfl ?_
  intro p e s m args below meth c s₁ B hml hv
  obtain ⟨rfl, hsz, hP, hK, hD0⟩ := hv
  have hx := B.exec
  have hb := B.bytes
  have hr := B.returns
  have hts := atoms_spec (ws := wsX0_markBlock) B.pre
  have hown : s.vm.findClass RX0 = some m.cls := findClass_of_methodNamed B.named
  have hlocks := B.notSynchronized
  subst hsz
  have hin0 : ∀ w ∈ u_ws RX0 TX0 11, w ∈ wsX0_markBlock := fun w h => List.mem_cons_of_mem _ (wiX0 w h)
  have fl_9 := hts _ (List.mem_cons_of_mem _ flX0_9)
  have fl_28 := hts _ (List.mem_cons_of_mem _ flX0_28)
  have fl_35 := hts _ (List.mem_cons_of_mem _ flX0_35)
  have fl_42 := hts _ (List.mem_cons_of_mem _ flX0_42)
  have hD := hD0.self (sz := s.heap.size)
  generalize hAe : va_A (wm ca ad t k v b n kd ln w nw ins sn) s.heap.size = A at hD ⊢
  have hA : ∀ q : Nat, s.heap.size ≤ q → A q := fun q h => by rw [← hAe]; exact Or.inr h
  have hS : va_S A s.heap s.heap [] := va_S.rf
  have hl := lv_entry ([.ref (ad 0), .int p1]) (n := 5) (Nat.le_of_ble_eq_true rfl)
  rw [lg_entry_eq]
  generalize (lg_sl ([.ref (ad 0), .int p1]) ++ List.replicate (5 - (lg_sl ([.ref (ad 0), .int p1])).length) Slot.unset).toArray = ls at hl ⊢
  have hl : lv_has ls 5 [(0, .ref (ad 0)), (1, .int p1)] := hl
  have loop : ∀ (d i : Nat), i ≤ n → n + 1 ≤ i + d → ∀ (f : Nat → Int32) (H : Heap) (locs : List Loc), va_P (dC, dI) vwCl (wm ca ad t k v b n kd ln w nw f sn) H → va_D A (wm ca ad t k v b n kd ln w nw f sn) → va_S A s.heap H locs → (∀ j, j < i → qc_mk (f j) (t j / qc_len p1 = nw / qc_len p1)) → ∀ (ls : Array Slot), lv_has ls 5 [(0, .ref (ad 0)), (1, .int p1), (2, .int (qc_len p1)), (3, .int (nw / qc_len p1)), (4, .int (nI i))] → W p l e (headSpec wsX0_markBlock ({ frames := 0, cells := 0, slots := 0, locals := 0 })).room s m ([.ref (ad 0), .int p1] : List Value).toArray below meth c H locs 0 0 (MQ below (va_Qv (fun u : Nat → Int32 => ∀ j, j < n → qc_mk (u j) (t j / qc_len p1 = nw / qc_len p1)) (fun u t9 => wmAt dC dI ca ad A t k v b n kd ln w nw u sn t9) A) ([.ref (ad 0), .int p1] : List Value).toArray s 0 0 A) (F0 m 20 ls []) := by
    intro d
    induction d with
    | zero =>
      intro i hi hfu
      exact absurd hfu (by omega)
    | succ d ih =>
      intro i hi hfu f H locs hP hD hS hf ls hl
      refine lv_iload hx hb dX0_markBlock_20 (lv_at hl 4 rfl) ?_
      refine lv_aload_n hx hb dX0_markBlock_22 rfl (lv_at hl 0 rfl) ?_
      refine va_get (D := (dC, dI)) (ci := 0) (v := .int (nI n)) (C := RX0) (T := TX0) (N := 11) hx hb hts hin0 hown hK hP 0 rfl rfl 4 (by decide) fl_35 (fun _ h9 => h9) rfl dX0_markBlock_23 ?_
      refine yb_ge (tgt := 60) (by omega) (by omega) hx hb dX0_markBlock_26 (by decide) (fun c_1 => ?_) (fun c_1 => ?_)
      · exact W.vret hx hb hr (fun t9 ht hW => ⟨⟨f, rfl, fun j hj => hf j (by omega), by rw [ht]; exact hP, va_K.moved hW.alike hK, hD⟩, hS.F ht⟩) hS.2.2 dX0_markBlock_60
      · refine lv_aload_n hx hb dX0_markBlock_29 rfl (lv_at hl 0 rfl) ?_
        refine va_get (D := (dC, dI)) (ci := 0) (v := .ref (ad 7)) (C := RX0) (T := TX0) (N := 11) hx hb hts hin0 hown hK hP 0 rfl rfl 9 (by decide) fl_28 (fun _ h9 => h9) rfl dX0_markBlock_30 ?_
        refine lv_iload hx hb dX0_markBlock_33 (lv_at hl 4 rfl) ?_
        refine lv_aload_n hx hb dX0_markBlock_35 rfl (lv_at hl 0 rfl) ?_
        refine va_get (D := (dC, dI)) (ci := 0) (v := .ref (ad 1)) (C := RX0) (T := TX0) (N := 11) hx hb hts hin0 hown hK hP 0 rfl rfl 0 (by decide) fl_9 (fun _ h9 => h9) rfl dX0_markBlock_36 ?_
        refine lv_iload hx hb dX0_markBlock_39 (lv_at hl 4 rfl) ?_
        refine ya_iald hx hb hK hP 1 0 rfl rfl (j := i) (by omega) (by decide) dX0_markBlock_41 ?_
        refine lv_iload_n hx hb dX0_markBlock_42 rfl (lv_at hl 2 rfl) ?_
        refine lv_idiv hx hb dX0_markBlock_43 (qc_len_ne p1) ?_
        refine lv_iload_n hx hb dX0_markBlock_44 rfl (lv_at hl 3 rfl) ?_
        refine lv_icmp_ne (tgt := 52) hx hb dX0_markBlock_45 (by decide) (fun c_2 => ?_) (fun c_2 => ?_)
        · refine lv_iconst (v := 0) hx hb dX0_markBlock_52 (by decide) ?_
          refine ya_zast hx hb hK hP hD hS 7 6 rfl rfl (j := i) (by omega) (by decide) yn_z0 dX0_markBlock_53 (fun H locs hP hD hS => ?_)
          have hP : va_P (dC, dI) vwCl (wm ca ad t k v b n kd ln w nw (upd f i 0) sn) H := hP
          have hD : va_D A (wm ca ad t k v b n kd ln w nw (upd f i 0) sn) := hD
          refine lv_iinc (v := (nI (i + 1))) (lv' := [(4, .int (nI (i + 1))), (0, .ref (ad 0)), (1, .int p1), (2, .int (qc_len p1)), (3, .int (nw / qc_len p1))]) hx hb dX0_markBlock_54 hl (k := 4) rfl (yn_inc _) (by decide) rfl (fun ls hl => ?_)
          refine lv_goto (tgt := 20) hx hb dX0_markBlock_57 (by decide) ?_
          exact ih (i + 1) (by omega) (by omega) _ _ _ hP hD hS (qm_step (P := fun j => t j / qc_len p1 = nw / qc_len p1) hf (qc_mk0 c_2)) ls (lv_sub hl [1, 2, 3, 4, 0] rfl)
        · refine lv_iconst (v := 1) hx hb dX0_markBlock_48 (by decide) ?_
          refine lv_goto (tgt := 53) hx hb dX0_markBlock_49 (by decide) ?_
          refine ya_zast hx hb hK hP hD hS 7 6 rfl rfl (j := i) (by omega) (by decide) yn_z1 dX0_markBlock_53 (fun H locs hP hD hS => ?_)
          have hP : va_P (dC, dI) vwCl (wm ca ad t k v b n kd ln w nw (upd f i 1) sn) H := hP
          have hD : va_D A (wm ca ad t k v b n kd ln w nw (upd f i 1) sn) := hD
          refine lv_iinc (v := (nI (i + 1))) (lv' := [(4, .int (nI (i + 1))), (0, .ref (ad 0)), (1, .int p1), (2, .int (qc_len p1)), (3, .int (nw / qc_len p1))]) hx hb dX0_markBlock_54 hl (k := 4) rfl (yn_inc _) (by decide) rfl (fun ls hl => ?_)
          refine lv_goto (tgt := 20) hx hb dX0_markBlock_57 (by decide) ?_
          exact ih (i + 1) (by omega) (by omega) _ _ _ hP hD hS (qm_step (P := fun j => t j / qc_len p1 = nw / qc_len p1) hf (qc_mk1 c_2)) ls (lv_sub hl [1, 2, 3, 4, 0] rfl)
  refine lv_iload_n hx hb dX0_markBlock_0 rfl (lv_at hl 1 rfl) ?_
  refine lv_if_le (tgt := 8) hx hb dX0_markBlock_1 (by decide) (fun c_3 => ?_) (fun c_3 => ?_)
  · refine lv_iconst (v := 1) hx hb dX0_markBlock_8 (by decide) ?_
    refine W.eq (g2 := F0 m 9 ls [.int (qc_len p1)]) (by rw [qc_len, if_pos c_3]) ?_
    refine lv_istore_n (lv' := [(2, .int (qc_len p1)), (0, .ref (ad 0)), (1, .int p1)]) hx hb dX0_markBlock_9 rfl hl (by decide) rfl (fun ls hl => ?_)
    refine lv_aload_n hx hb dX0_markBlock_10 rfl (lv_at hl 1 rfl) ?_
    refine va_get (D := (dC, dI)) (ci := 0) (v := .int nw) (C := RX0) (T := TX0) (N := 11) hx hb hts hin0 hown hK hP 0 rfl rfl 8 (by decide) fl_42 (fun _ h9 => h9) rfl dX0_markBlock_11 ?_
    refine lv_iload_n hx hb dX0_markBlock_14 rfl (lv_at hl 0 rfl) ?_
    refine lv_idiv hx hb dX0_markBlock_15 (qc_len_ne p1) ?_
    refine lv_istore_n (lv' := [(3, .int (nw / (qc_len p1))), (2, .int (qc_len p1)), (0, .ref (ad 0)), (1, .int p1)]) hx hb dX0_markBlock_16 rfl hl (by decide) rfl (fun ls hl => ?_)
    refine lv_iconst (v := 0) hx hb dX0_markBlock_17 (by decide) ?_
    refine lv_istore (lv' := [(4, .int 0), (3, .int (nw / (qc_len p1))), (2, .int (qc_len p1)), (0, .ref (ad 0)), (1, .int p1)]) hx hb dX0_markBlock_18 hl (by decide) rfl (fun ls hl => ?_)
    exact loop (n + 1) 0 (Nat.zero_le n) (by omega) _ _ _ hP hD hS (fun j h => absurd h (Nat.not_lt_zero j)) ls (lv_sub hl [3, 4, 2, 1, 0] rfl)
  · refine lv_iload_n hx hb dX0_markBlock_4 rfl (lv_at hl 1 rfl) ?_
    refine lv_goto (tgt := 9) hx hb dX0_markBlock_5 (by decide) ?_
    refine W.eq (g2 := F0 m 9 ls [.int (qc_len p1)]) (by rw [qc_len, if_neg c_3]) ?_
    refine lv_istore_n (lv' := [(2, .int (qc_len p1)), (0, .ref (ad 0)), (1, .int p1)]) hx hb dX0_markBlock_9 rfl hl (by decide) rfl (fun ls hl => ?_)
    refine lv_aload_n hx hb dX0_markBlock_10 rfl (lv_at hl 1 rfl) ?_
    refine va_get (D := (dC, dI)) (ci := 0) (v := .int nw) (C := RX0) (T := TX0) (N := 11) hx hb hts hin0 hown hK hP 0 rfl rfl 8 (by decide) fl_42 (fun _ h9 => h9) rfl dX0_markBlock_11 ?_
    refine lv_iload_n hx hb dX0_markBlock_14 rfl (lv_at hl 0 rfl) ?_
    refine lv_idiv hx hb dX0_markBlock_15 (qc_len_ne p1) ?_
    refine lv_istore_n (lv' := [(3, .int (nw / (qc_len p1))), (2, .int (qc_len p1)), (0, .ref (ad 0)), (1, .int p1)]) hx hb dX0_markBlock_16 rfl hl (by decide) rfl (fun ls hl => ?_)
    refine lv_iconst (v := 0) hx hb dX0_markBlock_17 (by decide) ?_
    refine lv_istore (lv' := [(4, .int 0), (3, .int (nw / (qc_len p1))), (2, .int (qc_len p1)), (0, .ref (ad 0)), (1, .int p1)]) hx hb dX0_markBlock_18 hl (by decide) rfl (fun ls hl => ?_)
    exact loop (n + 1) 0 (Nat.zero_le n) (by omega) _ _ _ hP hD hS (fun j h => absurd h (Nat.not_lt_zero j)) ls (lv_sub hl [3, 4, 2, 1, 0] rfl)

set_option maxRecDepth 100000 in
set_option maxHeartbeats 4000000 in
/-- markRun(n) -/
theorem c_markRun (l : Launch) (dC : Nat → ClassId) (dI : Nat → Nat → Nat) (ca : Nat → ClassId) (ad : Nat → Nat) (sz : Nat) (t : Nat → Int32) (k : Nat → Nat) (v : Nat → Int32) (b : Nat → Nat) (n : Nat) (kd : Nat → Int32) (ln : Nat → Int32) (w : Nat) (nw : Int32) (ins : Nat → Int32) (sn : Nat → Nat) (p1 : Int32) (hn : n ≤ 300) : Met l yX0_markRun wsX0_markRun ({ frames := 0, cells := 0, slots := 0, locals := 0 }) (va_Pc [.ref (ad 0), .int p1] (wmPre dC dI ca ad sz t k v b n kd ln w nw ins sn)) (va_Qv (fun u : Nat → Int32 => ∀ j, j < n → qc_mk (u j) (qc_td t nw p1 n j)) (fun u t9 => wmAt dC dI ca ad (va_A (wm ca ad t k v b n kd ln w nw ins sn) sz) t k v b n kd ln w nw u sn t9) (va_A (wm ca ad t k v b n kd ln w nw ins sn) sz)) 0 0 (va_A (wm ca ad t k v b n kd ln w nw ins sn) sz) := by
  refine Met.ofW (cc := cX0_markRun) (maxL := 5) (ret := none) (by decide) rfl ?_
  intro p e s m args below meth c s₁ B hml hv
  obtain ⟨rfl, hsz, hP, hK, hD0⟩ := hv
  have hx := B.exec
  have hb := B.bytes
  have hr := B.returns
  have hts := atoms_spec (ws := wsX0_markRun) B.pre
  have hown : s.vm.findClass RX0 = some m.cls := findClass_of_methodNamed B.named
  have hlocks := B.notSynchronized
  subst hsz
  have hin0 : ∀ w ∈ u_ws RX0 TX0 11, w ∈ wsX0_markRun := fun w h => List.mem_cons_of_mem _ (wiX0 w h)
  have fl_9 := hts _ (List.mem_cons_of_mem _ flX0_9)
  have fl_28 := hts _ (List.mem_cons_of_mem _ flX0_28)
  have fl_35 := hts _ (List.mem_cons_of_mem _ flX0_35)
  have fl_42 := hts _ (List.mem_cons_of_mem _ flX0_42)
  have hD := hD0.self (sz := s.heap.size)
  generalize hAe : va_A (wm ca ad t k v b n kd ln w nw ins sn) s.heap.size = A at hD ⊢
  have hA : ∀ q : Nat, s.heap.size ≤ q → A q := fun q h => by rw [← hAe]; exact Or.inr h
  have hS : va_S A s.heap s.heap [] := va_S.rf
  have hl := lv_entry ([.ref (ad 0), .int p1]) (n := 5) (Nat.le_of_ble_eq_true rfl)
  rw [lg_entry_eq]
  generalize (lg_sl ([.ref (ad 0), .int p1]) ++ List.replicate (5 - (lg_sl ([.ref (ad 0), .int p1])).length) Slot.unset).toArray = ls at hl ⊢
  have hl : lv_has ls 5 [(0, .ref (ad 0)), (1, .int p1)] := hl
  refine lv_aload_n hx hb dX0_markRun_0 rfl (lv_at hl 0 rfl) ?_
  refine va_get (D := (dC, dI)) (ci := 0) (v := .int nw) (C := RX0) (T := TX0) (N := 11) hx hb hts hin0 hown hK hP 0 rfl rfl 8 (by decide) fl_42 (fun _ h9 => h9) rfl dX0_markRun_1 ?_
  refine lv_istore_n (lv' := [(2, .int nw), (0, .ref (ad 0)), (1, .int p1)]) hx hb dX0_markRun_4 rfl hl (by decide) rfl (fun ls hl => ?_)
  refine lv_iconst (v := 1) hx hb dX0_markRun_5 (by decide) ?_
  refine lv_istore_n (lv' := [(3, .int 1), (2, .int nw), (0, .ref (ad 0)), (1, .int p1)]) hx hb dX0_markRun_6 rfl hl (by decide) rfl (fun ls hl => ?_)
  refine lv_aload_n hx hb dX0_markRun_7 rfl (lv_at hl 2 rfl) ?_
  refine va_get (D := (dC, dI)) (ci := 0) (v := .int (nI n)) (C := RX0) (T := TX0) (N := 11) hx hb hts hin0 hown hK hP 0 rfl rfl 4 (by decide) fl_35 (fun _ h9 => h9) rfl dX0_markRun_8 ?_
  refine lv_iconst (v := 1) hx hb dX0_markRun_11 (by decide) ?_
  refine lv_isub hx hb dX0_markRun_12 ?_
  refine lv_istore (lv' := [(4, .int ((nI n) - 1)), (3, .int 1), (2, .int nw), (0, .ref (ad 0)), (1, .int p1)]) hx hb dX0_markRun_13 hl (by decide) rfl (fun ls hl => ?_)
  have loop : ∀ (r : Nat), r ≤ n → ∀ (x2 : Int32) (x3 : Int32) (f : Nat → Int32) (H : Heap) (locs : List Loc), va_P (dC, dI) vwCl (wm ca ad t k v b n kd ln w nw f sn) H → va_D A (wm ca ad t k v b n kd ln w nw f sn) → va_S A s.heap H locs → (x2 = qc_nx t nw n r) → (qc_mk x3 (qc_td t nw p1 n r)) → (∀ j, r ≤ j → j < n → qc_mk (f j) (qc_td t nw p1 n j)) → ∀ (ls : Array Slot), lv_has ls 5 [(0, .ref (ad 0)), (1, .int p1), (2, .int x2), (3, .int x3), (4, .int (nI r - 1))] → W p l e (headSpec wsX0_markRun ({ frames := 0, cells := 0, slots := 0, locals := 0 })).room s m ([.ref (ad 0), .int p1] : List Value).toArray below meth c H locs 0 0 (MQ below (va_Qv (fun u : Nat → Int32 => ∀ j, j < n → qc_mk (u j) (qc_td t nw p1 n j)) (fun u t9 => wmAt dC dI ca ad A t k v b n kd ln w nw u sn t9) A) ([.ref (ad 0), .int p1] : List Value).toArray s 0 0 A) (F0 m 15 ls []) := by
    intro r
    induction r with
    | zero =>
      intro hi x2 x3 f H locs hP hD hS hx2 hx3 hf ls hl
      refine lv_iload hx hb dX0_markRun_15 (lv_at hl 4 rfl) ?_
      refine lv_if_lt (tgt := 65) hx hb dX0_markRun_17 (by decide) (fun c_1 => ?_) (fun c_1 => ?_)
      · exact W.vret hx hb hr (fun t9 ht hW => ⟨⟨f, rfl, fun j hj => hf j (Nat.zero_le j) hj, by rw [ht]; exact hP, va_K.moved hW.alike hK, hD⟩, hS.F ht⟩) hS.2.2 dX0_markRun_65
      · exact absurd (by decide) c_1
    | succ r ih =>
      intro hi x2 x3 f H locs hP hD hS hx2 hx3 hf ls hl
      rw [nI_pred] at hl
      refine lv_iload hx hb dX0_markRun_15 (lv_at hl 4 rfl) ?_
      refine lv_if_lt (tgt := 65) hx hb dX0_markRun_17 (by decide) (fun c_2 => ?_) (fun c_2 => ?_)
      · exact absurd c_2 (nI_pos (by omega))
      · have hnx : qc_nx t nw n (r + 1) = x2 := hx2.symm
        refine lv_iload_n hx hb dX0_markRun_20 rfl (lv_at hl 3 rfl) ?_
        refine lv_if_eq (tgt := 41) hx hb dX0_markRun_21 (by decide) (fun c_3 => ?_) (fun c_3 => ?_)
        · refine lv_iconst (v := 0) hx hb dX0_markRun_41 (by decide) ?_
          have hmk : qc_mk 0 (qc_td t nw p1 n r) := qc_mk0 (fun q => hx3.elim (fun g => absurd (g.1.symm.trans c_3) (by decide)) (fun g => g.2 (fun q1 g1 g2 => q q1 (by omega) g2)))
          refine lv_istore_n (lv' := [(3, .int 0), (0, .ref (ad 0)), (1, .int p1), (2, .int x2), (4, .int (nI r))]) hx hb dX0_markRun_42 rfl hl (by decide) rfl (fun ls hl => ?_)
          refine lv_aload_n hx hb dX0_markRun_43 rfl (lv_at hl 1 rfl) ?_
          refine va_get (D := (dC, dI)) (ci := 0) (v := .ref (ad 7)) (C := RX0) (T := TX0) (N := 11) hx hb hts hin0 hown hK hP 0 rfl rfl 9 (by decide) fl_28 (fun _ h9 => h9) rfl dX0_markRun_44 ?_
          refine lv_iload hx hb dX0_markRun_47 (lv_at hl 4 rfl) ?_
          refine lv_iload_n hx hb dX0_markRun_49 rfl (lv_at hl 0 rfl) ?_
          refine ya_zast hx hb hK hP hD hS 7 6 rfl rfl (j := r) (by omega) (by decide) yn_z0 dX0_markRun_50 (fun H locs hP hD hS => ?_)
          have hP : va_P (dC, dI) vwCl (wm ca ad t k v b n kd ln w nw (upd f r 0) sn) H := hP
          have hD : va_D A (wm ca ad t k v b n kd ln w nw (upd f r 0) sn) := hD
          refine lv_aload_n hx hb dX0_markRun_51 rfl (lv_at hl 1 rfl) ?_
          refine va_get (D := (dC, dI)) (ci := 0) (v := .ref (ad 1)) (C := RX0) (T := TX0) (N := 11) hx hb hts hin0 hown hK hP 0 rfl rfl 0 (by decide) fl_9 (fun _ h9 => h9) rfl dX0_markRun_52 ?_
          refine lv_iload hx hb dX0_markRun_55 (lv_at hl 4 rfl) ?_
          refine ya_iald hx hb hK hP 1 0 rfl rfl (j := r) (by omega) (by decide) dX0_markRun_57 ?_
          refine lv_istore_n (lv' := [(2, .int (t r)), (3, .int 0), (0, .ref (ad 0)), (1, .int p1), (4, .int (nI r))]) hx hb dX0_markRun_58 rfl hl (by decide) rfl (fun ls hl => ?_)
          refine lv_iinc (v := (nI r - 1)) (lv' := [(4, .int (nI r - 1)), (2, .int (t r)), (3, .int 0), (0, .ref (ad 0)), (1, .int p1)]) hx hb dX0_markRun_59 hl (k := 4) rfl (yn_dm _) (by decide) rfl (fun ls hl => ?_)
          refine lv_goto (tgt := 15) hx hb dX0_markRun_62 (by decide) ?_
          exact ih (by omega) _ 0 _ _ _ hP hD hS (by rw [qc_nx, if_pos (by omega)]) hmk (qm_down (P := fun j => qc_td t nw p1 n j) hf hmk) ls (lv_sub hl [3, 4, 1, 2, 0] rfl)
        · have htd : qc_td t nw p1 n (r + 1) := by
            rcases hx3 with ⟨_, g⟩ | ⟨g, _⟩
            · exact g
            · exact absurd g c_3
          refine lv_aload_n hx hb dX0_markRun_24 rfl (lv_at hl 0 rfl) ?_
          refine va_get (D := (dC, dI)) (ci := 0) (v := .ref (ad 1)) (C := RX0) (T := TX0) (N := 11) hx hb hts hin0 hown hK hP 0 rfl rfl 0 (by decide) fl_9 (fun _ h9 => h9) rfl dX0_markRun_25 ?_
          refine lv_iload hx hb dX0_markRun_28 (lv_at hl 4 rfl) ?_
          refine ya_iald hx hb hK hP 1 0 rfl rfl (j := r) (by omega) (by decide) dX0_markRun_30 ?_
          refine lv_iload_n hx hb dX0_markRun_31 rfl (lv_at hl 2 rfl) ?_
          refine lv_iload_n hx hb dX0_markRun_32 rfl (lv_at hl 1 rfl) ?_
          refine lv_isub hx hb dX0_markRun_33 ?_
          refine lv_icmp_lt (tgt := 41) hx hb dX0_markRun_34 (by decide) (fun c_4 => ?_) (fun c_4 => ?_)
          · refine lv_iconst (v := 0) hx hb dX0_markRun_41 (by decide) ?_
            have hmk : qc_mk 0 (qc_td t nw p1 n r) := qc_mk0 (fun q => q r (Nat.le_refl r) (by omega) (by rw [hnx]; exact c_4))
            refine lv_istore_n (lv' := [(3, .int 0), (0, .ref (ad 0)), (1, .int p1), (2, .int x2), (4, .int (nI r))]) hx hb dX0_markRun_42 rfl hl (by decide) rfl (fun ls hl => ?_)
            refine lv_aload_n hx hb dX0_markRun_43 rfl (lv_at hl 1 rfl) ?_
            refine va_get (D := (dC, dI)) (ci := 0) (v := .ref (ad 7)) (C := RX0) (T := TX0) (N := 11) hx hb hts hin0 hown hK hP 0 rfl rfl 9 (by decide) fl_28 (fun _ h9 => h9) rfl dX0_markRun_44 ?_
            refine lv_iload hx hb dX0_markRun_47 (lv_at hl 4 rfl) ?_
            refine lv_iload_n hx hb dX0_markRun_49 rfl (lv_at hl 0 rfl) ?_
            refine ya_zast hx hb hK hP hD hS 7 6 rfl rfl (j := r) (by omega) (by decide) yn_z0 dX0_markRun_50 (fun H locs hP hD hS => ?_)
            have hP : va_P (dC, dI) vwCl (wm ca ad t k v b n kd ln w nw (upd f r 0) sn) H := hP
            have hD : va_D A (wm ca ad t k v b n kd ln w nw (upd f r 0) sn) := hD
            refine lv_aload_n hx hb dX0_markRun_51 rfl (lv_at hl 1 rfl) ?_
            refine va_get (D := (dC, dI)) (ci := 0) (v := .ref (ad 1)) (C := RX0) (T := TX0) (N := 11) hx hb hts hin0 hown hK hP 0 rfl rfl 0 (by decide) fl_9 (fun _ h9 => h9) rfl dX0_markRun_52 ?_
            refine lv_iload hx hb dX0_markRun_55 (lv_at hl 4 rfl) ?_
            refine ya_iald hx hb hK hP 1 0 rfl rfl (j := r) (by omega) (by decide) dX0_markRun_57 ?_
            refine lv_istore_n (lv' := [(2, .int (t r)), (3, .int 0), (0, .ref (ad 0)), (1, .int p1), (4, .int (nI r))]) hx hb dX0_markRun_58 rfl hl (by decide) rfl (fun ls hl => ?_)
            refine lv_iinc (v := (nI r - 1)) (lv' := [(4, .int (nI r - 1)), (2, .int (t r)), (3, .int 0), (0, .ref (ad 0)), (1, .int p1)]) hx hb dX0_markRun_59 hl (k := 4) rfl (yn_dm _) (by decide) rfl (fun ls hl => ?_)
            refine lv_goto (tgt := 15) hx hb dX0_markRun_62 (by decide) ?_
            exact ih (by omega) _ 0 _ _ _ hP hD hS (by rw [qc_nx, if_pos (by omega)]) hmk (qm_down (P := fun j => qc_td t nw p1 n j) hf hmk) ls (lv_sub hl [3, 4, 1, 2, 0] rfl)
          · refine lv_iconst (v := 1) hx hb dX0_markRun_37 (by decide) ?_
            refine lv_goto (tgt := 42) hx hb dX0_markRun_38 (by decide) ?_
            have hmk : qc_mk 1 (qc_td t nw p1 n r) := qc_mk1 (fun q1 g1 g2 => (Nat.lt_or_ge r q1).elim (fun g => htd q1 g g2) (fun g => by have e9 : q1 = r := (by omega); subst e9; rw [hnx]; exact c_4))
            refine lv_istore_n (lv' := [(3, .int 1), (0, .ref (ad 0)), (1, .int p1), (2, .int x2), (4, .int (nI r))]) hx hb dX0_markRun_42 rfl hl (by decide) rfl (fun ls hl => ?_)
            refine lv_aload_n hx hb dX0_markRun_43 rfl (lv_at hl 1 rfl) ?_
            refine va_get (D := (dC, dI)) (ci := 0) (v := .ref (ad 7)) (C := RX0) (T := TX0) (N := 11) hx hb hts hin0 hown hK hP 0 rfl rfl 9 (by decide) fl_28 (fun _ h9 => h9) rfl dX0_markRun_44 ?_
            refine lv_iload hx hb dX0_markRun_47 (lv_at hl 4 rfl) ?_
            refine lv_iload_n hx hb dX0_markRun_49 rfl (lv_at hl 0 rfl) ?_
            refine ya_zast hx hb hK hP hD hS 7 6 rfl rfl (j := r) (by omega) (by decide) yn_z1 dX0_markRun_50 (fun H locs hP hD hS => ?_)
            have hP : va_P (dC, dI) vwCl (wm ca ad t k v b n kd ln w nw (upd f r 1) sn) H := hP
            have hD : va_D A (wm ca ad t k v b n kd ln w nw (upd f r 1) sn) := hD
            refine lv_aload_n hx hb dX0_markRun_51 rfl (lv_at hl 1 rfl) ?_
            refine va_get (D := (dC, dI)) (ci := 0) (v := .ref (ad 1)) (C := RX0) (T := TX0) (N := 11) hx hb hts hin0 hown hK hP 0 rfl rfl 0 (by decide) fl_9 (fun _ h9 => h9) rfl dX0_markRun_52 ?_
            refine lv_iload hx hb dX0_markRun_55 (lv_at hl 4 rfl) ?_
            refine ya_iald hx hb hK hP 1 0 rfl rfl (j := r) (by omega) (by decide) dX0_markRun_57 ?_
            refine lv_istore_n (lv' := [(2, .int (t r)), (3, .int 1), (0, .ref (ad 0)), (1, .int p1), (4, .int (nI r))]) hx hb dX0_markRun_58 rfl hl (by decide) rfl (fun ls hl => ?_)
            refine lv_iinc (v := (nI r - 1)) (lv' := [(4, .int (nI r - 1)), (2, .int (t r)), (3, .int 1), (0, .ref (ad 0)), (1, .int p1)]) hx hb dX0_markRun_59 hl (k := 4) rfl (yn_dm _) (by decide) rfl (fun ls hl => ?_)
            refine lv_goto (tgt := 15) hx hb dX0_markRun_62 (by decide) ?_
            exact ih (by omega) _ 1 _ _ _ hP hD hS (by rw [qc_nx, if_pos (by omega)]) hmk (qm_down (P := fun j => qc_td t nw p1 n j) hf hmk) ls (lv_sub hl [3, 4, 1, 2, 0] rfl)
  exact loop n (Nat.le_refl n) nw 1 _ _ _ hP hD hS (by rw [qc_nx, if_neg (Nat.lt_irrefl n)]) (qc_mk1 (fun q g1 g2 => absurd g2 (by omega))) (fun j g1 g2 => absurd g2 (by omega)) ls (lv_sub hl [3, 4, 2, 1, 0] rfl)
end
section
/-- the place of a new value in the order: what placeBySize leaves -/
def qc_ins (v : Nat → Int32) (b : Nat → Nat) (i0 : Nat) (u : Nat → Nat) : Prop := ∃ p, p ≤ i0 ∧ (p = 0 ∨ v (b (p - 1)) ≤ v i0) ∧ (∀ j, p ≤ j → j < i0 → ¬ v (b j) ≤ v i0) ∧ (∀ j, j < p → u j = b j) ∧ u p = i0 ∧ ∀ j, p < j → j ≤ i0 → u j = b (j - 1)
theorem qc_ins_end {v : Nat → Int32} {b g : Nat → Nat} {i0 p : Nat} (h1 : p ≤ i0) (h2 : p = 0 ∨ v (b (p - 1)) ≤ v i0) (h3 : ∀ j, p ≤ j → j < i0 → ¬ v (b j) ≤ v i0) (h4 : ∀ j, j < p → g j = b j) (h5 : ∀ j, p < j → j ≤ i0 → g j = b (j - 1)) : qc_ins v b i0 (vu g p i0) :=
  ⟨p, h1, h2, h3, fun j hj => by rw [vu_other (by omega)]; exact h4 j hj, vu_same _ _ _, fun j g1 g2 => by rw [vu_other (by omega)]; exact h5 j g1 g2⟩
set_option maxRecDepth 100000 in
set_option maxHeartbeats 4000000 in
/-- placeBySize(i) -/
theorem c_placeBySize (l : Launch) (dC : Nat → ClassId) (dI : Nat → Nat → Nat) (ca : Nat → ClassId) (ad : Nat → Nat) (sz : Nat) (t : Nat → Int32) (k : Nat → Nat) (v : Nat → Int32) (b : Nat → Nat) (n : Nat) (kd : Nat → Int32) (ln : Nat → Int32) (w : Nat) (nw : Int32) (ins : Nat → Int32) (sn : Nat → Nat) (i0 : Nat) (hi0 : i0 < 300) (hbn : ∀ j, j < i0 → b j < i0) : Met l yX0_placeBySize wsX0_placeBySize ({ frames := 0, cells := 0, slots := 0, locals := 0 }) (va_Pc [.ref (ad 0), .int (nI i0)] (wmPre dC dI ca ad sz t k v b n kd ln w nw ins sn)) (va_Qv (fun u : Nat → Nat => qc_ins v b i0 u) (fun u t9 => wmAt dC dI ca ad (va_A (wm ca ad t k v b n kd ln w nw ins sn) sz) t k v u n kd ln w nw ins sn t9) (va_A (wm ca ad t k v b n kd ln w nw ins sn) sz)) 0 0 (va_A (wm ca ad t k v b n kd ln w nw ins sn) sz) := by
  refine Met.ofW (cc := cX0_placeBySize) (maxL := 3) (ret := none) (by decide) rfl ?_
  intro p e s m args below meth c s₁ B hml hv
  obtain ⟨rfl, hsz, hP, hK, hD0⟩ := hv
  have hx := B.exec
  have hb := B.bytes
  have hr := B.returns
  have hts := atoms_spec (ws := wsX0_placeBySize) B.pre
  have hown : s.vm.findClass RX0 = some m.cls := findClass_of_methodNamed B.named
  have hlocks := B.notSynchronized
  subst hsz
  have hin0 : ∀ w ∈ u_ws RX0 TX0 11, w ∈ wsX0_placeBySize := fun w h => List.mem_cons_of_mem _ (wiX0 w h)
  have fl_16 := hts _ (List.mem_cons_of_mem _ flX0_16)
  have fl_19 := hts _ (List.mem_cons_of_mem _ flX0_19)
  have hD := hD0.self (sz := s.heap.size)
  generalize hAe : va_A (wm ca ad t k v b n kd ln w nw ins sn) s.heap.size = A at hD ⊢
  have hA : ∀ q : Nat, s.heap.size ≤ q → A q := fun q h => by rw [← hAe]; exact Or.inr h
  have hS : va_S A s.heap s.heap [] := va_S.rf
  have hl := lv_entry ([.ref (ad 0), .int (nI i0)]) (n := 3) (Nat.le_of_ble_eq_true rfl)
  rw [lg_entry_eq]
  generalize (lg_sl ([.ref (ad 0), .int (nI i0)]) ++ List.replicate (3 - (lg_sl ([.ref (ad 0), .int (nI i0)])).length) Slot.unset).toArray = ls at hl ⊢
  have hl : lv_has ls 3 [(0, .ref (ad 0)), (1, .int (nI i0))] := hl
  refine lv_iload_n hx hb dX0_placeBySize_0 rfl (lv_at hl 1 rfl) ?_
  refine lv_istore_n (lv' := [(2, .int (nI i0)), (0, .ref (ad 0)), (1, .int (nI i0))]) hx hb dX0_placeBySize_1 rfl hl (by decide) rfl (fun ls hl => ?_)
  have loop : ∀ (p0 : Nat), p0 ≤ i0 → ∀ (g : Nat → Nat) (H : Heap) (locs : List Loc), va_P (dC, dI) vwCl (wm ca ad t k v g n kd ln w nw ins sn) H → va_D A (wm ca ad t k v g n kd ln w nw ins sn) → va_S A s.heap H locs → (∀ j, p0 ≤ j → j < i0 → ¬ v (b j) ≤ v i0) → (∀ j, j < p0 → g j = b j) → (∀ j, p0 < j → j ≤ i0 → g j = b (j - 1)) → ∀ (ls : Array Slot), lv_has ls 3 [(0, .ref (ad 0)), (1, .int (nI i0)), (2, .int (nI p0))] → W p l e (headSpec wsX0_placeBySize ({ frames := 0, cells := 0, slots := 0, locals := 0 })).room s m ([.ref (ad 0), .int (nI i0)] : List Value).toArray below meth c H locs 0 0 (MQ below (va_Qv (fun u : Nat → Nat => qc_ins v b i0 u) (fun u t9 => wmAt dC dI ca ad A t k v u n kd ln w nw ins sn t9) A) ([.ref (ad 0), .int (nI i0)] : List Value).toArray s 0 0 A) (F0 m 2 ls []) := by
    intro p0
    induction p0 with
    | zero =>
      intro hi g H locs hP hD hS h3 h4 h5 ls hl
      refine lv_iload_n hx hb dX0_placeBySize_2 rfl (lv_at hl 2 rfl) ?_
      refine lv_if_le (tgt := 48) hx hb dX0_placeBySize_3 (by decide) (fun c_1 => ?_) (fun c_1 => ?_)
      · refine lv_aload_n hx hb dX0_placeBySize_48 rfl (lv_at hl 0 rfl) ?_
        refine va_get (D := (dC, dI)) (ci := 0) (v := .ref (ad 4)) (C := RX0) (T := TX0) (N := 11) hx hb hts hin0 hown hK hP 0 rfl rfl 3 (by decide) fl_19 (fun _ h9 => h9) rfl dX0_placeBySize_49 ?_
        refine lv_iload_n hx hb dX0_placeBySize_52 rfl (lv_at hl 2 rfl) ?_
        refine lv_iload_n hx hb dX0_placeBySize_53 rfl (lv_at hl 1 rfl) ?_
        refine ya_iast hx hb hK hP hD hS 4 3 rfl rfl (j := 0) (by decide) (by decide) dX0_placeBySize_54 (fun H locs hP hD hS => ?_)
        rw [vu_upd] at hP hD
        have hD : va_D A (wm ca ad t k v (vu g 0 i0) n kd ln w nw ins sn) := hD
        have hP : va_P (dC, dI) vwCl (wm ca ad t k v (vu g 0 i0) n kd ln w nw ins sn) H := hP
        exact W.vret hx hb hr (fun t9 ht hW => ⟨⟨_, rfl, qc_ins_end (by omega) (Or.inl rfl) h3 h4 h5, by rw [ht]; exact hP, va_K.moved hW.alike hK, hD⟩, hS.F ht⟩) hS.2.2 dX0_placeBySize_55
      · exact absurd (by decide) c_1
    | succ p0 ih =>
      intro hi g H locs hP hD hS h3 h4 h5 ls hl
      have hg : g p0 = b p0 := h4 p0 (by omega)
      have hgl : g p0 < 300 := by rw [hg]; exact Nat.lt_trans (hbn p0 (by omega)) hi0
      refine lv_iload_n hx hb dX0_placeBySize_2 rfl (lv_at hl 2 rfl) ?_
      refine lv_if_le (tgt := 48) hx hb dX0_placeBySize_3 (by decide) (fun c_2 => ?_) (fun c_2 => ?_)
      · exact absurd c_2 (nI_nle (by omega) (by omega))
      · refine lv_aload_n hx hb dX0_placeBySize_6 rfl (lv_at hl 0 rfl) ?_
        refine va_get (D := (dC, dI)) (ci := 0) (v := .ref (ad 3)) (C := RX0) (T := TX0) (N := 11) hx hb hts hin0 hown hK hP 0 rfl rfl 2 (by decide) fl_16 (fun _ h9 => h9) rfl dX0_placeBySize_7 ?_
        refine lv_aload_n hx hb dX0_placeBySize_10 rfl (lv_at hl 0 rfl) ?_
        refine va_get (D := (dC, dI)) (ci := 0) (v := .ref (ad 4)) (C := RX0) (T := TX0) (N := 11) hx hb hts hin0 hown hK hP 0 rfl rfl 3 (by decide) fl_19 (fun _ h9 => h9) rfl dX0_placeBySize_11 ?_
        refine lv_iload_n hx hb dX0_placeBySize_14 rfl (lv_at hl 2 rfl) ?_
        refine lv_iconst (v := 1) hx hb dX0_placeBySize_15 (by decide) ?_
        refine lv_isub hx hb dX0_placeBySize_16 ?_
        rw [nI_pred p0]
        refine ya_iald hx hb hK hP 4 3 rfl rfl (j := p0) (by omega) (by decide) dX0_placeBySize_17 ?_
        refine ya_iald hx hb hK hP 3 2 rfl rfl (j := (g p0)) hgl (by decide) dX0_placeBySize_18 ?_
        refine lv_aload_n hx hb dX0_placeBySize_19 rfl (lv_at hl 0 rfl) ?_
        refine va_get (D := (dC, dI)) (ci := 0) (v := .ref (ad 3)) (C := RX0) (T := TX0) (N := 11) hx hb hts hin0 hown hK hP 0 rfl rfl 2 (by decide) fl_16 (fun _ h9 => h9) rfl dX0_placeBySize_20 ?_
        refine lv_iload_n hx hb dX0_placeBySize_23 rfl (lv_at hl 1 rfl) ?_
        refine ya_iald hx hb hK hP 3 2 rfl rfl (j := i0) hi0 (by decide) dX0_placeBySize_24 ?_
        refine lv_icmp_le (tgt := 48) hx hb dX0_placeBySize_25 (by decide) (fun c_3 => ?_) (fun c_3 => ?_)
        · refine lv_aload_n hx hb dX0_placeBySize_48 rfl (lv_at hl 0 rfl) ?_
          refine va_get (D := (dC, dI)) (ci := 0) (v := .ref (ad 4)) (C := RX0) (T := TX0) (N := 11) hx hb hts hin0 hown hK hP 0 rfl rfl 3 (by decide) fl_19 (fun _ h9 => h9) rfl dX0_placeBySize_49 ?_
          refine lv_iload_n hx hb dX0_placeBySize_52 rfl (lv_at hl 2 rfl) ?_
          refine lv_iload_n hx hb dX0_placeBySize_53 rfl (lv_at hl 1 rfl) ?_
          refine ya_iast hx hb hK hP hD hS 4 3 rfl rfl (j := (p0 + 1)) (by omega) (by decide) dX0_placeBySize_54 (fun H locs hP hD hS => ?_)
          rw [vu_upd] at hP hD
          have hD : va_D A (wm ca ad t k v (vu g (p0 + 1) i0) n kd ln w nw ins sn) := hD
          have hP : va_P (dC, dI) vwCl (wm ca ad t k v (vu g (p0 + 1) i0) n kd ln w nw ins sn) H := hP
          exact W.vret hx hb hr (fun t9 ht hW => ⟨⟨_, rfl, qc_ins_end (by omega) (Or.inr (by rw [show p0 + 1 - 1 = p0 from rfl, ← hg]; exact c_3)) h3 h4 h5, by rw [ht]; exact hP, va_K.moved hW.alike hK, hD⟩, hS.F ht⟩) hS.2.2 dX0_placeBySize_55
        · refine lv_aload_n hx hb dX0_placeBySize_28 rfl (lv_at hl 0 rfl) ?_
          refine va_get (D := (dC, dI)) (ci := 0) (v := .ref (ad 4)) (C := RX0) (T := TX0) (N := 11) hx hb hts hin0 hown hK hP 0 rfl rfl 3 (by decide) fl_19 (fun _ h9 => h9) rfl dX0_placeBySize_29 ?_
          refine lv_iload_n hx hb dX0_placeBySize_32 rfl (lv_at hl 2 rfl) ?_
          refine lv_aload_n hx hb dX0_placeBySize_33 rfl (lv_at hl 0 rfl) ?_
          refine va_get (D := (dC, dI)) (ci := 0) (v := .ref (ad 4)) (C := RX0) (T := TX0) (N := 11) hx hb hts hin0 hown hK hP 0 rfl rfl 3 (by decide) fl_19 (fun _ h9 => h9) rfl dX0_placeBySize_34 ?_
          refine lv_iload_n hx hb dX0_placeBySize_37 rfl (lv_at hl 2 rfl) ?_
          refine lv_iconst (v := 1) hx hb dX0_placeBySize_38 (by decide) ?_
          refine lv_isub hx hb dX0_placeBySize_39 ?_
          rw [nI_pred p0]
          refine ya_iald hx hb hK hP 4 3 rfl rfl (j := p0) (by omega) (by decide) dX0_placeBySize_40 ?_
          refine ya_iast hx hb hK hP hD hS 4 3 rfl rfl (j := (p0 + 1)) (by omega) (by decide) dX0_placeBySize_41 (fun H locs hP hD hS => ?_)
          rw [vu_upd] at hP hD
          have hD : va_D A (wm ca ad t k v (vu g (p0 + 1) (g p0)) n kd ln w nw ins sn) := hD
          have hP : va_P (dC, dI) vwCl (wm ca ad t k v (vu g (p0 + 1) (g p0)) n kd ln w nw ins sn) H := hP
          refine lv_iinc (v := (nI p0)) (lv' := [(2, .int (nI p0)), (0, .ref (ad 0)), (1, .int (nI i0))]) hx hb dX0_placeBySize_42 hl (k := 2) rfl (yn_dec _) (by decide) rfl (fun ls hl => ?_)
          refine lv_goto (tgt := 2) hx hb dX0_placeBySize_45 (by decide) ?_
          exact ih (by omega) _ _ _ hP hD hS (fun j g1 g2 => by
            rcases Nat.lt_or_ge p0 j with g3 | g3
            · exact h3 j g3 g2
            · obtain rfl : j = p0 := by omega
              rw [← hg]; exact c_3) (fun j g1 => by rw [vu_other (by omega)]; exact h4 j (by omega)) (fun j g1 g2 => by
            by_cases g3 : j = p0 + 1
            · subst g3; rw [vu_same, hg]; rfl
            · rw [vu_other g3]; exact h5 j (by omega) g2) ls (lv_sub hl [1, 2, 0] rfl)
  exact loop i0 (Nat.le_refl i0) _ _ _ hP hD hS (fun j g1 g2 => absurd g2 (by omega)) (fun j _ => rfl) (fun j g1 g2 => absurd g2 (by omega)) ls (lv_sub hl [1, 2, 0] rfl)
end
section
theorem qm_seen {g k : Nat → Nat} {r n : Nat} (hr : r < n) (hg : ∀ x, x < 8 → g x = qc_oc k x (r + 1) n) (hk : k r < 8) : ∀ x, x < 8 → vu g (k r) (g (k r) + 1) x = qc_oc k x r n := by
  intro x hx
  rw [qc_oc_down k x r n hr]
  by_cases h : x = k r
  · subst h; rw [vu_same, if_pos rfl, hg _ hx]
  · rw [vu_other h, if_neg (fun q => h q.symm), hg x hx]; rfl
theorem yt_out {x : Int32} (h0 : ¬ x = 0) (h1 : ¬ x = 1) (h2 : ¬ x = 2) (h3 : ¬ x = 3) (h4 : ¬ x = 4) : x.toInt < 0 ∨ 4 < x.toInt := by
  have k : ∀ c : Int32, ¬ x = c → ¬ x.toInt = c.toInt := fun c h q => h (Int32.toInt_inj.mp q)
  have k0 := k 0 h0
  have k1 := k 1 h1
  have k2 := k 2 h2
  have k3 := k 3 h3
  have k4 := k 4 h4
  have e0 : (0 : Int32).toInt = 0 := by decide
  have e1 : (1 : Int32).toInt = 1 := by decide
  have e2 : (2 : Int32).toInt = 2 := by decide
  have e3 : (3 : Int32).toInt = 3 := by decide
  have e4 : (4 : Int32).toInt = 4 := by decide
  omega
/-! Arrays.fill(int[], int) -/
theorem fl_upd (f : Nat → Int32) (i : Nat) (x : Int32) : upd (fun j => if j < i then x else f j) i x = fun j => if j < i + 1 then x else f j := by
  funext j
  by_cases h : j = i
  · subst h; rw [pk_us, if_pos (Nat.lt_succ_self j)]
  · rw [pk_un h]
    by_cases g : j < i
    · rw [if_pos g, if_pos (by omega)]
    · rw [if_neg g, if_neg (by omega)]
set_option maxHeartbeats 4000000 in
set_option maxRecDepth 100000 in
theorem c_fill (l : Launch) (dC : Nat → ClassId) (dI : Nat → Nat → Nat) (cA : ClassId) (q0 sz N : Nat) (f : Nat → Int32) (hN : N < 2 ^ 31) (x : Int32) : Met l yJ_fill wsJ_fill ({ frames := 0, cells := 0, slots := 0, locals := 0 }) (va_Pc [.ref q0, .int x] (fun U => U.heap.size = sz ∧ va_P (dC, dI) vwCl [(q0, .inl (cA, N, .inl f))] U.heap ∧ va_K (dC, dI) vwCl [(cA, .int)] U ∧ va_D (fun _ => True) [(q0, .inl (cA, N, .inl f))])) (va_Qv (fun u : Nat → Int32 => u = fun j => if j < N then x else f j) (fun u t => va_P (dC, dI) vwCl [(q0, .inl (cA, N, .inl u))] t.heap ∧ va_K (dC, dI) vwCl [(cA, .int)] t ∧ va_D (va_A [(q0, .inl (cA, N, .inl f))] sz) [(q0, .inl (cA, N, .inl u))]) (va_A [(q0, .inl (cA, N, .inl f))] sz)) 0 0 (va_A [(q0, .inl (cA, N, .inl f))] sz) := by
  refine Met.ofW (cc := cJ_fill) (maxL := 4) (ret := none) (by decide) rfl ?_
  intro p e s m args below meth c s₁ B hml hv
  obtain ⟨rfl, hsz, hP, hK, hD0⟩ := hv
  have hx := B.exec
  have hb := B.bytes
  have hr := B.returns
  have hlocks := B.notSynchronized
  subst hsz
  have hD := hD0.self (sz := s.heap.size)
  generalize hAe : va_A [(q0, .inl (cA, N, .inl f))] s.heap.size = A at hD ⊢
  have hS : va_S A s.heap s.heap [] := va_S.rf
  have hl := lv_entry ([.ref q0, .int x]) (n := 4) (Nat.le_of_ble_eq_true rfl)
  rw [lg_entry_eq]
  generalize (lg_sl ([.ref q0, .int x]) ++ List.replicate (4 - (lg_sl ([.ref q0, .int x])).length) Slot.unset).toArray = ls at hl ⊢
  have hl : lv_has ls 4 [(0, .ref q0), (1, .int x)] := hl
  refine lv_iconst (v := 0) hx hb dJ_fill_0 (by decide) ?_
  refine lv_istore_n (lv' := [(2, .int 0), (0, .ref q0), (1, .int x)]) hx hb dJ_fill_1 rfl hl (by decide) rfl (fun ls hl => ?_)
  refine lv_aload_n hx hb dJ_fill_2 rfl (lv_at hl 1 rfl) ?_
  refine va_alen (v := nI N) hx hb hK hP 0 0 rfl rfl rfl dJ_fill_3 ?_
  refine lv_istore_n (lv' := [(3, .int (nI N)), (2, .int 0), (0, .ref q0), (1, .int x)]) hx hb dJ_fill_4 rfl hl (by decide) rfl (fun ls hl => ?_)
  have loop : ∀ (d i : Nat), i ≤ N → N + 1 ≤ i + d → ∀ (H : Heap) (locs : List Loc), va_P (dC, dI) vwCl [(q0, .inl (cA, N, .inl (fun j => if j < i then x else f j)))] H → va_D A [(q0, .inl (cA, N, .inl (fun j => if j < i then x else f j)))] → va_S A s.heap H locs → ∀ (ls : Array Slot), lv_has ls 4 [(0, .ref q0), (1, .int x), (2, .int (nI i)), (3, .int (nI N))] → W p l e (headSpec wsJ_fill ({ frames := 0, cells := 0, slots := 0, locals := 0 })).room s m ([.ref q0, .int x] : List Value).toArray below meth c H locs 0 0 (MQ below (va_Qv (fun u : Nat → Int32 => u = fun j => if j < N then x else f j) (fun u t => va_P (dC, dI) vwCl [(q0, .inl (cA, N, .inl u))] t.heap ∧ va_K (dC, dI) vwCl [(cA, .int)] t ∧ va_D A [(q0, .inl (cA, N, .inl u))]) A) ([.ref q0, .int x] : List Value).toArray s 0 0 A) (F0 m 5 ls []) := by
    intro d
    induction d with
    | zero =>
      intro i hi hd
      exact absurd hd (by omega)
    | succ d ih =>
      intro i hi hd H locs hP hD hS ls hl
      refine lv_iload_n hx hb dJ_fill_5 rfl (lv_at hl 2 rfl) ?_
      refine lv_iload_n hx hb dJ_fill_6 rfl (lv_at hl 3 rfl) ?_
      refine yb_ge (tgt := 20) (by omega) hN hx hb dJ_fill_7 (by decide) (fun c_1 => ?_) (fun c_1 => ?_)
      · obtain rfl : i = N := by omega
        exact W.vret hx hb hr (fun t9 ht hW => ⟨⟨_, rfl, rfl, by rw [ht]; exact hP, va_K.moved hW.alike hK, hD⟩, hS.F ht⟩) hS.2.2 dJ_fill_20
      · refine lv_aload_n hx hb dJ_fill_10 rfl (lv_at hl 0 rfl) ?_
        refine lv_iload_n hx hb dJ_fill_11 rfl (lv_at hl 2 rfl) ?_
        refine lv_iload_n hx hb dJ_fill_12 rfl (lv_at hl 1 rfl) ?_
        refine ya_iast hx hb hK hP hD hS 0 0 rfl rfl (j := i) c_1 hN dJ_fill_13 (fun H locs hP hD hS => ?_)
        rw [fl_upd] at hP hD
        refine lv_iinc (v := nI (i + 1)) (lv' := [(2, .int (nI (i + 1))), (0, .ref q0), (1, .int x), (3, .int (nI N))]) hx hb dJ_fill_14 hl (k := 2) rfl (yn_inc _) (by decide) rfl (fun ls hl => ?_)
        refine lv_goto (tgt := 5) hx hb dJ_fill_17 (by decide) ?_
        exact ih (i + 1) c_1 (by omega) _ _ hP hD hS ls (lv_sub hl [1, 2, 0, 3] rfl)
  have e0 : (fun j => if j < 0 then x else f j) = f := by funext j; rw [if_neg (Nat.not_lt_zero j)]
  exact loop (N + 1) 0 (Nat.zero_le N) (by omega) _ _ (by rw [e0]; exact hP) (by rw [e0]; exact hD) hS ls (lv_sub hl [2, 3, 1, 0] rfl)
set_option maxRecDepth 100000 in
set_option maxHeartbeats 4000000 in
/-- markKeys(n) -/
theorem c_markKeys (l : Launch) (dC : Nat → ClassId) (dI : Nat → Nat → Nat) (ca : Nat → ClassId) (ad : Nat → Nat) (sz : Nat) (t : Nat → Int32) (k : Nat → Nat) (v : Nat → Int32) (b : Nat → Nat) (n : Nat) (kd : Nat → Int32) (ln : Nat → Int32) (w : Nat) (nw : Int32) (ins : Nat → Int32) (sn : Nat → Nat) (p1 : Int32) (hn : n ≤ 300) (hk8 : ∀ j, j < n → k j < 8) : Met l yX0_markKeys wsX0_markKeys ({ frames := 1, cells := 0, slots := 0, locals := 23 }) (va_Pc [.ref (ad 0), .int p1] (wmPre dC dI ca ad sz t k v b n kd ln w nw ins sn)) (va_Qv (fun u : (Nat → Int32) × (Nat → Nat) => ∀ j, j < n → qc_mk (u.1 j) (nI (qc_oc k (k j) (j + 1) n) < p1)) (fun u t9 => wmAt dC dI ca ad (va_A (wm ca ad t k v b n kd ln w nw ins sn) sz) t k v b n kd ln w nw u.1 u.2 t9) (va_A (wm ca ad t k v b n kd ln w nw ins sn) sz)) 0 0 (va_A (wm ca ad t k v b n kd ln w nw ins sn) sz) := by
  refine Met.ofW (cc := cX0_markKeys) (maxL := 4) (ret := none) (by decide) rfl ?_
  intro p e s m args below meth c s₁ B hml hv
  obtain ⟨rfl, hsz, hP, hK, hD0⟩ := hv
  have hx := B.exec
  have hb := B.bytes
  have hr := B.returns
  have hts := atoms_spec (ws := wsX0_markKeys) B.pre
  have hown : s.vm.findClass RX0 = some m.cls := findClass_of_methodNamed B.named
  have hlocks := B.notSynchronized
  subst hsz
  have hin0 : ∀ w ∈ u_ws RX0 TX0 11, w ∈ wsX0_markKeys := fun w h => List.mem_cons_of_mem _ (wiX0 w h)
  have fl_13 := hts _ (List.mem_cons_of_mem _ flX0_13)
  have fl_28 := hts _ (List.mem_cons_of_mem _ flX0_28)
  have fl_32 := hts _ (List.mem_cons_of_mem _ flX0_32)
  have fl_35 := hts _ (List.mem_cons_of_mem _ flX0_35)
  have hD := hD0.self (sz := s.heap.size)
  generalize hAe : va_A (wm ca ad t k v b n kd ln w nw ins sn) s.heap.size = A at hD ⊢
  have hA : ∀ q : Nat, s.heap.size ≤ q → A q := fun q h => by rw [← hAe]; exact Or.inr h
  have hS : va_S A s.heap s.heap [] := va_S.rf
  have hl := lv_entry ([.ref (ad 0), .int p1]) (n := 4) (Nat.le_of_ble_eq_true rfl)
  rw [lg_entry_eq]
  generalize (lg_sl ([.ref (ad 0), .int p1]) ++ List.replicate (4 - (lg_sl ([.ref (ad 0), .int p1])).length) Slot.unset).toArray = ls at hl ⊢
  have hl : lv_has ls 4 [(0, .ref (ad 0)), (1, .int p1)] := hl
  refine lv_aload_n hx hb dX0_markKeys_0 rfl (lv_at hl 0 rfl) ?_
  refine va_get (D := (dC, dI)) (ci := 0) (v := .ref (ad 8)) (C := RX0) (T := TX0) (N := 11) hx hb hts hin0 hown hK hP 0 rfl rfl 10 (by decide) fl_32 (fun _ h9 => h9) rfl dX0_markKeys_1 ?_
  refine lv_iconst (v := 0) hx hb dX0_markKeys_4 (by decide) ?_
  have hPc := hP.sub (ws' := [(ad 8, .inl (ca 8, 8, .inl (fun j => nI (sn j))))]) [8] rfl
  have hDc := hD.sub (ws' := [(ad 8, .inl (ca 8, 8, .inl (fun j => nI (sn j))))]) [8] (by decide) rfl
  have hKc := hK.sub (tys' := [(ca 8, .int)]) [7] rfl
  have hFc := va_free (wc := [(ad 8, .inl (ca 8, 8, .inl (fun j => nI (sn j))))]) hD hS hA [8] rfl
  refine va_callv (va_runS (As := [.ref (ad 8), .int 0]) (rest := []) ⟨hx, hb, hml, hown, hts⟩ (c_fill l dC dI (ca 8) (ad 8) s.heap.size 8 (fun j => nI (sn j)) (by decide) 0) (va_cwS 2 hts (gg_S mlX0_130 stJ_fill in_java_util_Arrays kwJ_fill) rfl rfl rfl (by decide +kernel) ⟨Nat.le_of_ble_eq_true rfl, Nat.le_of_ble_eq_true rfl⟩) ⟨fun a U g mk q => by obtain ⟨q0, q1, qP, qK, qD⟩ := q; exact ⟨q0, q1, qP, va_K.moved (u := U) (U := U.calling g mk a) (Vm.Alike.refl U.vm) qK, qD⟩, fun U hU hW => ⟨rfl, by rw [hU], by rw [hU]; exact hPc, va_K.moved hW.alike hKc, hDc.weaken (fun _ _ _ _ => trivial)⟩⟩ rfl rfl hl.1 rfl (lv_room (Nat.le_of_ble_eq_true rfl)) dX0_markKeys_5 ⟨Nat.zero_le _, Nat.zero_le _⟩) hS (fun q _ h => hFc q h) hFc (fun u t9 H1 locs ht9 hvm hw hB hz1 hk1 hS => ?_)
  subst hw
  obtain ⟨hP1, -, hD1⟩ := hB
  rw [ht9] at hP1
  obtain ⟨hP, hD⟩ := va_join (wr := List.take 8 (wm ca ad t k v b n kd ln w nw ins sn)) hP hD [8] [0, 1, 2, 3, 4, 5, 6, 7] rfl rfl (by decide) (by decide) hk1 hFc hP1 hD1
  have e9 : (fun j => if j < 8 then (0 : Int32) else (fun j => nI (sn j)) j) = fun j => nI ((fun j => if j < 8 then 0 else sn j) j) := by
    funext j
    by_cases h : j < 8
    · simp only [h, if_true]; rfl
    · simp only [h, if_false]
  rw [e9] at hP hD
  generalize H1 = H at hP hS ⊢
  have hP : va_P (dC, dI) vwCl (wm ca ad t k v b n kd ln w nw ins (fun j => if j < 8 then 0 else sn j)) H := hP
  have hD : va_D A (wm ca ad t k v b n kd ln w nw ins (fun j => if j < 8 then 0 else sn j)) := hD
  refine lv_aload_n hx hb dX0_markKeys_8 rfl (lv_at hl 0 rfl) ?_
  refine va_get (D := (dC, dI)) (ci := 0) (v := .int (nI n)) (C := RX0) (T := TX0) (N := 11) hx hb hts hin0 hown hK hP 0 rfl rfl 4 (by decide) fl_35 (fun _ h9 => h9) rfl dX0_markKeys_9 ?_
  refine lv_iconst (v := 1) hx hb dX0_markKeys_12 (by decide) ?_
  refine lv_isub hx hb dX0_markKeys_13 ?_
  refine lv_istore_n (lv' := [(2, .int ((nI n) - 1)), (0, .ref (ad 0)), (1, .int p1)]) hx hb dX0_markKeys_14 rfl hl (by decide) rfl (fun ls hl => ?_)
  have loop : ∀ (r : Nat), r ≤ n → ∀ (f : Nat → Int32) (g : Nat → Nat) (H : Heap) (locs : List Loc), va_P (dC, dI) vwCl (wm ca ad t k v b n kd ln w nw f g) H → va_D A (wm ca ad t k v b n kd ln w nw f g) → va_S A s.heap H locs → (∀ j, r ≤ j → j < n → qc_mk (f j) (nI (qc_oc k (k j) (j + 1) n) < p1)) → (∀ x, x < 8 → g x = qc_oc k x r n) → ∀ (ls : Array Slot), lv_has ls 4 [(0, .ref (ad 0)), (1, .int p1), (2, .int (nI r - 1))] → W p l e (headSpec wsX0_markKeys ({ frames := 1, cells := 0, slots := 0, locals := 23 })).room s m ([.ref (ad 0), .int p1] : List Value).toArray below meth c H locs 0 0 (MQ below (va_Qv (fun u : (Nat → Int32) × (Nat → Nat) => ∀ j, j < n → qc_mk (u.1 j) (nI (qc_oc k (k j) (j + 1) n) < p1)) (fun u t9 => wmAt dC dI ca ad A t k v b n kd ln w nw u.1 u.2 t9) A) ([.ref (ad 0), .int p1] : List Value).toArray s 0 0 A) (F0 m 15 ls []) := by
    intro r
    induction r with
    | zero =>
      intro hi f g H locs hP hD hS hf hg ls hl
      refine lv_iload_n hx hb dX0_markKeys_15 rfl (lv_at hl 2 rfl) ?_
      refine lv_if_lt (tgt := 63) hx hb dX0_markKeys_16 (by decide) (fun c_1 => ?_) (fun c_1 => ?_)
      · exact W.vret hx hb hr (fun t9 ht hW => ⟨⟨(f, g), rfl, fun j hj => hf j (Nat.zero_le j) hj, by rw [ht]; exact hP, va_K.moved hW.alike hK, hD⟩, hS.F ht⟩) hS.2.2 dX0_markKeys_63
      · exact absurd (by decide) c_1
    | succ r ih =>
      intro hi f g H locs hP hD hS hf hg ls hl
      rw [nI_pred] at hl
      refine lv_iload_n hx hb dX0_markKeys_15 rfl (lv_at hl 2 rfl) ?_
      refine lv_if_lt (tgt := 63) hx hb dX0_markKeys_16 (by decide) (fun c_2 => ?_) (fun c_2 => ?_)
      · exact absurd c_2 (nI_pos (by omega))
      · have hkr : k r < 8 := hk8 r (by omega)
        refine lv_aload_n hx hb dX0_markKeys_19 rfl (lv_at hl 0 rfl) ?_
        refine va_get (D := (dC, dI)) (ci := 0) (v := .ref (ad 2)) (C := RX0) (T := TX0) (N := 11) hx hb hts hin0 hown hK hP 0 rfl rfl 1 (by decide) fl_13 (fun _ h9 => h9) rfl dX0_markKeys_20 ?_
        refine lv_iload_n hx hb dX0_markKeys_23 rfl (lv_at hl 2 rfl) ?_
        refine ya_iald hx hb hK hP 2 1 rfl rfl (j := r) (by omega) (by decide) dX0_markKeys_24 ?_
        refine lv_istore_n (lv' := [(3, .int (nI (k r))), (0, .ref (ad 0)), (1, .int p1), (2, .int (nI r))]) hx hb dX0_markKeys_25 rfl hl (by decide) rfl (fun ls hl => ?_)
        refine lv_aload_n hx hb dX0_markKeys_26 rfl (lv_at hl 1 rfl) ?_
        refine va_get (D := (dC, dI)) (ci := 0) (v := .ref (ad 7)) (C := RX0) (T := TX0) (N := 11) hx hb hts hin0 hown hK hP 0 rfl rfl 9 (by decide) fl_28 (fun _ h9 => h9) rfl dX0_markKeys_27 ?_
        refine lv_iload_n hx hb dX0_markKeys_30 rfl (lv_at hl 3 rfl) ?_
        refine lv_aload_n hx hb dX0_markKeys_31 rfl (lv_at hl 1 rfl) ?_
        refine va_get (D := (dC, dI)) (ci := 0) (v := .ref (ad 8)) (C := RX0) (T := TX0) (N := 11) hx hb hts hin0 hown hK hP 0 rfl rfl 10 (by decide) fl_32 (fun _ h9 => h9) rfl dX0_markKeys_32 ?_
        refine lv_iload_n hx hb dX0_markKeys_35 rfl (lv_at hl 0 rfl) ?_
        refine ya_iald hx hb hK hP 8 7 rfl rfl (j := (k r)) hkr (by decide) dX0_markKeys_36 ?_
        refine lv_iload_n hx hb dX0_markKeys_37 rfl (lv_at hl 2 rfl) ?_
        refine lv_icmp_ge (tgt := 45) hx hb dX0_markKeys_38 (by decide) (fun c_3 => ?_) (fun c_3 => ?_)
        · have hmk : qc_mk 0 (nI (qc_oc k (k r) (r + 1) n) < p1) := qc_mk0 (by rw [← hg (k r) hkr]; exact Int32.not_lt.mpr c_3)
          refine lv_iconst (v := 0) hx hb dX0_markKeys_45 (by decide) ?_
          refine ya_zast hx hb hK hP hD hS 7 6 rfl rfl (j := r) (by omega) (by decide) yn_z0 dX0_markKeys_46 (fun H locs hP hD hS => ?_)
          have hP : va_P (dC, dI) vwCl (wm ca ad t k v b n kd ln w nw (upd f r 0) g) H := hP
          have hD : va_D A (wm ca ad t k v b n kd ln w nw (upd f r 0) g) := hD
          refine lv_aload_n hx hb dX0_markKeys_47 rfl (lv_at hl 1 rfl) ?_
          refine va_get (D := (dC, dI)) (ci := 0) (v := .ref (ad 8)) (C := RX0) (T := TX0) (N := 11) hx hb hts hin0 hown hK hP 0 rfl rfl 10 (by decide) fl_32 (fun _ h9 => h9) rfl dX0_markKeys_48 ?_
          refine lv_iload_n hx hb dX0_markKeys_51 rfl (lv_at hl 0 rfl) ?_
          refine lv_dup2_11 hx hb dX0_markKeys_52 rfl rfl ?_
          refine ya_iald hx hb hK hP 8 7 rfl rfl (j := (k r)) hkr (by decide) dX0_markKeys_53 ?_
          refine lv_iconst (v := 1) hx hb dX0_markKeys_54 (by decide) ?_
          refine lv_iadd hx hb dX0_markKeys_55 ?_
          rw [nI_1 (g (k r))]
          refine ya_iast hx hb hK hP hD hS 8 7 rfl rfl (j := (k r)) hkr (by decide) dX0_markKeys_56 (fun H locs hP hD hS => ?_)
          rw [vu_upd] at hP hD
          have hD : va_D A (wm ca ad t k v b n kd ln w nw (upd f r 0) (vu g (k r) (g (k r) + 1))) := hD
          have hP : va_P (dC, dI) vwCl (wm ca ad t k v b n kd ln w nw (upd f r 0) (vu g (k r) (g (k r) + 1))) H := hP
          refine lv_iinc (v := (nI r - 1)) (lv' := [(2, .int (nI r - 1)), (3, .int (nI (k r))), (0, .ref (ad 0)), (1, .int p1)]) hx hb dX0_markKeys_57 hl (k := 3) rfl (yn_dm _) (by decide) rfl (fun ls hl => ?_)
          refine lv_goto (tgt := 15) hx hb dX0_markKeys_60 (by decide) ?_
          exact ih (by omega) _ _ _ _ hP hD hS (qm_down (P := fun j => nI (qc_oc k (k j) (j + 1) n) < p1) hf hmk) (qm_seen (by omega) hg hkr) ls (lv_sub hl [2, 3, 0] rfl)
        · have hmk : qc_mk 1 (nI (qc_oc k (k r) (r + 1) n) < p1) := qc_mk1 (by rw [← hg (k r) hkr]; exact Int32.not_le.mp c_3)
          refine lv_iconst (v := 1) hx hb dX0_markKeys_41 (by decide) ?_
          refine lv_goto (tgt := 46) hx hb dX0_markKeys_42 (by decide) ?_
          refine ya_zast hx hb hK hP hD hS 7 6 rfl rfl (j := r) (by omega) (by decide) yn_z1 dX0_markKeys_46 (fun H locs hP hD hS => ?_)
          have hP : va_P (dC, dI) vwCl (wm ca ad t k v b n kd ln w nw (upd f r 1) g) H := hP
          have hD : va_D A (wm ca ad t k v b n kd ln w nw (upd f r 1) g) := hD
          refine lv_aload_n hx hb dX0_markKeys_47 rfl (lv_at hl 1 rfl) ?_
          refine va_get (D := (dC, dI)) (ci := 0) (v := .ref (ad 8)) (C := RX0) (T := TX0) (N := 11) hx hb hts hin0 hown hK hP 0 rfl rfl 10 (by decide) fl_32 (fun _ h9 => h9) rfl dX0_markKeys_48 ?_
          refine lv_iload_n hx hb dX0_markKeys_51 rfl (lv_at hl 0 rfl) ?_
          refine lv_dup2_11 hx hb dX0_markKeys_52 rfl rfl ?_
          refine ya_iald hx hb hK hP 8 7 rfl rfl (j := (k r)) hkr (by decide) dX0_markKeys_53 ?_
          refine lv_iconst (v := 1) hx hb dX0_markKeys_54 (by decide) ?_
          refine lv_iadd hx hb dX0_markKeys_55 ?_
          rw [nI_1 (g (k r))]
          refine ya_iast hx hb hK hP hD hS 8 7 rfl rfl (j := (k r)) hkr (by decide) dX0_markKeys_56 (fun H locs hP hD hS => ?_)
          rw [vu_upd] at hP hD
          have hD : va_D A (wm ca ad t k v b n kd ln w nw (upd f r 1) (vu g (k r) (g (k r) + 1))) := hD
          have hP : va_P (dC, dI) vwCl (wm ca ad t k v b n kd ln w nw (upd f r 1) (vu g (k r) (g (k r) + 1))) H := hP
          refine lv_iinc (v := (nI r - 1)) (lv' := [(2, .int (nI r - 1)), (3, .int (nI (k r))), (0, .ref (ad 0)), (1, .int p1)]) hx hb dX0_markKeys_57 hl (k := 3) rfl (yn_dm _) (by decide) rfl (fun ls hl => ?_)
          refine lv_goto (tgt := 15) hx hb dX0_markKeys_60 (by decide) ?_
          exact ih (by omega) _ _ _ _ hP hD hS (qm_down (P := fun j => nI (qc_oc k (k j) (j + 1) n) < p1) hf hmk) (qm_seen (by omega) hg hkr) ls (lv_sub hl [2, 3, 0] rfl)
  exact loop n (Nat.le_refl n) _ _ _ _ hP hD hS (fun j g1 g2 => absurd g2 (by omega)) (fun x hx8 => by rw [if_pos hx8, qc_oc_none k x n n (Nat.le_refl n)]) ls (lv_sub hl [1, 2, 0] rfl)

set_option maxRecDepth 100000 in
set_option maxHeartbeats 4000000 in
/-- markInside(w) -/
theorem c_markInside (l : Launch) (dC : Nat → ClassId) (dI : Nat → Nat → Nat) (ca : Nat → ClassId) (ad : Nat → Nat) (sz : Nat) (t : Nat → Int32) (k : Nat → Nat) (v : Nat → Int32) (b : Nat → Nat) (n : Nat) (kd : Nat → Int32) (ln : Nat → Int32) (w : Nat) (nw : Int32) (ins : Nat → Int32) (sn : Nat → Nat) (wi : Nat) (hn : n ≤ 300) (hk8 : ∀ j, j < n → k j < 8) (hwi : wi < 6) : Met l yX0_markInside wsX0_markInside ({ frames := 2, cells := 0, slots := 0, locals := 46 }) (va_Pc [.ref (ad 0), .int (nI wi)] (wmPre dC dI ca ad sz t k v b n kd ln w nw ins sn)) (va_Qv (fun u : (Nat → Int32) × (Nat → Nat) => ∀ j, j < n → qc_mk (u.1 j) (qc_in t k n nw (kd wi) (ln wi) j)) (fun u t9 => wmAt dC dI ca ad (va_A (wm ca ad t k v b n kd ln w nw ins sn) sz) t k v b n kd ln w nw u.1 u.2 t9) (va_A (wm ca ad t k v b n kd ln w nw ins sn) sz)) 0 0 (va_A (wm ca ad t k v b n kd ln w nw ins sn) sz) := by
  refine Met.ofW (cc := cX0_markInside) (maxL := 3) (ret := none) (by decide) rfl ?_
  intro p e s m args below meth c s₁ B hml hv
  obtain ⟨rfl, hsz, hP, hK, hD0⟩ := hv
  have hx := B.exec
  have hb := B.bytes
  have hr := B.returns
  have hts := atoms_spec (ws := wsX0_markInside) B.pre
  have hown : s.vm.findClass RX0 = some m.cls := findClass_of_methodNamed B.named
  have hlocks := B.notSynchronized
  subst hsz
  have hin0 : ∀ w ∈ u_ws RX0 TX0 11, w ∈ wsX0_markInside := fun w h => List.mem_cons_of_mem _ (wiX0 w h)
  have fl_22 := hts _ (List.mem_cons_of_mem _ flX0_22)
  have fl_25 := hts _ (List.mem_cons_of_mem _ flX0_25)
  have hD := hD0.self (sz := s.heap.size)
  generalize hAe : va_A (wm ca ad t k v b n kd ln w nw ins sn) s.heap.size = A at hD ⊢
  have hA : ∀ q : Nat, s.heap.size ≤ q → A q := fun q h => by rw [← hAe]; exact Or.inr h
  have hS : va_S A s.heap s.heap [] := va_S.rf
  have hl := lv_entry ([.ref (ad 0), .int (nI wi)]) (n := 3) (Nat.le_of_ble_eq_true rfl)
  rw [lg_entry_eq]
  generalize (lg_sl ([.ref (ad 0), .int (nI wi)]) ++ List.replicate (3 - (lg_sl ([.ref (ad 0), .int (nI wi)])).length) Slot.unset).toArray = ls at hl ⊢
  have hl : lv_has ls 3 [(0, .ref (ad 0)), (1, .int (nI wi))] := hl
  refine lv_aload_n hx hb dX0_markInside_0 rfl (lv_at hl 0 rfl) ?_
  refine va_get (D := (dC, dI)) (ci := 0) (v := .ref (ad 6)) (C := RX0) (T := TX0) (N := 11) hx hb hts hin0 hown hK hP 0 rfl rfl 6 (by decide) fl_25 (fun _ h9 => h9) rfl dX0_markInside_1 ?_
  refine lv_iload_n hx hb dX0_markInside_4 rfl (lv_at hl 1 rfl) ?_
  refine ya_iald hx hb hK hP 6 5 rfl rfl (j := wi) hwi (by decide) dX0_markInside_5 ?_
  refine lv_istore_n (lv' := [(2, .int (ln wi)), (0, .ref (ad 0)), (1, .int (nI wi))]) hx hb dX0_markInside_6 rfl hl (by decide) rfl (fun ls hl => ?_)
  refine lv_aload_n hx hb dX0_markInside_7 rfl (lv_at hl 1 rfl) ?_
  refine va_get (D := (dC, dI)) (ci := 0) (v := .ref (ad 5)) (C := RX0) (T := TX0) (N := 11) hx hb hts hin0 hown hK hP 0 rfl rfl 5 (by decide) fl_22 (fun _ h9 => h9) rfl dX0_markInside_8 ?_
  refine lv_iload_n hx hb dX0_markInside_11 rfl (lv_at hl 2 rfl) ?_
  refine ya_iald hx hb hK hP 5 4 rfl rfl (j := wi) hwi (by decide) dX0_markInside_12 ?_
  by_cases h0 : kd wi = 0
  · refine lv_tableIn (off := 35) (tgt := 48) hx hb dX0_markInside_13 (by rw [h0]; decide) (by rw [h0]; decide) (by rw [h0]; decide) (by decide) ?_
    refine lv_aload_n hx hb dX0_markInside_48 rfl (lv_at hl 1 rfl) ?_
    refine lv_iload_n hx hb dX0_markInside_49 rfl (lv_at hl 0 rfl) ?_
    have hFc := va_free (wc := wm ca ad t k v b n kd ln w nw ins sn) hD hS hA [0, 1, 2, 3, 4, 5, 6, 7, 8] rfl
    refine va_callv (va_runV (As := [.int (ln wi)]) (rest := []) ⟨hx, hb, hml, hown, hts⟩ (c_markRange l dC dI ca ad _ t k v b n kd ln w nw ins sn  (ln wi) hn) (cwV 1 hts (gg_V mlX0_112 imX0_markRange seX0_markRange in_WindowMeters kwX0_markRange) rfl rfl rfl (by decide +kernel) ⟨Nat.le_of_ble_eq_true rfl, Nat.le_of_ble_eq_true rfl⟩) (wm_preV hK hP hD [.int (ln wi)]) rfl rfl hl.1 rfl (lv_room (Nat.le_of_ble_eq_true rfl)) dX0_markInside_50 ⟨Nat.le_of_ble_eq_true rfl, Nat.le_of_ble_eq_true rfl⟩) hS (fun q _ h => hFc q h) hFc (fun u9 t9 H1 locs ht9 hvm hw_1 hB hz1 hk1 hS => ?_)
    obtain ⟨hP, -, hD1⟩ := hB
    rw [ht9] at hP
    have hD := hD1.weaken (fun k q hk h => hFc q.1 h)
    generalize H1 = H at hP hS ⊢
    have hP : va_P (dC, dI) vwCl (wm ca ad t k v b n kd ln w nw u9 sn) H := hP
    have hD : va_D A (wm ca ad t k v b n kd ln w nw u9 sn) := hD
    refine lv_goto (tgt := 93) hx hb dX0_markInside_53 (by decide) ?_
    exact W.vret hx hb hr (fun t9 ht hW => ⟨⟨(u9, sn), rfl, fun j hj => by rw [qc_in, if_pos h0]; exact hw_1 j hj, by rw [ht]; exact hP, va_K.moved hW.alike hK, hD⟩, hS.F ht⟩) hS.2.2 dX0_markInside_93
  · skip
    by_cases h1 : kd wi = 1
    · refine lv_tableIn (off := 43) (tgt := 56) hx hb dX0_markInside_13 (by rw [h1]; decide) (by rw [h1]; decide) (by rw [h1]; decide) (by decide) ?_
      refine lv_aload_n hx hb dX0_markInside_56 rfl (lv_at hl 1 rfl) ?_
      refine lv_iload_n hx hb dX0_markInside_57 rfl (lv_at hl 0 rfl) ?_
      have hFc := va_free (wc := wm ca ad t k v b n kd ln w nw ins sn) hD hS hA [0, 1, 2, 3, 4, 5, 6, 7, 8] rfl
      refine va_callv (va_runV (As := [.int (ln wi)]) (rest := []) ⟨hx, hb, hml, hown, hts⟩ (c_markRows l dC dI ca ad _ t k v b n kd ln w nw ins sn  (ln wi) hn) (cwV 1 hts (gg_V mlX0_115 imX0_markRows seX0_markRows in_WindowMeters kwX0_markRows) rfl rfl rfl (by decide +kernel) ⟨Nat.le_of_ble_eq_true rfl, Nat.le_of_ble_eq_true rfl⟩) (wm_preV hK hP hD [.int (ln wi)]) rfl rfl hl.1 rfl (lv_room (Nat.le_of_ble_eq_true rfl)) dX0_markInside_58 ⟨Nat.le_of_ble_eq_true rfl, Nat.le_of_ble_eq_true rfl⟩) hS (fun q _ h => hFc q h) hFc (fun u9 t9 H1 locs ht9 hvm hw_2 hB hz1 hk1 hS => ?_)
      obtain ⟨hP, -, hD1⟩ := hB
      rw [ht9] at hP
      have hD := hD1.weaken (fun k q hk h => hFc q.1 h)
      generalize H1 = H at hP hS ⊢
      have hP : va_P (dC, dI) vwCl (wm ca ad t k v b n kd ln w nw u9 sn) H := hP
      have hD : va_D A (wm ca ad t k v b n kd ln w nw u9 sn) := hD
      refine lv_goto (tgt := 93) hx hb dX0_markInside_61 (by decide) ?_
      exact W.vret hx hb hr (fun t9 ht hW => ⟨⟨(u9, sn), rfl, fun j hj => by rw [qc_in, if_neg h0, if_pos h1]; exact hw_2 j hj, by rw [ht]; exact hP, va_K.moved hW.alike hK, hD⟩, hS.F ht⟩) hS.2.2 dX0_markInside_93
    · skip
      by_cases h2 : kd wi = 2
      · refine lv_tableIn (off := 51) (tgt := 64) hx hb dX0_markInside_13 (by rw [h2]; decide) (by rw [h2]; decide) (by rw [h2]; decide) (by decide) ?_
        refine lv_aload_n hx hb dX0_markInside_64 rfl (lv_at hl 1 rfl) ?_
        refine lv_iload_n hx hb dX0_markInside_65 rfl (lv_at hl 0 rfl) ?_
        have hFc := va_free (wc := wm ca ad t k v b n kd ln w nw ins sn) hD hS hA [0, 1, 2, 3, 4, 5, 6, 7, 8] rfl
        refine va_callv (va_runV (As := [.int (ln wi)]) (rest := []) ⟨hx, hb, hml, hown, hts⟩ (c_markKeys l dC dI ca ad _ t k v b n kd ln w nw ins sn  (ln wi) hn hk8) (cwV 1 hts (gg_V mlX0_118 imX0_markKeys seX0_markKeys in_WindowMeters kwX0_markKeys) rfl rfl rfl (by decide +kernel) ⟨Nat.le_of_ble_eq_true rfl, Nat.le_of_ble_eq_true rfl⟩) (wm_preV hK hP hD [.int (ln wi)]) rfl rfl hl.1 rfl (lv_room (Nat.le_of_ble_eq_true rfl)) dX0_markInside_66 ⟨Nat.le_of_ble_eq_true rfl, Nat.le_of_ble_eq_true rfl⟩) hS (fun q _ h => hFc q h) hFc (fun u9 t9 H1 locs ht9 hvm hw_3 hB hz1 hk1 hS => ?_)
        obtain ⟨hP, -, hD1⟩ := hB
        rw [ht9] at hP
        have hD := hD1.weaken (fun k q hk h => hFc q.1 h)
        generalize H1 = H at hP hS ⊢
        have hP : va_P (dC, dI) vwCl (wm ca ad t k v b n kd ln w nw u9.1 u9.2) H := hP
        have hD : va_D A (wm ca ad t k v b n kd ln w nw u9.1 u9.2) := hD
        refine lv_goto (tgt := 93) hx hb dX0_markInside_69 (by decide) ?_
        exact W.vret hx hb hr (fun t9 ht hW => ⟨⟨u9, rfl, fun j hj => by rw [qc_in, if_neg h0, if_neg h1, if_pos h2]; exact hw_3 j hj, by rw [ht]; exact hP, va_K.moved hW.alike hK, hD⟩, hS.F ht⟩) hS.2.2 dX0_markInside_93
      · skip
        by_cases h3 : kd wi = 3
        · refine lv_tableIn (off := 59) (tgt := 72) hx hb dX0_markInside_13 (by rw [h3]; decide) (by rw [h3]; decide) (by rw [h3]; decide) (by decide) ?_
          refine lv_aload_n hx hb dX0_markInside_72 rfl (lv_at hl 1 rfl) ?_
          refine lv_iload_n hx hb dX0_markInside_73 rfl (lv_at hl 0 rfl) ?_
          have hFc := va_free (wc := wm ca ad t k v b n kd ln w nw ins sn) hD hS hA [0, 1, 2, 3, 4, 5, 6, 7, 8] rfl
          refine va_callv (va_runV (As := [.int (ln wi)]) (rest := []) ⟨hx, hb, hml, hown, hts⟩ (c_markBlock l dC dI ca ad _ t k v b n kd ln w nw ins sn  (ln wi) hn) (cwV 1 hts (gg_V mlX0_121 imX0_markBlock seX0_markBlock in_WindowMeters kwX0_markBlock) rfl rfl rfl (by decide +kernel) ⟨Nat.le_of_ble_eq_true rfl, Nat.le_of_ble_eq_true rfl⟩) (wm_preV hK hP hD [.int (ln wi)]) rfl rfl hl.1 rfl (lv_room (Nat.le_of_ble_eq_true rfl)) dX0_markInside_74 ⟨Nat.le_of_ble_eq_true rfl, Nat.le_of_ble_eq_true rfl⟩) hS (fun q _ h => hFc q h) hFc (fun u9 t9 H1 locs ht9 hvm hw_4 hB hz1 hk1 hS => ?_)
          obtain ⟨hP, -, hD1⟩ := hB
          rw [ht9] at hP
          have hD := hD1.weaken (fun k q hk h => hFc q.1 h)
          generalize H1 = H at hP hS ⊢
          have hP : va_P (dC, dI) vwCl (wm ca ad t k v b n kd ln w nw u9 sn) H := hP
          have hD : va_D A (wm ca ad t k v b n kd ln w nw u9 sn) := hD
          refine lv_goto (tgt := 93) hx hb dX0_markInside_77 (by decide) ?_
          exact W.vret hx hb hr (fun t9 ht hW => ⟨⟨(u9, sn), rfl, fun j hj => by rw [qc_in, if_neg h0, if_neg h1, if_neg h2, if_pos h3]; exact hw_4 j hj, by rw [ht]; exact hP, va_K.moved hW.alike hK, hD⟩, hS.F ht⟩) hS.2.2 dX0_markInside_93
        · skip
          by_cases h4 : kd wi = 4
          · refine lv_tableIn (off := 67) (tgt := 80) hx hb dX0_markInside_13 (by rw [h4]; decide) (by rw [h4]; decide) (by rw [h4]; decide) (by decide) ?_
            refine lv_aload_n hx hb dX0_markInside_80 rfl (lv_at hl 1 rfl) ?_
            refine lv_iload_n hx hb dX0_markInside_81 rfl (lv_at hl 0 rfl) ?_
            have hFc := va_free (wc := wm ca ad t k v b n kd ln w nw ins sn) hD hS hA [0, 1, 2, 3, 4, 5, 6, 7, 8] rfl
            refine va_callv (va_runV (As := [.int (ln wi)]) (rest := []) ⟨hx, hb, hml, hown, hts⟩ (c_markRun l dC dI ca ad _ t k v b n kd ln w nw ins sn  (ln wi) hn) (cwV 1 hts (gg_V mlX0_124 imX0_markRun seX0_markRun in_WindowMeters kwX0_markRun) rfl rfl rfl (by decide +kernel) ⟨Nat.le_of_ble_eq_true rfl, Nat.le_of_ble_eq_true rfl⟩) (wm_preV hK hP hD [.int (ln wi)]) rfl rfl hl.1 rfl (lv_room (Nat.le_of_ble_eq_true rfl)) dX0_markInside_82 ⟨Nat.le_of_ble_eq_true rfl, Nat.le_of_ble_eq_true rfl⟩) hS (fun q _ h => hFc q h) hFc (fun u9 t9 H1 locs ht9 hvm hw_5 hB hz1 hk1 hS => ?_)
            obtain ⟨hP, -, hD1⟩ := hB
            rw [ht9] at hP
            have hD := hD1.weaken (fun k q hk h => hFc q.1 h)
            generalize H1 = H at hP hS ⊢
            have hP : va_P (dC, dI) vwCl (wm ca ad t k v b n kd ln w nw u9 sn) H := hP
            have hD : va_D A (wm ca ad t k v b n kd ln w nw u9 sn) := hD
            refine lv_goto (tgt := 93) hx hb dX0_markInside_85 (by decide) ?_
            exact W.vret hx hb hr (fun t9 ht hW => ⟨⟨(u9, sn), rfl, fun j hj => by rw [qc_in, if_neg h0, if_neg h1, if_neg h2, if_neg h3, if_pos h4]; exact hw_5 j hj, by rw [ht]; exact hP, va_K.moved hW.alike hK, hD⟩, hS.F ht⟩) hS.2.2 dX0_markInside_93
          · skip
            refine lv_tableOut (tgt := 88) hx hb dX0_markInside_13 (yt_out h0 h1 h2 h3 h4) (by decide) ?_
            refine lv_aload_n hx hb dX0_markInside_88 rfl (lv_at hl 1 rfl) ?_
            refine lv_iload_n hx hb dX0_markInside_89 rfl (lv_at hl 0 rfl) ?_
            have hFc := va_free (wc := wm ca ad t k v b n kd ln w nw ins sn) hD hS hA [0, 1, 2, 3, 4, 5, 6, 7, 8] rfl
            refine va_callv (va_runV (As := [.int (ln wi)]) (rest := []) ⟨hx, hb, hml, hown, hts⟩ (c_markOutside l dC dI ca ad _ t k v b n kd ln w nw ins sn  (ln wi) hn) (cwV 1 hts (gg_V mlX0_127 imX0_markOutside seX0_markOutside in_WindowMeters kwX0_markOutside) rfl rfl rfl (by decide +kernel) ⟨Nat.le_of_ble_eq_true rfl, Nat.le_of_ble_eq_true rfl⟩) (wm_preV hK hP hD [.int (ln wi)]) rfl rfl hl.1 rfl (lv_room (Nat.le_of_ble_eq_true rfl)) dX0_markInside_90 ⟨Nat.le_of_ble_eq_true rfl, Nat.le_of_ble_eq_true rfl⟩) hS (fun q _ h => hFc q h) hFc (fun u9 t9 H1 locs ht9 hvm hw_6 hB hz1 hk1 hS => ?_)
            obtain ⟨hP, -, hD1⟩ := hB
            rw [ht9] at hP
            have hD := hD1.weaken (fun k q hk h => hFc q.1 h)
            generalize H1 = H at hP hS ⊢
            have hP : va_P (dC, dI) vwCl (wm ca ad t k v b n kd ln w nw u9 sn) H := hP
            have hD : va_D A (wm ca ad t k v b n kd ln w nw u9 sn) := hD
            exact W.vret hx hb hr (fun t9 ht hW => ⟨⟨(u9, sn), rfl, fun j hj => by rw [qc_in, if_neg h0, if_neg h1, if_neg h2, if_neg h3, if_neg h4]; exact hw_6 j hj, by rw [ht]; exact hP, va_K.moved hW.alike hK, hD⟩, hS.F ht⟩) hS.2.2 dX0_markInside_93
end
section
/-! what a throw asks of the state: words that no reader of steady words carries, the texts, two statics of Throwable -/
def xiS (c : String) : MethodName := ⟨c, "<init>", "(Ljava/lang/String;)V"⟩
abbrev xIAE : String := "java/lang/IllegalArgumentException"
abbrev xIOB : String := "java/lang/IndexOutOfBoundsException"
abbrev xUOE : String := "java/lang/UnsupportedOperationException"
abbrev xNSE : String := "java/util/NoSuchElementException"
abbrev xNM : List String := ["java/lang/RuntimeException", "java/lang/Exception"]
def xwB : List Cond := [.declares (xiS "java/lang/RuntimeException"), .declares (xiS "java/lang/Exception"), .declares (xiS "java/lang/Throwable"), .castable xIAE xIAE, .castable xIOB xIOB, .castable xUOE xUOE, .castable xNSE xNSE]
def xwT : List (Nat × String) := [(47, "no such kind of window"), (53, "n is not 0 .. 1000000"), (57, "there are six windows"), (60, "the time is below now or above 1000000"), (62, "no such key"), (64, "there are 300 tuples"), (110, "no such window"), (73, "no such meter"), (97, "no such value in the window"), (103, "no value in the window"), (107, "no such tuple")]
def xwN : List (String × String) := [(xUOE, xIAE), (xIAE, xIOB), (xNSE, xIOB)]
def xwS (U : State) : Prop := (∀ w ∈ xwB, w.before #[] U = true) ∧ (∀ q ∈ xwT, ∃ sa, vk_R RX0 q.1 q.2 sa U) ∧ ∀ q ∈ xwN, va_Nc q.1 q.2 U
theorem xwS.warm {s U : State} (hW : s.WarmedH U.vm) (h : xwS s) : xwS U := by
  refine ⟨fun w hw => ?_, fun q hq => ?_, fun q hq => (h.2.2 q hq).moved hW.alike⟩
  · have h1 := h.1 w hw
    simp only [xwB, List.mem_cons, List.not_mem_nil, or_false] at hw
    rcases hw with rfl | rfl | rfl | rfl | rfl | rfl | rfl
    · exact va_Nw.warmD hW h1
    · exact va_Nw.warmD hW h1
    · exact va_Nw.warmD hW h1
    · exact va_Nw.warmC hW h1
    · exact va_Nw.warmC hW h1
    · exact va_Nw.warmC hW h1
    · exact va_Nw.warmC hW h1
  · obtain ⟨sa, h1⟩ := h.2.1 q hq
    exact ⟨sa, h1.warm hW⟩
abbrev xwP (A : Nat → Prop) (U : State) : Prop := xwS U ∧ vx_Zq Bundle.tN "UNASSIGNED_STACK" Bundle.steD A U U.heap ∧ vx_Zq Bundle.tN "SUPPRESSED_SENTINEL" Bundle.listD A U U.heap
theorem xwP.at {s U : State} {A A' : Nat → Prop} {H : Heap} {locs : List Loc} (h : xwP A s) (hS : va_S A s.heap H locs) (hAA : ∀ q, A' q → A q) (hU : U.heap = H) (hW : s.WarmedH U.vm) : xwP A' U :=
  ⟨h.1.warm hW, by rw [hU]; exact vx_Zq.moved hW.alike ((h.2.1.kept hS.2.1).narrow hAA), by rw [hU]; exact vx_Zq.moved hW.alike ((h.2.2.kept hS.2.1).narrow hAA)⟩
theorem xwP.call {A : Nat → Prop} {U : State} {g : JFrame} {mk : MethodId} {a : Array Value} (h : xwP A U) : xwP A (U.calling g mk a) := by
  have hW : U.WarmedH (U.calling g mk a).vm := State.WarmedH.refl U
  exact ⟨h.1.warm hW, vx_Zq.moved (U := U.calling g mk a) hW.alike h.2.1, vx_Zq.moved (U := U.calling g mk a) hW.alike h.2.2⟩
theorem xa_of {args : Array Value} {s : State} {x : Cond} {own E : String} {ic : Nat} (hts : ∀ w ∈ x :: gt, w.before args s = true) (hX : xwS s)
    (h1 : ∀ w ∈ (vx_atS own ic E xNM).filter goodWord, w ∈ lw_tbl) (h2 : ∀ w ∈ (vx_atS own ic E xNM).filter (fun w => !goodWord w), w ∈ xwB) : ∀ w ∈ vx_atS own ic E xNM, w.before args s = true :=
  vx_hat (B := xwB) (fun w hw => hts w (List.mem_cons_of_mem _ (gt_mem (h1 w hw) (List.mem_filter.mp hw).2))) h2 (fun w hw => va_any (by
    simp only [xwB, List.mem_cons, List.not_mem_nil, or_false] at hw
    rcases hw with rfl | rfl | rfl | rfl | rfl | rfl | rfl <;> rfl) (hX.1 w hw))
theorem xa_IAE {args : Array Value} {s : State} {x : Cond} (hts : ∀ w ∈ x :: gt, w.before args s = true) (hX : xwS s) : ∀ w ∈ vx_atS RX0 49 xIAE xNM, w.before args s = true := xa_of hts hX (by decide +kernel) (by decide +kernel)
theorem xg_IAE : ∀ w ∈ Cond.classLink RX0 45 xIAE :: Cond.initialized xIAE :: vx_atS RX0 49 xIAE xNM, vx_ot w = true := by decide +kernel
theorem xf_IAE : Bundle.fit xIAE = true := by decide +kernel
theorem xa_IOB {args : Array Value} {s : State} {x : Cond} (hts : ∀ w ∈ x :: gt, w.before args s = true) (hX : xwS s) : ∀ w ∈ vx_atS RX0 109 xIOB xNM, w.before args s = true := xa_of hts hX (by decide +kernel) (by decide +kernel)
theorem xg_IOB : ∀ w ∈ Cond.classLink RX0 105 xIOB :: Cond.initialized xIOB :: vx_atS RX0 109 xIOB xNM, vx_ot w = true := by decide +kernel
theorem xf_IOB : Bundle.fit xIOB = true := by decide +kernel
theorem xa_UOE {args : Array Value} {s : State} {x : Cond} (hts : ∀ w ∈ x :: gt, w.before args s = true) (hX : xwS s) : ∀ w ∈ vx_atS RX0 59 xUOE xNM, w.before args s = true := xa_of hts hX (by decide +kernel) (by decide +kernel)
theorem xg_UOE : ∀ w ∈ Cond.classLink RX0 55 xUOE :: Cond.initialized xUOE :: vx_atS RX0 59 xUOE xNM, vx_ot w = true := by decide +kernel
theorem xf_UOE : Bundle.fit xUOE = true := by decide +kernel
theorem xf_NM : ∀ n ∈ xNM, Bundle.fit n = true := by decide +kernel
theorem wm_thrown {s t : State} {H : Heap} {A : Nat → Prop} {locs : List Loc} {D : va_G} {cl : List vw_C} {ws : va_W} {tys : List (ClassId × FieldType)} (hP : va_P D cl ws H) (hK : va_K D cl tys s) (hS : va_S A s.heap H locs) (hal : s.vm.Alike t.vm) (hz : H.size ≤ t.heap.size) (hq : ∀ q : Nat, q < H.size → t.heap[q]? = H[q]?) : va_P D cl ws t.heap ∧ va_K D cl tys t ∧ va_F A s t :=
  ⟨hP.kept (fun k q hk => hq q.1 (hP k q hk).lt), va_K.moved hal hK, Nat.le_trans hS.1 hz, fun q h1 h2 => (hq q (Nat.lt_of_lt_of_le h1 hS.1)).trans (hS.2.1 q h1 h2)⟩
theorem wm_preX {s : State} {H : Heap} {dC : Nat → ClassId} {dI : Nat → Nat → Nat} {ca : Nat → ClassId} {ad : Nat → Nat} {A : Nat → Prop} {locs : List Loc} {t : Nat → Int32} {k : Nat → Nat} {v : Nat → Int32} {b : Nat → Nat} {n : Nat} {kd : Nat → Int32} {ln : Nat → Int32} {w : Nat} {nw : Int32} {ins : Nat → Int32} {sn : Nat → Nat} (hK : va_K (dC, dI) vwCl (wmT ca) s) (hP : va_P (dC, dI) vwCl (wm ca ad t k v b n kd ln w nw ins sn) H) (hD : va_D A (wm ca ad t k v b n kd ln w nw ins sn)) (hS : va_S A s.heap H locs) (hF : ∀ q, va_A (wm ca ad t k v b n kd ln w nw ins sn) H.size q → A q) (hX : xwP A s) (As : List Value) : PreV s H RX0 (ad 0) (va_Pc (.ref (ad 0) :: As) (fun U => wmPre dC dI ca ad H.size t k v b n kd ln w nw ins sn U ∧ xwP (va_A (wm ca ad t k v b n kd ln w nw ins sn) H.size) U)) As :=
  ⟨fun a U g mk q => by
    obtain ⟨q0, ⟨q1, qP, qK, qD⟩, qX⟩ := q
    exact ⟨q0, ⟨q1, qP, va_K.moved (u := U) (U := U.calling g mk a) (Vm.Alike.refl U.vm) qK, qD⟩, qX.call⟩,
   va_recv hK hP (ci := 0) (q0 := 0) rfl rfl, fun U hU hW => ⟨rfl, ⟨by rw [hU], by rw [hU]; exact hP, va_K.moved hW.alike hK, hD.weaken (fun _ _ _ _ => trivial)⟩, hX.at hS hF hU hW⟩⟩
/-- a window there is -/
def qx_win (w : Nat) (p1 : Int32) : Prop := ∃ wi, wi < w ∧ p1 = nI wi
theorem qx_win_no0 {w : Nat} {p1 : Int32} (hw : w < 2 ^ 31) (h : p1 < 0) : ¬ qx_win w p1 := by
  rintro ⟨wi, h1, rfl⟩
  exact nI_pos (Nat.lt_trans h1 hw) h
theorem qx_win_no1 {w : Nat} {p1 : Int32} (hw : w < 2 ^ 31) (h : ¬ p1 < nI w) : ¬ qx_win w p1 := by
  rintro ⟨wi, h1, rfl⟩
  exact h (nI_lt h1 hw)
theorem qx_win_yes {w : Nat} {p1 : Int32} (hw : w < 2 ^ 31) (h0 : ¬ p1 < 0) (h : p1 < nI w) : qx_win w p1 := by
  rcases pk_ix p1 hw with g | g | ⟨j, g1, g2⟩
  · exact absurd g h0
  · exact absurd h (Int32.not_lt.mpr g)
  · exact ⟨j, g1, g2⟩
/-- low ≤ x ≤ high -/
def qx_in (x lo hi : Int32) : Prop := lo ≤ x ∧ x ≤ hi
theorem qx_in7 {x : Int32} : qx_in x 0 7 ↔ ¬ x < 0 ∧ x < 8 := by
  unfold qx_in
  rw [Int32.le_iff_toInt_le, Int32.le_iff_toInt_le, Int32.lt_iff_toInt_lt, Int32.lt_iff_toInt_lt, show (0 : Int32).toInt = 0 from by decide, show (7 : Int32).toInt = 7 from by decide, show (8 : Int32).toInt = 8 from by decide]
  omega
theorem qx_in0 {x hi : Int32} : qx_in x 0 hi ↔ ¬ x < 0 ∧ x ≤ hi := by
  unfold qx_in
  rw [Int32.not_lt]
theorem yn_nz {x : Int32} {P : Prop} (h : qc_mk x P) : narrow .boolean (.int x) = .int x := by
  rcases h with ⟨rfl, -⟩ | ⟨rfl, -⟩ <;> decide
end
section
set_option maxRecDepth 100000 in
set_option maxHeartbeats 4000000 in
/-- checkWindow(w) -/
theorem c_checkWindow (l : Launch) (hlt : l.stackTraces = false) (dC : Nat → ClassId) (dI : Nat → Nat → Nat) (ca : Nat → ClassId) (ad : Nat → Nat) (sz : Nat) (t : Nat → Int32) (k : Nat → Nat) (v : Nat → Int32) (b : Nat → Nat) (n : Nat) (kd : Nat → Int32) (ln : Nat → Int32) (w : Nat) (nw : Int32) (ins : Nat → Int32) (sn : Nat → Nat) (p1 : Int32) (hw6 : w ≤ 6) : vx_Met l yX0_checkWindow wsX0_checkWindow ({ frames := 6, cells := 1, slots := 6, locals := 90 }) (va_Pc [.ref (ad 0), .int p1] (fun U => wmPre dC dI ca ad sz t k v b n kd ln w nw ins sn U ∧ xwP (va_A (wm ca ad t k v b n kd ln w nw ins sn) sz) U)) (va_Qv (fun _ : Unit => qx_win w p1) (fun _ t9 => wmAt dC dI ca ad (va_A (wm ca ad t k v b n kd ln w nw ins sn) sz) t k v b n kd ln w nw ins sn t9) (va_A (wm ca ad t k v b n kd ln w nw ins sn) sz)) (vx_X (fun _ : Unit => True) (fun E _ t9 => (E = xIOB ∧ ¬ qx_win w p1) ∧ wmAt dC dI ca ad (va_A (wm ca ad t k v b n kd ln w nw ins sn) sz) t k v b n kd ln w nw ins sn t9) (va_A (wm ca ad t k v b n kd ln w nw ins sn) sz)) 1 6 (va_A (wm ca ad t k v b n kd ln w nw ins sn) sz) := by
  refine vx_ofW (cc := cX0_checkWindow) (maxL := 2) (ret := none) (by decide) rfl ?_
  intro p e s m args below meth c s₁ B hml het hv
  obtain ⟨rfl, ⟨hsz, hP, hK, hD0⟩, hX⟩ := hv
  have hx := B.exec
  have hb := B.bytes
  have hr := B.returns
  have hts := atoms_spec (ws := wsX0_checkWindow) B.pre
  have hown : s.vm.findClass RX0 = some m.cls := findClass_of_methodNamed B.named
  have hlocks := B.notSynchronized
  subst hsz
  have hin0 : ∀ w ∈ u_ws RX0 TX0 11, w ∈ wsX0_checkWindow := fun w h => List.mem_cons_of_mem _ (wiX0 w h)
  have fl_39 := hts _ (List.mem_cons_of_mem _ flX0_39)
  have hD := hD0.self (sz := s.heap.size)
  generalize hAe : va_A (wm ca ad t k v b n kd ln w nw ins sn) s.heap.size = A at hD hX ⊢
  have hA : ∀ q : Nat, s.heap.size ≤ q → A q := fun q h => by rw [← hAe]; exact Or.inr h
  have hS : va_S A s.heap s.heap [] := va_S.rf
  have hl := lv_entry ([.ref (ad 0), .int p1]) (n := 2) (Nat.le_of_ble_eq_true rfl)
  rw [lg_entry_eq]
  generalize (lg_sl ([.ref (ad 0), .int p1]) ++ List.replicate (2 - (lg_sl ([.ref (ad 0), .int p1])).length) Slot.unset).toArray = ls at hl ⊢
  have hl : lv_has ls 2 [(0, .ref (ad 0)), (1, .int p1)] := hl
  refine lv_iload_n hx hb dX0_checkWindow_0 rfl (lv_at hl 1 rfl) ?_
  refine lv_if_lt (tgt := 12) hx hb dX0_checkWindow_1 (by decide) (fun c_1 => ?_) (fun c_1 => ?_)
  · obtain ⟨sa, hsa⟩ := hX.1.2.1 (110, "no such window") (by decide)
    exact vx_throwS (own := RX0) (cls := xIOB) (text := "no such window") (names := xNM) (ik := 105) (is := 110) (ic := 109) (A := A) hx hb hlt hown xf_IOB xf_NM (hts _ (List.mem_cons_of_mem _ klX0_105)) (hts _ (List.mem_cons_of_mem _ in_java_lang_IndexOutOfBoundsException)) hsa (xa_IOB hts hX.1) xg_IOB hX.2.1 hX.2.2 hS (by rw [hml]; exact hl.1) dX0_checkWindow_12 dX0_checkWindow_15 dX0_checkWindow_16 dX0_checkWindow_18 dX0_checkWindow_21 (fun x h => (het x h).elim) (Nat.le_of_ble_eq_true rfl) (Nat.le_of_ble_eq_true rfl) (Nat.le_of_ble_eq_true rfl) (Nat.le_of_ble_eq_true rfl) hlocks (fun t9 hal hz hq => by
      obtain ⟨gP, gK, gF⟩ := wm_thrown hP hK hS hal hz hq
      exact ⟨(), trivial, ⟨⟨rfl, qx_win_no0 (by omega) c_1⟩, gP, gK, hD⟩, gF⟩) hS.2.2 (Nat.le_of_ble_eq_true rfl) (Nat.le_of_ble_eq_true rfl)
  · refine lv_iload_n hx hb dX0_checkWindow_4 rfl (lv_at hl 1 rfl) ?_
    refine lv_aload_n hx hb dX0_checkWindow_5 rfl (lv_at hl 0 rfl) ?_
    refine va_get (D := (dC, dI)) (ci := 0) (v := .int (nI w)) (C := RX0) (T := TX0) (N := 11) hx hb hts hin0 hown hK hP 0 rfl rfl 7 (by decide) fl_39 (fun _ h9 => h9) rfl dX0_checkWindow_6 ?_
    refine lv_icmp_lt (tgt := 22) hx hb dX0_checkWindow_9 (by decide) (fun c_2 => ?_) (fun c_2 => ?_)
    · refine vx_ret (W.widen (k := 1) (n := 6) (Nat.le_of_ble_eq_true rfl) (Nat.le_of_ble_eq_true rfl) ?_)
      exact W.vret hx hb hr (fun t9 ht hW => ⟨⟨(), rfl, qx_win_yes (by omega) c_1 c_2, by rw [ht]; exact hP, va_K.moved hW.alike hK, hD⟩, hS.F ht⟩) hS.2.2 dX0_checkWindow_22
    · obtain ⟨sa, hsa⟩ := hX.1.2.1 (110, "no such window") (by decide)
      exact vx_throwS (own := RX0) (cls := xIOB) (text := "no such window") (names := xNM) (ik := 105) (is := 110) (ic := 109) (A := A) hx hb hlt hown xf_IOB xf_NM (hts _ (List.mem_cons_of_mem _ klX0_105)) (hts _ (List.mem_cons_of_mem _ in_java_lang_IndexOutOfBoundsException)) hsa (xa_IOB hts hX.1) xg_IOB hX.2.1 hX.2.2 hS (by rw [hml]; exact hl.1) dX0_checkWindow_12 dX0_checkWindow_15 dX0_checkWindow_16 dX0_checkWindow_18 dX0_checkWindow_21 (fun x h => (het x h).elim) (Nat.le_of_ble_eq_true rfl) (Nat.le_of_ble_eq_true rfl) (Nat.le_of_ble_eq_true rfl) (Nat.le_of_ble_eq_true rfl) hlocks (fun t9 hal hz hq => by
        obtain ⟨gP, gK, gF⟩ := wm_thrown hP hK hS hal hz hq
        exact ⟨(), trivial, ⟨⟨rfl, qx_win_no1 (by omega) c_2⟩, gP, gK, hD⟩, gF⟩) hS.2.2 (Nat.le_of_ble_eq_true rfl) (Nat.le_of_ble_eq_true rfl)

set_option maxRecDepth 100000 in
set_option maxHeartbeats 4000000 in
/-- window(kind, n) -/
theorem c_window (l : Launch) (hlt : l.stackTraces = false) (dC : Nat → ClassId) (dI : Nat → Nat → Nat) (ca : Nat → ClassId) (ad : Nat → Nat) (sz : Nat) (t : Nat → Int32) (k : Nat → Nat) (v : Nat → Int32) (b : Nat → Nat) (n : Nat) (kd : Nat → Int32) (ln : Nat → Int32) (w : Nat) (nw : Int32) (ins : Nat → Int32) (sn : Nat → Nat) (p1 p2 : Int32) (hw6 : w ≤ 6) : vx_Met l yX0_window wsX0_window ({ frames := 6, cells := 1, slots := 6, locals := 90 }) (va_Pc [.ref (ad 0), .int p1, .int p2] (fun U => wmPre dC dI ca ad sz t k v b n kd ln w nw ins sn U ∧ xwP (va_A (wm ca ad t k v b n kd ln w nw ins sn) sz) U)) (va_Qi (fun (r : Int32) (_ : Unit) => (qx_in p1 0 5 ∧ qx_in p2 0 1000000) ∧ w < 6 ∧ r = nI w) (fun _ t9 => wmAt dC dI ca ad (va_A (wm ca ad t k v b n kd ln w nw ins sn) sz) t k v b n (upd kd w p1) (upd ln w p2) (w + 1) nw ins sn t9) (va_A (wm ca ad t k v b n kd ln w nw ins sn) sz)) (vx_X (fun _ : Unit => True) (fun E _ t9 => ((E = xIAE ∧ ¬ (qx_in p1 0 5 ∧ qx_in p2 0 1000000)) ∨ (E = xUOE ∧ (qx_in p1 0 5 ∧ qx_in p2 0 1000000) ∧ w = 6)) ∧ wmAt dC dI ca ad (va_A (wm ca ad t k v b n kd ln w nw ins sn) sz) t k v b n kd ln w nw ins sn t9) (va_A (wm ca ad t k v b n kd ln w nw ins sn) sz)) 1 6 (va_A (wm ca ad t k v b n kd ln w nw ins sn) sz) := by
  refine vx_ofW (cc := cX0_window) (maxL := 4) (ret := (some .int)) (by decide) rfl ?_
  intro p e s m args below meth c s₁ B hml het hv
  obtain ⟨rfl, ⟨hsz, hP, hK, hD0⟩, hX⟩ := hv
  have hx := B.exec
  have hb := B.bytes
  have hr := B.returns
  have hts := atoms_spec (ws := wsX0_window) B.pre
  have hown : s.vm.findClass RX0 = some m.cls := findClass_of_methodNamed B.named
  have hlocks := B.notSynchronized
  subst hsz
  have hin0 : ∀ w ∈ u_ws RX0 TX0 11, w ∈ wsX0_window := fun w h => List.mem_cons_of_mem _ (wiX0 w h)
  have fl_22 := hts _ (List.mem_cons_of_mem _ flX0_22)
  have fl_25 := hts _ (List.mem_cons_of_mem _ flX0_25)
  have fl_39 := hts _ (List.mem_cons_of_mem _ flX0_39)
  have hD := hD0.self (sz := s.heap.size)
  generalize hAe : va_A (wm ca ad t k v b n kd ln w nw ins sn) s.heap.size = A at hD hX ⊢
  have hA : ∀ q : Nat, s.heap.size ≤ q → A q := fun q h => by rw [← hAe]; exact Or.inr h
  have hS : va_S A s.heap s.heap [] := va_S.rf
  have hl := lv_entry ([.ref (ad 0), .int p1, .int p2]) (n := 4) (Nat.le_of_ble_eq_true rfl)
  rw [lg_entry_eq]
  generalize (lg_sl ([.ref (ad 0), .int p1, .int p2]) ++ List.replicate (4 - (lg_sl ([.ref (ad 0), .int p1, .int p2])).length) Slot.unset).toArray = ls at hl ⊢
  have hl : lv_has ls 4 [(0, .ref (ad 0)), (1, .int p1), (2, .int p2)] := hl
  refine lv_iload_n hx hb dX0_window_0 rfl (lv_at hl 1 rfl) ?_
  refine lv_if_lt (tgt := 9) hx hb dX0_window_1 (by decide) (fun c_1 => ?_) (fun c_1 => ?_)
  · obtain ⟨sa, hsa⟩ := hX.1.2.1 (47, "no such kind of window") (by decide)
    exact vx_throwS (own := RX0) (cls := xIAE) (text := "no such kind of window") (names := xNM) (ik := 45) (is := 47) (ic := 49) (A := A) hx hb hlt hown xf_IAE xf_NM (hts _ (List.mem_cons_of_mem _ klX0_45)) (hts _ (List.mem_cons_of_mem _ in_java_lang_IllegalArgumentException)) hsa (xa_IAE hts hX.1) xg_IAE hX.2.1 hX.2.2 hS (by rw [hml]; exact hl.1) dX0_window_9 dX0_window_12 dX0_window_13 dX0_window_15 dX0_window_18 (fun x h => (het x h).elim) (Nat.le_of_ble_eq_true rfl) (Nat.le_of_ble_eq_true rfl) (Nat.le_of_ble_eq_true rfl) (Nat.le_of_ble_eq_true rfl) hlocks (fun t9 hal hz hq => by
      obtain ⟨gP, gK, gF⟩ := wm_thrown hP hK hS hal hz hq
      exact ⟨(), trivial, ⟨Or.inl ⟨rfl, fun q => (qx_in0.mp q.1).1 c_1⟩, gP, gK, hD⟩, gF⟩) hS.2.2 (Nat.le_of_ble_eq_true rfl) (Nat.le_of_ble_eq_true rfl)
  · refine lv_iload_n hx hb dX0_window_4 rfl (lv_at hl 1 rfl) ?_
    refine lv_iconst (v := 5) hx hb dX0_window_5 (by decide) ?_
    refine lv_icmp_le (tgt := 19) hx hb dX0_window_6 (by decide) (fun c_2 => ?_) (fun c_2 => ?_)
    · refine lv_iload_n hx hb dX0_window_19 rfl (lv_at hl 2 rfl) ?_
      refine lv_if_lt (tgt := 29) hx hb dX0_window_20 (by decide) (fun c_3 => ?_) (fun c_3 => ?_)
      · obtain ⟨sa, hsa⟩ := hX.1.2.1 (53, "n is not 0 .. 1000000") (by decide)
        exact vx_throwS (own := RX0) (cls := xIAE) (text := "n is not 0 .. 1000000") (names := xNM) (ik := 45) (is := 53) (ic := 49) (A := A) hx hb hlt hown xf_IAE xf_NM (hts _ (List.mem_cons_of_mem _ klX0_45)) (hts _ (List.mem_cons_of_mem _ in_java_lang_IllegalArgumentException)) hsa (xa_IAE hts hX.1) xg_IAE hX.2.1 hX.2.2 hS (by rw [hml]; exact hl.1) dX0_window_29 dX0_window_32 dX0_window_33 dX0_window_35 dX0_window_38 (fun x h => (het x h).elim) (Nat.le_of_ble_eq_true rfl) (Nat.le_of_ble_eq_true rfl) (Nat.le_of_ble_eq_true rfl) (Nat.le_of_ble_eq_true rfl) hlocks (fun t9 hal hz hq => by
          obtain ⟨gP, gK, gF⟩ := wm_thrown hP hK hS hal hz hq
          exact ⟨(), trivial, ⟨Or.inl ⟨rfl, fun q => (qx_in0.mp q.2).1 c_3⟩, gP, gK, hD⟩, gF⟩) hS.2.2 (Nat.le_of_ble_eq_true rfl) (Nat.le_of_ble_eq_true rfl)
      · refine lv_iload_n hx hb dX0_window_23 rfl (lv_at hl 2 rfl) ?_
        refine lv_ldc (v := 1000000) hx hb hown (hts _ (List.mem_cons_of_mem _ cnX0_52)) dX0_window_24 ?_
        refine lv_icmp_le (tgt := 39) hx hb dX0_window_26 (by decide) (fun c_4 => ?_) (fun c_4 => ?_)
        · have hG : qx_in p1 0 5 ∧ qx_in p2 0 1000000 := ⟨qx_in0.mpr ⟨c_1, c_2⟩, qx_in0.mpr ⟨c_3, c_4⟩⟩
          refine lv_aload_n hx hb dX0_window_39 rfl (lv_at hl 0 rfl) ?_
          refine va_get (D := (dC, dI)) (ci := 0) (v := .int (nI w)) (C := RX0) (T := TX0) (N := 11) hx hb hts hin0 hown hK hP 0 rfl rfl 7 (by decide) fl_39 (fun _ h9 => h9) rfl dX0_window_40 ?_
          refine lv_bipush (v := 6) hx hb dX0_window_43 (by decide) ?_
          refine lv_icmp_lt (tgt := 58) hx hb dX0_window_45 (by decide) (fun c_5 => ?_) (fun c_5 => ?_)
          · have hw5 : w < 6 := (nI_ltI (by omega) (by decide)).mp c_5
            refine lv_aload_n hx hb dX0_window_58 rfl (lv_at hl 0 rfl) ?_
            refine va_get (D := (dC, dI)) (ci := 0) (v := .int (nI w)) (C := RX0) (T := TX0) (N := 11) hx hb hts hin0 hown hK hP 0 rfl rfl 7 (by decide) fl_39 (fun _ h9 => h9) rfl dX0_window_59 ?_
            refine lv_istore_n (lv' := [(3, .int (nI w)), (0, .ref (ad 0)), (1, .int p1), (2, .int p2)]) hx hb dX0_window_62 rfl hl (by decide) rfl (fun ls hl => ?_)
            refine lv_aload_n hx hb dX0_window_63 rfl (lv_at hl 1 rfl) ?_
            refine va_get (D := (dC, dI)) (ci := 0) (v := .ref (ad 5)) (C := RX0) (T := TX0) (N := 11) hx hb hts hin0 hown hK hP 0 rfl rfl 5 (by decide) fl_22 (fun _ h9 => h9) rfl dX0_window_64 ?_
            refine lv_iload_n hx hb dX0_window_67 rfl (lv_at hl 0 rfl) ?_
            refine lv_iload_n hx hb dX0_window_68 rfl (lv_at hl 2 rfl) ?_
            refine ya_iast hx hb hK hP hD hS 5 4 rfl rfl (j := w) hw5 (by decide) dX0_window_69 (fun H locs hP hD hS => ?_)
            have hP : va_P (dC, dI) vwCl (wm ca ad t k v b n (upd kd w p1) ln w nw ins sn) H := hP
            have hD : va_D A (wm ca ad t k v b n (upd kd w p1) ln w nw ins sn) := hD
            refine lv_aload_n hx hb dX0_window_70 rfl (lv_at hl 1 rfl) ?_
            refine va_get (D := (dC, dI)) (ci := 0) (v := .ref (ad 6)) (C := RX0) (T := TX0) (N := 11) hx hb hts hin0 hown hK hP 0 rfl rfl 6 (by decide) fl_25 (fun _ h9 => h9) rfl dX0_window_71 ?_
            refine lv_iload_n hx hb dX0_window_74 rfl (lv_at hl 0 rfl) ?_
            refine lv_iload_n hx hb dX0_window_75 rfl (lv_at hl 3 rfl) ?_
            refine ya_iast hx hb hK hP hD hS 6 5 rfl rfl (j := w) hw5 (by decide) dX0_window_76 (fun H locs hP hD hS => ?_)
            have hP : va_P (dC, dI) vwCl (wm ca ad t k v b n (upd kd w p1) (upd ln w p2) w nw ins sn) H := hP
            have hD : va_D A (wm ca ad t k v b n (upd kd w p1) (upd ln w p2) w nw ins sn) := hD
            refine lv_aload_n hx hb dX0_window_77 rfl (lv_at hl 1 rfl) ?_
            refine lv_iload_n hx hb dX0_window_78 rfl (lv_at hl 0 rfl) ?_
            refine lv_iconst (v := 1) hx hb dX0_window_79 (by decide) ?_
            refine lv_iadd hx hb dX0_window_80 ?_
            rw [nI_1 w]
            refine va_put (D := (dC, dI)) (ci := 0) (v := .int (nI (w + 1))) (ty := .int) (C := RX0) (T := TX0) (N := 11) hx hb hts hin0 tyX0 tyX0_ok nmX0 hown hK hP hD hS 0 rfl rfl 7 (by decide) fl_39 (fun _ h9 => h9) rfl (by decide +kernel) rfl rfl (Nat.le_of_ble_eq_true rfl) dX0_window_81 (fun H locs hP hD hS => ?_)
            have hP : va_P (dC, dI) vwCl (wm ca ad t k v b n (upd kd w p1) (upd ln w p2) (w + 1) nw ins sn) H := hP
            have hD : va_D A (wm ca ad t k v b n (upd kd w p1) (upd ln w p2) (w + 1) nw ins sn) := hD
            refine lv_iload_n hx hb dX0_window_84 rfl (lv_at hl 0 rfl) ?_
            refine vx_ret (W.widen (k := 1) (n := 6) (Nat.le_of_ble_eq_true rfl) (Nat.le_of_ble_eq_true rfl) ?_)
            exact W.iret (v := (nI w)) hx hb hr (fun t9 ht hW => ⟨⟨_, (), rfl, ⟨hG, hw5, rfl⟩, by rw [ht]; exact hP, va_K.moved hW.alike hK, hD⟩, hS.F ht⟩) hS.2.2 dX0_window_85
          · have hw5 : w = 6 := by
              have h9 : ¬ w < 6 := fun q => c_5 (nI_lt q (by decide))
              omega
            obtain ⟨sa, hsa⟩ := hX.1.2.1 (57, "there are six windows") (by decide)
            exact vx_throwS (own := RX0) (cls := xUOE) (text := "there are six windows") (names := xNM) (ik := 55) (is := 57) (ic := 59) (A := A) hx hb hlt hown xf_UOE xf_NM (hts _ (List.mem_cons_of_mem _ klX0_55)) (hts _ (List.mem_cons_of_mem _ in_java_lang_UnsupportedOperationException)) hsa (xa_UOE hts hX.1) xg_UOE hX.2.1 hX.2.2 hS (by rw [hml]; exact hl.1) dX0_window_48 dX0_window_51 dX0_window_52 dX0_window_54 dX0_window_57 (fun x h => (het x h).elim) (Nat.le_of_ble_eq_true rfl) (Nat.le_of_ble_eq_true rfl) (Nat.le_of_ble_eq_true rfl) (Nat.le_of_ble_eq_true rfl) hlocks (fun t9 hal hz hq => by
              obtain ⟨gP, gK, gF⟩ := wm_thrown hP hK hS hal hz hq
              exact ⟨(), trivial, ⟨Or.inr ⟨rfl, hG, hw5⟩, gP, gK, hD⟩, gF⟩) hS.2.2 (Nat.le_of_ble_eq_true rfl) (Nat.le_of_ble_eq_true rfl)
        · obtain ⟨sa, hsa⟩ := hX.1.2.1 (53, "n is not 0 .. 1000000") (by decide)
          exact vx_throwS (own := RX0) (cls := xIAE) (text := "n is not 0 .. 1000000") (names := xNM) (ik := 45) (is := 53) (ic := 49) (A := A) hx hb hlt hown xf_IAE xf_NM (hts _ (List.mem_cons_of_mem _ klX0_45)) (hts _ (List.mem_cons_of_mem _ in_java_lang_IllegalArgumentException)) hsa (xa_IAE hts hX.1) xg_IAE hX.2.1 hX.2.2 hS (by rw [hml]; exact hl.1) dX0_window_29 dX0_window_32 dX0_window_33 dX0_window_35 dX0_window_38 (fun x h => (het x h).elim) (Nat.le_of_ble_eq_true rfl) (Nat.le_of_ble_eq_true rfl) (Nat.le_of_ble_eq_true rfl) (Nat.le_of_ble_eq_true rfl) hlocks (fun t9 hal hz hq => by
            obtain ⟨gP, gK, gF⟩ := wm_thrown hP hK hS hal hz hq
            exact ⟨(), trivial, ⟨Or.inl ⟨rfl, fun q => c_4 q.2.2⟩, gP, gK, hD⟩, gF⟩) hS.2.2 (Nat.le_of_ble_eq_true rfl) (Nat.le_of_ble_eq_true rfl)
    · obtain ⟨sa, hsa⟩ := hX.1.2.1 (47, "no such kind of window") (by decide)
      exact vx_throwS (own := RX0) (cls := xIAE) (text := "no such kind of window") (names := xNM) (ik := 45) (is := 47) (ic := 49) (A := A) hx hb hlt hown xf_IAE xf_NM (hts _ (List.mem_cons_of_mem _ klX0_45)) (hts _ (List.mem_cons_of_mem _ in_java_lang_IllegalArgumentException)) hsa (xa_IAE hts hX.1) xg_IAE hX.2.1 hX.2.2 hS (by rw [hml]; exact hl.1) dX0_window_9 dX0_window_12 dX0_window_13 dX0_window_15 dX0_window_18 (fun x h => (het x h).elim) (Nat.le_of_ble_eq_true rfl) (Nat.le_of_ble_eq_true rfl) (Nat.le_of_ble_eq_true rfl) (Nat.le_of_ble_eq_true rfl) hlocks (fun t9 hal hz hq => by
        obtain ⟨gP, gK, gF⟩ := wm_thrown hP hK hS hal hz hq
        exact ⟨(), trivial, ⟨Or.inl ⟨rfl, fun q => c_2 q.1.2⟩, gP, gK, hD⟩, gF⟩) hS.2.2 (Nat.le_of_ble_eq_true rfl) (Nat.le_of_ble_eq_true rfl)

set_option maxRecDepth 100000 in
set_option maxHeartbeats 4000000 in
/-- tick(time) -/
theorem c_tick (l : Launch) (hlt : l.stackTraces = false) (dC : Nat → ClassId) (dI : Nat → Nat → Nat) (ca : Nat → ClassId) (ad : Nat → Nat) (sz : Nat) (t : Nat → Int32) (k : Nat → Nat) (v : Nat → Int32) (b : Nat → Nat) (n : Nat) (kd : Nat → Int32) (ln : Nat → Int32) (w : Nat) (nw : Int32) (ins : Nat → Int32) (sn : Nat → Nat) (p1 : Int32)  : vx_Met l yX0_tick wsX0_tick ({ frames := 6, cells := 1, slots := 6, locals := 90 }) (va_Pc [.ref (ad 0), .int p1] (fun U => wmPre dC dI ca ad sz t k v b n kd ln w nw ins sn U ∧ xwP (va_A (wm ca ad t k v b n kd ln w nw ins sn) sz) U)) (va_Qv (fun _ : Unit => qx_in p1 nw 1000000) (fun _ t9 => wmAt dC dI ca ad (va_A (wm ca ad t k v b n kd ln w nw ins sn) sz) t k v b n kd ln w p1 ins sn t9) (va_A (wm ca ad t k v b n kd ln w nw ins sn) sz)) (vx_X (fun _ : Unit => True) (fun E _ t9 => (E = xIAE ∧ ¬ qx_in p1 nw 1000000) ∧ wmAt dC dI ca ad (va_A (wm ca ad t k v b n kd ln w nw ins sn) sz) t k v b n kd ln w nw ins sn t9) (va_A (wm ca ad t k v b n kd ln w nw ins sn) sz)) 1 6 (va_A (wm ca ad t k v b n kd ln w nw ins sn) sz) := by
  refine vx_ofW (cc := cX0_tick) (maxL := 2) (ret := none) (by decide) rfl ?_
  intro p e s m args below meth c s₁ B hml het hv
  obtain ⟨rfl, ⟨hsz, hP, hK, hD0⟩, hX⟩ := hv
  have hx := B.exec
  have hb := B.bytes
  have hr := B.returns
  have hts := atoms_spec (ws := wsX0_tick) B.pre
  have hown : s.vm.findClass RX0 = some m.cls := findClass_of_methodNamed B.named
  have hlocks := B.notSynchronized
  subst hsz
  have hin0 : ∀ w ∈ u_ws RX0 TX0 11, w ∈ wsX0_tick := fun w h => List.mem_cons_of_mem _ (wiX0 w h)
  have fl_42 := hts _ (List.mem_cons_of_mem _ flX0_42)
  have hD := hD0.self (sz := s.heap.size)
  generalize hAe : va_A (wm ca ad t k v b n kd ln w nw ins sn) s.heap.size = A at hD hX ⊢
  have hA : ∀ q : Nat, s.heap.size ≤ q → A q := fun q h => by rw [← hAe]; exact Or.inr h
  have hS : va_S A s.heap s.heap [] := va_S.rf
  have hl := lv_entry ([.ref (ad 0), .int p1]) (n := 2) (Nat.le_of_ble_eq_true rfl)
  rw [lg_entry_eq]
  generalize (lg_sl ([.ref (ad 0), .int p1]) ++ List.replicate (2 - (lg_sl ([.ref (ad 0), .int p1])).length) Slot.unset).toArray = ls at hl ⊢
  have hl : lv_has ls 2 [(0, .ref (ad 0)), (1, .int p1)] := hl
  refine lv_iload_n hx hb dX0_tick_0 rfl (lv_at hl 1 rfl) ?_
  refine lv_aload_n hx hb dX0_tick_1 rfl (lv_at hl 0 rfl) ?_
  refine va_get (D := (dC, dI)) (ci := 0) (v := .int nw) (C := RX0) (T := TX0) (N := 11) hx hb hts hin0 hown hK hP 0 rfl rfl 8 (by decide) fl_42 (fun _ h9 => h9) rfl dX0_tick_2 ?_
  refine lv_icmp_lt (tgt := 14) hx hb dX0_tick_5 (by decide) (fun c_1 => ?_) (fun c_1 => ?_)
  · obtain ⟨sa, hsa⟩ := hX.1.2.1 (60, "the time is below now or above 1000000") (by decide)
    exact vx_throwS (own := RX0) (cls := xIAE) (text := "the time is below now or above 1000000") (names := xNM) (ik := 45) (is := 60) (ic := 49) (A := A) hx hb hlt hown xf_IAE xf_NM (hts _ (List.mem_cons_of_mem _ klX0_45)) (hts _ (List.mem_cons_of_mem _ in_java_lang_IllegalArgumentException)) hsa (xa_IAE hts hX.1) xg_IAE hX.2.1 hX.2.2 hS (by rw [hml]; exact hl.1) dX0_tick_14 dX0_tick_17 dX0_tick_18 dX0_tick_20 dX0_tick_23 (fun x h => (het x h).elim) (Nat.le_of_ble_eq_true rfl) (Nat.le_of_ble_eq_true rfl) (Nat.le_of_ble_eq_true rfl) (Nat.le_of_ble_eq_true rfl) hlocks (fun t9 hal hz hq => by
      obtain ⟨gP, gK, gF⟩ := wm_thrown hP hK hS hal hz hq
      exact ⟨(), trivial, ⟨⟨rfl, fun q => Int32.not_lt.mpr q.1 c_1⟩, gP, gK, hD⟩, gF⟩) hS.2.2 (Nat.le_of_ble_eq_true rfl) (Nat.le_of_ble_eq_true rfl)
  · refine lv_iload_n hx hb dX0_tick_8 rfl (lv_at hl 1 rfl) ?_
    refine lv_ldc (v := 1000000) hx hb hown (hts _ (List.mem_cons_of_mem _ cnX0_52)) dX0_tick_9 ?_
    refine lv_icmp_le (tgt := 24) hx hb dX0_tick_11 (by decide) (fun c_2 => ?_) (fun c_2 => ?_)
    · refine lv_aload_n hx hb dX0_tick_24 rfl (lv_at hl 0 rfl) ?_
      refine lv_iload_n hx hb dX0_tick_25 rfl (lv_at hl 1 rfl) ?_
      refine va_put (D := (dC, dI)) (ci := 0) (v := .int p1) (ty := .int) (C := RX0) (T := TX0) (N := 11) hx hb hts hin0 tyX0 tyX0_ok nmX0 hown hK hP hD hS 0 rfl rfl 8 (by decide) fl_42 (fun _ h9 => h9) rfl (by decide +kernel) rfl rfl (Nat.le_of_ble_eq_true rfl) dX0_tick_26 (fun H locs hP hD hS => ?_)
      have hP : va_P (dC, dI) vwCl (wm ca ad t k v b n kd ln w p1 ins sn) H := hP
      have hD : va_D A (wm ca ad t k v b n kd ln w p1 ins sn) := hD
      refine vx_ret (W.widen (k := 1) (n := 6) (Nat.le_of_ble_eq_true rfl) (Nat.le_of_ble_eq_true rfl) ?_)
      exact W.vret hx hb hr (fun t9 ht hW => ⟨⟨(), rfl, ⟨Int32.not_lt.mp c_1, c_2⟩, by rw [ht]; exact hP, va_K.moved hW.alike hK, hD⟩, hS.F ht⟩) hS.2.2 dX0_tick_29
    · obtain ⟨sa, hsa⟩ := hX.1.2.1 (60, "the time is below now or above 1000000") (by decide)
      exact vx_throwS (own := RX0) (cls := xIAE) (text := "the time is below now or above 1000000") (names := xNM) (ik := 45) (is := 60) (ic := 49) (A := A) hx hb hlt hown xf_IAE xf_NM (hts _ (List.mem_cons_of_mem _ klX0_45)) (hts _ (List.mem_cons_of_mem _ in_java_lang_IllegalArgumentException)) hsa (xa_IAE hts hX.1) xg_IAE hX.2.1 hX.2.2 hS (by rw [hml]; exact hl.1) dX0_tick_14 dX0_tick_17 dX0_tick_18 dX0_tick_20 dX0_tick_23 (fun x h => (het x h).elim) (Nat.le_of_ble_eq_true rfl) (Nat.le_of_ble_eq_true rfl) (Nat.le_of_ble_eq_true rfl) (Nat.le_of_ble_eq_true rfl) hlocks (fun t9 hal hz hq => by
        obtain ⟨gP, gK, gF⟩ := wm_thrown hP hK hS hal hz hq
        exact ⟨(), trivial, ⟨⟨rfl, fun q => c_2 q.2⟩, gP, gK, hD⟩, gF⟩) hS.2.2 (Nat.le_of_ble_eq_true rfl) (Nat.le_of_ble_eq_true rfl)
end
section
set_option maxRecDepth 100000 in
set_option maxHeartbeats 4000000 in
/-- tuple(time, key, value) -/
theorem c_tuple (l : Launch) (hlt : l.stackTraces = false) (dC : Nat → ClassId) (dI : Nat → Nat → Nat) (ca : Nat → ClassId) (ad : Nat → Nat) (sz : Nat) (t : Nat → Int32) (k : Nat → Nat) (v : Nat → Int32) (b : Nat → Nat) (n : Nat) (kd : Nat → Int32) (ln : Nat → Int32) (w : Nat) (nw : Int32) (ins : Nat → Int32) (sn : Nat → Nat) (p1 p2 p3 : Int32) (hn : n ≤ 300) (hbn : ∀ j, j < n → b j < n) : vx_Met l yX0_tuple wsX0_tuple ({ frames := 6, cells := 1, slots := 6, locals := 90 }) (va_Pc [.ref (ad 0), .int p1, .int p2, .int p3] (fun U => wmPre dC dI ca ad sz t k v b n kd ln w nw ins sn U ∧ xwP (va_A (wm ca ad t k v b n kd ln w nw ins sn) sz) U)) (va_Qi (fun (r : Int32) (u : Nat × (Nat → Nat)) => (qx_in p1 nw 1000000 ∧ qx_in p2 0 7) ∧ n < 300 ∧ r = nI (n + 1) ∧ u.1 < 8 ∧ p2 = nI u.1 ∧ qc_ins (upd v n p3) b n u.2) (fun u t9 => wmAt dC dI ca ad (va_A (wm ca ad t k v b n kd ln w nw ins sn) sz) (upd t n p1) (vu k n u.1) (upd v n p3) u.2 (n + 1) kd ln w p1 ins sn t9) (va_A (wm ca ad t k v b n kd ln w nw ins sn) sz)) (vx_X (fun _ : Unit => True) (fun E _ t9 => ((E = xIAE ∧ ¬ (qx_in p1 nw 1000000 ∧ qx_in p2 0 7)) ∨ (E = xUOE ∧ (qx_in p1 nw 1000000 ∧ qx_in p2 0 7) ∧ n = 300)) ∧ wmAt dC dI ca ad (va_A (wm ca ad t k v b n kd ln w nw ins sn) sz) t k v b n kd ln w nw ins sn t9) (va_A (wm ca ad t k v b n kd ln w nw ins sn) sz)) 1 6 (va_A (wm ca ad t k v b n kd ln w nw ins sn) sz) := by
  refine vx_ofW (cc := cX0_tuple) (maxL := 5) (ret := (some .int)) (by decide) rfl ?_
  intro p e s m args below meth c s₁ B hml het hv
  obtain ⟨rfl, ⟨hsz, hP, hK, hD0⟩, hX⟩ := hv
  have hx := B.exec
  have hb := B.bytes
  have hr := B.returns
  have hts := atoms_spec (ws := wsX0_tuple) B.pre
  have hown : s.vm.findClass RX0 = some m.cls := findClass_of_methodNamed B.named
  have hlocks := B.notSynchronized
  subst hsz
  have hin0 : ∀ w ∈ u_ws RX0 TX0 11, w ∈ wsX0_tuple := fun w h => List.mem_cons_of_mem _ (wiX0 w h)
  have fl_9 := hts _ (List.mem_cons_of_mem _ flX0_9)
  have fl_13 := hts _ (List.mem_cons_of_mem _ flX0_13)
  have fl_16 := hts _ (List.mem_cons_of_mem _ flX0_16)
  have fl_35 := hts _ (List.mem_cons_of_mem _ flX0_35)
  have fl_42 := hts _ (List.mem_cons_of_mem _ flX0_42)
  have hD := hD0.self (sz := s.heap.size)
  generalize hAe : va_A (wm ca ad t k v b n kd ln w nw ins sn) s.heap.size = A at hD hX ⊢
  have hA : ∀ q : Nat, s.heap.size ≤ q → A q := fun q h => by rw [← hAe]; exact Or.inr h
  have hS : va_S A s.heap s.heap [] := va_S.rf
  have hl := lv_entry ([.ref (ad 0), .int p1, .int p2, .int p3]) (n := 5) (Nat.le_of_ble_eq_true rfl)
  rw [lg_entry_eq]
  generalize (lg_sl ([.ref (ad 0), .int p1, .int p2, .int p3]) ++ List.replicate (5 - (lg_sl ([.ref (ad 0), .int p1, .int p2, .int p3])).length) Slot.unset).toArray = ls at hl ⊢
  have hl : lv_has ls 5 [(0, .ref (ad 0)), (1, .int p1), (2, .int p2), (3, .int p3)] := hl
  refine lv_iload_n hx hb dX0_tuple_0 rfl (lv_at hl 1 rfl) ?_
  refine lv_aload_n hx hb dX0_tuple_1 rfl (lv_at hl 0 rfl) ?_
  refine va_get (D := (dC, dI)) (ci := 0) (v := .int nw) (C := RX0) (T := TX0) (N := 11) hx hb hts hin0 hown hK hP 0 rfl rfl 8 (by decide) fl_42 (fun _ h9 => h9) rfl dX0_tuple_2 ?_
  refine lv_icmp_lt (tgt := 14) hx hb dX0_tuple_5 (by decide) (fun c_1 => ?_) (fun c_1 => ?_)
  · obtain ⟨sa, hsa⟩ := hX.1.2.1 (60, "the time is below now or above 1000000") (by decide)
    exact vx_throwS (own := RX0) (cls := xIAE) (text := "the time is below now or above 1000000") (names := xNM) (ik := 45) (is := 60) (ic := 49) (A := A) hx hb hlt hown xf_IAE xf_NM (hts _ (List.mem_cons_of_mem _ klX0_45)) (hts _ (List.mem_cons_of_mem _ in_java_lang_IllegalArgumentException)) hsa (xa_IAE hts hX.1) xg_IAE hX.2.1 hX.2.2 hS (by rw [hml]; exact hl.1) dX0_tuple_14 dX0_tuple_17 dX0_tuple_18 dX0_tuple_20 dX0_tuple_23 (fun x h => (het x h).elim) (Nat.le_of_ble_eq_true rfl) (Nat.le_of_ble_eq_true rfl) (Nat.le_of_ble_eq_true rfl) (Nat.le_of_ble_eq_true rfl) hlocks (fun t9 hal hz hq => by
      obtain ⟨gP, gK, gF⟩ := wm_thrown hP hK hS hal hz hq
      exact ⟨(), trivial, ⟨Or.inl ⟨rfl, fun q => Int32.not_lt.mpr q.1.1 c_1⟩, gP, gK, hD⟩, gF⟩) hS.2.2 (Nat.le_of_ble_eq_true rfl) (Nat.le_of_ble_eq_true rfl)
  · refine lv_iload_n hx hb dX0_tuple_8 rfl (lv_at hl 1 rfl) ?_
    refine lv_ldc (v := 1000000) hx hb hown (hts _ (List.mem_cons_of_mem _ cnX0_52)) dX0_tuple_9 ?_
    refine lv_icmp_le (tgt := 24) hx hb dX0_tuple_11 (by decide) (fun c_2 => ?_) (fun c_2 => ?_)
    · refine lv_iload_n hx hb dX0_tuple_24 rfl (lv_at hl 2 rfl) ?_
      refine lv_if_lt (tgt := 34) hx hb dX0_tuple_25 (by decide) (fun c_3 => ?_) (fun c_3 => ?_)
      · obtain ⟨sa, hsa⟩ := hX.1.2.1 (62, "no such key") (by decide)
        exact vx_throwS (own := RX0) (cls := xIAE) (text := "no such key") (names := xNM) (ik := 45) (is := 62) (ic := 49) (A := A) hx hb hlt hown xf_IAE xf_NM (hts _ (List.mem_cons_of_mem _ klX0_45)) (hts _ (List.mem_cons_of_mem _ in_java_lang_IllegalArgumentException)) hsa (xa_IAE hts hX.1) xg_IAE hX.2.1 hX.2.2 hS (by rw [hml]; exact hl.1) dX0_tuple_34 dX0_tuple_37 dX0_tuple_38 dX0_tuple_40 dX0_tuple_43 (fun x h => (het x h).elim) (Nat.le_of_ble_eq_true rfl) (Nat.le_of_ble_eq_true rfl) (Nat.le_of_ble_eq_true rfl) (Nat.le_of_ble_eq_true rfl) hlocks (fun t9 hal hz hq => by
          obtain ⟨gP, gK, gF⟩ := wm_thrown hP hK hS hal hz hq
          exact ⟨(), trivial, ⟨Or.inl ⟨rfl, fun q => (qx_in7.mp q.2).1 c_3⟩, gP, gK, hD⟩, gF⟩) hS.2.2 (Nat.le_of_ble_eq_true rfl) (Nat.le_of_ble_eq_true rfl)
      · refine lv_iload_n hx hb dX0_tuple_28 rfl (lv_at hl 2 rfl) ?_
        refine lv_bipush (v := 8) hx hb dX0_tuple_29 (by decide) ?_
        refine lv_icmp_lt (tgt := 44) hx hb dX0_tuple_31 (by decide) (fun c_4 => ?_) (fun c_4 => ?_)
        · have hG : qx_in p1 nw 1000000 ∧ qx_in p2 0 7 := ⟨⟨Int32.not_lt.mp c_1, c_2⟩, qx_in7.mpr ⟨c_3, c_4⟩⟩
          refine lv_aload_n hx hb dX0_tuple_44 rfl (lv_at hl 0 rfl) ?_
          refine va_get (D := (dC, dI)) (ci := 0) (v := .int (nI n)) (C := RX0) (T := TX0) (N := 11) hx hb hts hin0 hown hK hP 0 rfl rfl 4 (by decide) fl_35 (fun _ h9 => h9) rfl dX0_tuple_45 ?_
          refine lv_sipush (v := 300) hx hb dX0_tuple_48 (by decide) ?_
          refine lv_icmp_lt (tgt := 64) hx hb dX0_tuple_51 (by decide) (fun c_5 => ?_) (fun c_5 => ?_)
          · have hn3 : n < 300 := (nI_ltI (by omega) (by decide)).mp c_5
            obtain ⟨kk, hkk, rfl⟩ := qx_win_yes (w := 8) (by decide) c_3 c_4
            have hl : lv_has ls 5 [(0, .ref (ad 0)), (1, .int p1), (2, .int (nI kk)), (3, .int p3)] := hl
            refine lv_aload_n hx hb dX0_tuple_64 rfl (lv_at hl 0 rfl) ?_
            refine va_get (D := (dC, dI)) (ci := 0) (v := .int (nI n)) (C := RX0) (T := TX0) (N := 11) hx hb hts hin0 hown hK hP 0 rfl rfl 4 (by decide) fl_35 (fun _ h9 => h9) rfl dX0_tuple_65 ?_
            refine lv_istore (lv' := [(4, .int (nI n)), (0, .ref (ad 0)), (1, .int p1), (2, .int (nI kk)), (3, .int p3)]) hx hb dX0_tuple_68 hl (by decide) rfl (fun ls hl => ?_)
            refine lv_aload_n hx hb dX0_tuple_70 rfl (lv_at hl 1 rfl) ?_
            refine va_get (D := (dC, dI)) (ci := 0) (v := .ref (ad 1)) (C := RX0) (T := TX0) (N := 11) hx hb hts hin0 hown hK hP 0 rfl rfl 0 (by decide) fl_9 (fun _ h9 => h9) rfl dX0_tuple_71 ?_
            refine lv_iload hx hb dX0_tuple_74 (lv_at hl 0 rfl) ?_
            refine lv_iload_n hx hb dX0_tuple_76 rfl (lv_at hl 2 rfl) ?_
            refine ya_iast hx hb hK hP hD hS 1 0 rfl rfl (j := n) hn3 (by decide) dX0_tuple_77 (fun H locs hP hD hS => ?_)
            have hP : va_P (dC, dI) vwCl (wm ca ad (upd t n p1) k v b n kd ln w nw ins sn) H := hP
            have hD : va_D A (wm ca ad (upd t n p1) k v b n kd ln w nw ins sn) := hD
            refine lv_aload_n hx hb dX0_tuple_78 rfl (lv_at hl 1 rfl) ?_
            refine va_get (D := (dC, dI)) (ci := 0) (v := .ref (ad 2)) (C := RX0) (T := TX0) (N := 11) hx hb hts hin0 hown hK hP 0 rfl rfl 1 (by decide) fl_13 (fun _ h9 => h9) rfl dX0_tuple_79 ?_
            refine lv_iload hx hb dX0_tuple_82 (lv_at hl 0 rfl) ?_
            refine lv_iload_n hx hb dX0_tuple_84 rfl (lv_at hl 3 rfl) ?_
            refine ya_iast hx hb hK hP hD hS 2 1 rfl rfl (j := n) hn3 (by decide) dX0_tuple_85 (fun H locs hP hD hS => ?_)
            rw [vu_upd] at hP hD
            have hD : va_D A (wm ca ad (upd t n p1) (vu k n kk) v b n kd ln w nw ins sn) := hD
            have hP : va_P (dC, dI) vwCl (wm ca ad (upd t n p1) (vu k n kk) v b n kd ln w nw ins sn) H := hP
            refine lv_aload_n hx hb dX0_tuple_86 rfl (lv_at hl 1 rfl) ?_
            refine va_get (D := (dC, dI)) (ci := 0) (v := .ref (ad 3)) (C := RX0) (T := TX0) (N := 11) hx hb hts hin0 hown hK hP 0 rfl rfl 2 (by decide) fl_16 (fun _ h9 => h9) rfl dX0_tuple_87 ?_
            refine lv_iload hx hb dX0_tuple_90 (lv_at hl 0 rfl) ?_
            refine lv_iload_n hx hb dX0_tuple_92 rfl (lv_at hl 4 rfl) ?_
            refine ya_iast hx hb hK hP hD hS 3 2 rfl rfl (j := n) hn3 (by decide) dX0_tuple_93 (fun H locs hP hD hS => ?_)
            have hP : va_P (dC, dI) vwCl (wm ca ad (upd t n p1) (vu k n kk) (upd v n p3) b n kd ln w nw ins sn) H := hP
            have hD : va_D A (wm ca ad (upd t n p1) (vu k n kk) (upd v n p3) b n kd ln w nw ins sn) := hD
            refine lv_aload_n hx hb dX0_tuple_94 rfl (lv_at hl 1 rfl) ?_
            refine lv_iload hx hb dX0_tuple_95 (lv_at hl 0 rfl) ?_
            have hFc := va_free (wc := wm ca ad (upd t n p1) (vu k n kk) (upd v n p3) b n kd ln w nw ins sn) hD hS hA [0, 1, 2, 3, 4, 5, 6, 7, 8] rfl
            refine va_callv (va_runV (As := [.int (nI n)]) (rest := []) ⟨hx, hb, hml, hown, hts⟩ (c_placeBySize l dC dI ca ad _ (upd t n p1) (vu k n kk) (upd v n p3) b n kd ln w nw ins sn n hn3 hbn) (cwV 1 hts (gg_V mlX0_66 imX0_placeBySize seX0_placeBySize in_WindowMeters kwX0_placeBySize) rfl rfl rfl (by decide +kernel) ⟨Nat.le_of_ble_eq_true rfl, Nat.le_of_ble_eq_true rfl⟩) (wm_preV hK hP hD [.int (nI n)]) rfl rfl hl.1 rfl (lv_room (Nat.le_of_ble_eq_true rfl)) dX0_tuple_97 ⟨Nat.zero_le _, Nat.zero_le _⟩) hS (fun q _ h => hFc q h) hFc (fun u9 t9 H1 locs ht9 hvm hw9 hB hz1 hk1 hS => ?_)
            obtain ⟨hP, -, hD1⟩ := hB
            rw [ht9] at hP
            have hD := hD1.weaken (fun k q hk h => hFc q.1 h)
            generalize H1 = H at hP hS ⊢
            have hP : va_P (dC, dI) vwCl (wm ca ad (upd t n p1) (vu k n kk) (upd v n p3) u9 n kd ln w nw ins sn) H := hP
            have hD : va_D A (wm ca ad (upd t n p1) (vu k n kk) (upd v n p3) u9 n kd ln w nw ins sn) := hD
            refine lv_aload_n hx hb dX0_tuple_100 rfl (lv_at hl 1 rfl) ?_
            refine lv_iload hx hb dX0_tuple_101 (lv_at hl 0 rfl) ?_
            refine lv_iconst (v := 1) hx hb dX0_tuple_103 (by decide) ?_
            refine lv_iadd hx hb dX0_tuple_104 ?_
            rw [nI_1 n]
            refine va_put (D := (dC, dI)) (ci := 0) (v := .int (nI (n + 1))) (ty := .int) (C := RX0) (T := TX0) (N := 11) hx hb hts hin0 tyX0 tyX0_ok nmX0 hown hK hP hD hS 0 rfl rfl 4 (by decide) fl_35 (fun _ h9 => h9) rfl (by decide +kernel) rfl rfl (Nat.le_of_ble_eq_true rfl) dX0_tuple_105 (fun H locs hP hD hS => ?_)
            have hP : va_P (dC, dI) vwCl (wm ca ad (upd t n p1) (vu k n kk) (upd v n p3) u9 (n + 1) kd ln w nw ins sn) H := hP
            have hD : va_D A (wm ca ad (upd t n p1) (vu k n kk) (upd v n p3) u9 (n + 1) kd ln w nw ins sn) := hD
            refine lv_aload_n hx hb dX0_tuple_108 rfl (lv_at hl 1 rfl) ?_
            refine lv_iload_n hx hb dX0_tuple_109 rfl (lv_at hl 2 rfl) ?_
            refine va_put (D := (dC, dI)) (ci := 0) (v := .int p1) (ty := .int) (C := RX0) (T := TX0) (N := 11) hx hb hts hin0 tyX0 tyX0_ok nmX0 hown hK hP hD hS 0 rfl rfl 8 (by decide) fl_42 (fun _ h9 => h9) rfl (by decide +kernel) rfl rfl (Nat.le_of_ble_eq_true rfl) dX0_tuple_110 (fun H locs hP hD hS => ?_)
            have hP : va_P (dC, dI) vwCl (wm ca ad (upd t n p1) (vu k n kk) (upd v n p3) u9 (n + 1) kd ln w p1 ins sn) H := hP
            have hD : va_D A (wm ca ad (upd t n p1) (vu k n kk) (upd v n p3) u9 (n + 1) kd ln w p1 ins sn) := hD
            refine lv_aload_n hx hb dX0_tuple_113 rfl (lv_at hl 1 rfl) ?_
            refine va_get (D := (dC, dI)) (ci := 0) (v := .int (nI (n + 1))) (C := RX0) (T := TX0) (N := 11) hx hb hts hin0 hown hK hP 0 rfl rfl 4 (by decide) fl_35 (fun _ h9 => h9) rfl dX0_tuple_114 ?_
            refine vx_ret (W.widen (k := 1) (n := 6) (Nat.le_of_ble_eq_true rfl) (Nat.le_of_ble_eq_true rfl) ?_)
            exact W.iret (v := (nI (n + 1))) hx hb hr (fun t9 ht hW => ⟨⟨_, (kk, u9), rfl, ⟨hG, hn3, rfl, hkk, rfl, hw9⟩, by rw [ht]; exact hP, va_K.moved hW.alike hK, hD⟩, hS.F ht⟩) hS.2.2 dX0_tuple_117
          · have hn3 : n = 300 := by
              have h9 : ¬ n < 300 := fun q => c_5 (nI_lt q (by decide))
              omega
            obtain ⟨sa, hsa⟩ := hX.1.2.1 (64, "there are 300 tuples") (by decide)
            exact vx_throwS (own := RX0) (cls := xUOE) (text := "there are 300 tuples") (names := xNM) (ik := 55) (is := 64) (ic := 59) (A := A) hx hb hlt hown xf_UOE xf_NM (hts _ (List.mem_cons_of_mem _ klX0_55)) (hts _ (List.mem_cons_of_mem _ in_java_lang_UnsupportedOperationException)) hsa (xa_UOE hts hX.1) xg_UOE hX.2.1 hX.2.2 hS (by rw [hml]; exact hl.1) dX0_tuple_54 dX0_tuple_57 dX0_tuple_58 dX0_tuple_60 dX0_tuple_63 (fun x h => (het x h).elim) (Nat.le_of_ble_eq_true rfl) (Nat.le_of_ble_eq_true rfl) (Nat.le_of_ble_eq_true rfl) (Nat.le_of_ble_eq_true rfl) hlocks (fun t9 hal hz hq => by
              obtain ⟨gP, gK, gF⟩ := wm_thrown hP hK hS hal hz hq
              exact ⟨(), trivial, ⟨Or.inr ⟨rfl, hG, hn3⟩, gP, gK, hD⟩, gF⟩) hS.2.2 (Nat.le_of_ble_eq_true rfl) (Nat.le_of_ble_eq_true rfl)
        · obtain ⟨sa, hsa⟩ := hX.1.2.1 (62, "no such key") (by decide)
          exact vx_throwS (own := RX0) (cls := xIAE) (text := "no such key") (names := xNM) (ik := 45) (is := 62) (ic := 49) (A := A) hx hb hlt hown xf_IAE xf_NM (hts _ (List.mem_cons_of_mem _ klX0_45)) (hts _ (List.mem_cons_of_mem _ in_java_lang_IllegalArgumentException)) hsa (xa_IAE hts hX.1) xg_IAE hX.2.1 hX.2.2 hS (by rw [hml]; exact hl.1) dX0_tuple_34 dX0_tuple_37 dX0_tuple_38 dX0_tuple_40 dX0_tuple_43 (fun x h => (het x h).elim) (Nat.le_of_ble_eq_true rfl) (Nat.le_of_ble_eq_true rfl) (Nat.le_of_ble_eq_true rfl) (Nat.le_of_ble_eq_true rfl) hlocks (fun t9 hal hz hq => by
            obtain ⟨gP, gK, gF⟩ := wm_thrown hP hK hS hal hz hq
            exact ⟨(), trivial, ⟨Or.inl ⟨rfl, fun q => c_4 (qx_in7.mp q.2).2⟩, gP, gK, hD⟩, gF⟩) hS.2.2 (Nat.le_of_ble_eq_true rfl) (Nat.le_of_ble_eq_true rfl)
    · obtain ⟨sa, hsa⟩ := hX.1.2.1 (60, "the time is below now or above 1000000") (by decide)
      exact vx_throwS (own := RX0) (cls := xIAE) (text := "the time is below now or above 1000000") (names := xNM) (ik := 45) (is := 60) (ic := 49) (A := A) hx hb hlt hown xf_IAE xf_NM (hts _ (List.mem_cons_of_mem _ klX0_45)) (hts _ (List.mem_cons_of_mem _ in_java_lang_IllegalArgumentException)) hsa (xa_IAE hts hX.1) xg_IAE hX.2.1 hX.2.2 hS (by rw [hml]; exact hl.1) dX0_tuple_14 dX0_tuple_17 dX0_tuple_18 dX0_tuple_20 dX0_tuple_23 (fun x h => (het x h).elim) (Nat.le_of_ble_eq_true rfl) (Nat.le_of_ble_eq_true rfl) (Nat.le_of_ble_eq_true rfl) (Nat.le_of_ble_eq_true rfl) hlocks (fun t9 hal hz hq => by
        obtain ⟨gP, gK, gF⟩ := wm_thrown hP hK hS hal hz hq
        exact ⟨(), trivial, ⟨Or.inl ⟨rfl, fun q => c_2 q.1.2⟩, gP, gK, hD⟩, gF⟩) hS.2.2 (Nat.le_of_ble_eq_true rfl) (Nat.le_of_ble_eq_true rfl)

set_option maxRecDepth 100000 in
set_option maxHeartbeats 4000000 in
/-- below(w, v) -/
theorem c_below (l : Launch) (hlt : l.stackTraces = false) (dC : Nat → ClassId) (dI : Nat → Nat → Nat) (ca : Nat → ClassId) (ad : Nat → Nat) (sz : Nat) (t : Nat → Int32) (k : Nat → Nat) (v : Nat → Int32) (b : Nat → Nat) (n : Nat) (kd : Nat → Int32) (ln : Nat → Int32) (w : Nat) (nw : Int32) (ins : Nat → Int32) (sn : Nat → Nat) (p1 p2 : Int32) (hn : n ≤ 300) (hk8 : ∀ j, j < n → k j < 8) (hw6 : w ≤ 6) (hbn : ∀ j, j < n → b j < n) : vx_Met l yX0_below wsX0_below ({ frames := 7, cells := 1, slots := 6, locals := 111 }) (va_Pc [.ref (ad 0), .int p1, .int p2] (fun U => wmPre dC dI ca ad sz t k v b n kd ln w nw ins sn U ∧ xwP (va_A (wm ca ad t k v b n kd ln w nw ins sn) sz) U)) (va_Qi (fun (r : Int32) (u : (Nat → Int32) × (Nat → Nat)) => ∃ wi, wi < w ∧ p1 = nI wi ∧ (∀ j, j < n → qc_mk (u.1 j) (qc_in t k n nw (kd wi) (ln wi) j)) ∧ r = nI (qc_bel v u.1 p2 n)) (fun u t9 => wmAt dC dI ca ad (va_A (wm ca ad t k v b n kd ln w nw ins sn) sz) t k v b n kd ln w nw u.1 u.2 t9) (va_A (wm ca ad t k v b n kd ln w nw ins sn) sz)) (vx_X (fun _ : Unit => True) (fun E _ t9 => (E = xIOB ∧ ¬ qx_win w p1) ∧ wmAt dC dI ca ad (va_A (wm ca ad t k v b n kd ln w nw ins sn) sz) t k v b n kd ln w nw ins sn t9) (va_A (wm ca ad t k v b n kd ln w nw ins sn) sz)) 1 6 (va_A (wm ca ad t k v b n kd ln w nw ins sn) sz) := by
  refine vx_ofW (cc := cX0_below) (maxL := 5) (ret := (some .int)) (by decide) rfl ?_
  intro p e s m args below meth c s₁ B hml het hv
  obtain ⟨rfl, ⟨hsz, hP, hK, hD0⟩, hX⟩ := hv
  have hx := B.exec
  have hb := B.bytes
  have hr := B.returns
  have hts := atoms_spec (ws := wsX0_below) B.pre
  have hown : s.vm.findClass RX0 = some m.cls := findClass_of_methodNamed B.named
  have hlocks := B.notSynchronized
  subst hsz
  have hin0 : ∀ w ∈ u_ws RX0 TX0 11, w ∈ wsX0_below := fun w h => List.mem_cons_of_mem _ (wiX0 w h)
  have fl_16 := hts _ (List.mem_cons_of_mem _ flX0_16)
  have fl_28 := hts _ (List.mem_cons_of_mem _ flX0_28)
  have fl_35 := hts _ (List.mem_cons_of_mem _ flX0_35)
  have hD := hD0.self (sz := s.heap.size)
  generalize hAe : va_A (wm ca ad t k v b n kd ln w nw ins sn) s.heap.size = A at hD hX ⊢
  have hA : ∀ q : Nat, s.heap.size ≤ q → A q := fun q h => by rw [← hAe]; exact Or.inr h
  have hS : va_S A s.heap s.heap [] := va_S.rf
  have hl := lv_entry ([.ref (ad 0), .int p1, .int p2]) (n := 5) (Nat.le_of_ble_eq_true rfl)
  rw [lg_entry_eq]
  generalize (lg_sl ([.ref (ad 0), .int p1, .int p2]) ++ List.replicate (5 - (lg_sl ([.ref (ad 0), .int p1, .int p2])).length) Slot.unset).toArray = ls at hl ⊢
  have hl : lv_has ls 5 [(0, .ref (ad 0)), (1, .int p1), (2, .int p2)] := hl
  refine lv_aload_n hx hb dX0_below_0 rfl (lv_at hl 0 rfl) ?_
  refine lv_iload_n hx hb dX0_below_1 rfl (lv_at hl 1 rfl) ?_
  have hFc := va_free (wc := wm ca ad t k v b n kd ln w nw ins sn) hD hS hA [0, 1, 2, 3, 4, 5, 6, 7, 8] rfl
  refine vx_callv (vx_runV (As := [.int p1]) (rest := []) ⟨hx, hb, hml, hown, hts⟩ (c_checkWindow l hlt dC dI ca ad _ t k v b n kd ln w nw ins sn p1 hw6) (cwV 1 hts (gg_V mlX0_70 imX0_checkWindow seX0_checkWindow in_WindowMeters kwX0_checkWindow) rfl rfl rfl (by decide +kernel) ⟨Nat.le_of_ble_eq_true rfl, Nat.le_of_ble_eq_true rfl⟩) (wm_preX hK hP hD hS hFc hX [.int p1]) rfl rfl hl.1 rfl (lv_room (Nat.le_of_ble_eq_true rfl)) dX0_below_2 ⟨Nat.le_of_ble_eq_true rfl, Nat.le_of_ble_eq_true rfl⟩) hS (fun q _ h => hFc q h) hFc (fun q _ h => hFc q h) (fun E ce q9 u t9 H1 locs ht9 hvm _ hB hz1 hk1 hS hcell hcv hcl => ?_) (fun u t9 H1 locs ht9 hvm hw_1 hB hz1 hk1 hS => ?_)
  · obtain ⟨hE, hP, -, hD1⟩ := hB
    rw [ht9] at hP
    have hD := hD1.weaken (fun k q hk h => hFc q.1 h)
    exact vx_out (fun x h => (het x h).elim) hlocks hcell hcv hcl (fun t8 ht8 hal => ⟨(), trivial, ⟨hE, by rw [ht8]; exact hP, va_K.moved hal hK, hD⟩, hS.F ht8⟩) hS.2.2 (Nat.le_of_ble_eq_true rfl) (Nat.le_of_ble_eq_true rfl)
  · obtain ⟨hP, -, hD1⟩ := hB
    rw [ht9] at hP
    have hD := hD1.weaken (fun k q hk h => hFc q.1 h)
    generalize H1 = H at hP hS ⊢
    have hP : va_P (dC, dI) vwCl (wm ca ad t k v b n kd ln w nw ins sn) H := hP
    have hD : va_D A (wm ca ad t k v b n kd ln w nw ins sn) := hD
    obtain ⟨wi, hwi, rfl⟩ := hw_1
    have hl : lv_has ls 5 [(0, .ref (ad 0)), (1, .int (nI wi)), (2, .int p2)] := hl
    refine lv_aload_n hx hb dX0_below_5 rfl (lv_at hl 0 rfl) ?_
    refine lv_iload_n hx hb dX0_below_6 rfl (lv_at hl 1 rfl) ?_
    have hFc := va_free (wc := wm ca ad t k v b n kd ln w nw ins sn) hD hS hA [0, 1, 2, 3, 4, 5, 6, 7, 8] rfl
    refine va_callv (va_runV (As := [.int (nI wi)]) (rest := []) ⟨hx, hb, hml, hown, hts⟩ (c_markInside l dC dI ca ad _ t k v b n kd ln w nw ins sn wi  hn hk8 (by omega)) (cwV 1 hts (gg_V mlX0_75 imX0_markInside seX0_markInside in_WindowMeters kwX0_markInside) rfl rfl rfl (by decide +kernel) ⟨Nat.le_of_ble_eq_true rfl, Nat.le_of_ble_eq_true rfl⟩) (wm_preV hK hP hD [.int (nI wi)]) rfl rfl hl.1 rfl (lv_room (Nat.le_of_ble_eq_true rfl)) dX0_below_7 ⟨Nat.le_of_ble_eq_true rfl, Nat.le_of_ble_eq_true rfl⟩) hS (fun q _ h => hFc q h) hFc (fun u9 t9 H1 locs ht9 hvm hw_2 hB hz1 hk1 hS => ?_)
    obtain ⟨hP, -, hD1⟩ := hB
    rw [ht9] at hP
    have hD := hD1.weaken (fun k q hk h => hFc q.1 h)
    generalize H1 = H at hP hS ⊢
    have hP : va_P (dC, dI) vwCl (wm ca ad t k v b n kd ln w nw u9.1 u9.2) H := hP
    have hD : va_D A (wm ca ad t k v b n kd ln w nw u9.1 u9.2) := hD
    refine lv_iconst (v := 0) hx hb dX0_below_10 (by decide) ?_
    refine lv_istore_n (lv' := [(3, .int 0), (0, .ref (ad 0)), (1, .int (nI wi)), (2, .int p2)]) hx hb dX0_below_11 rfl hl (by decide) rfl (fun ls hl => ?_)
    refine lv_iconst (v := 0) hx hb dX0_below_12 (by decide) ?_
    refine lv_istore (lv' := [(4, .int 0), (3, .int 0), (0, .ref (ad 0)), (1, .int (nI wi)), (2, .int p2)]) hx hb dX0_below_13 hl (by decide) rfl (fun ls hl => ?_)
    have loop : ∀ (d i : Nat), i ≤ n → n + 1 ≤ i + d → ∀ (ls : Array Slot), lv_has ls 5 [(0, .ref (ad 0)), (1, .int (nI wi)), (2, .int p2), (3, .int (nI (qc_bel v u9.1 p2 i))), (4, .int (nI i))] → W p l e (headSpec wsX0_below ({ frames := 7, cells := 1, slots := 6, locals := 111 })).room s m ([.ref (ad 0), .int (nI wi), .int p2] : List Value).toArray below meth c H locs 1 6 (vx_MQ below (va_Qi (fun (r : Int32) (u : (Nat → Int32) × (Nat → Nat)) => ∃ wi9, wi9 < w ∧ nI wi = nI wi9 ∧ (∀ j, j < n → qc_mk (u.1 j) (qc_in t k n nw (kd wi9) (ln wi9) j)) ∧ r = nI (qc_bel v u.1 p2 n)) (fun u t9 => wmAt dC dI ca ad A t k v b n kd ln w nw u.1 u.2 t9) A) (vx_X (fun _ : Unit => True) (fun E _ t9 => (E = xIOB ∧ ¬ qx_win w (nI wi)) ∧ wmAt dC dI ca ad A t k v b n kd ln w nw ins sn t9) A) ([.ref (ad 0), .int (nI wi), .int p2] : List Value).toArray s 1 6 A) (F0 m 15 ls []) := by
      intro d
      induction d with
      | zero =>
        intro i hi hfu
        exact absurd hfu (by omega)
      | succ d ih =>
        intro i hi hfu  ls hl
        refine lv_iload hx hb dX0_below_15 (lv_at hl 4 rfl) ?_
        refine lv_aload_n hx hb dX0_below_17 rfl (lv_at hl 0 rfl) ?_
        refine va_get (D := (dC, dI)) (ci := 0) (v := .int (nI n)) (C := RX0) (T := TX0) (N := 11) hx hb hts hin0 hown hK hP 0 rfl rfl 4 (by decide) fl_35 (fun _ h9 => h9) rfl dX0_below_18 ?_
        refine yb_ge (tgt := 54) (by omega) (by omega) hx hb dX0_below_21 (by decide) (fun c_3 => ?_) (fun c_3 => ?_)
        · refine lv_iload_n hx hb dX0_below_54 rfl (lv_at hl 3 rfl) ?_
          obtain rfl : i = n := by omega
          refine vx_ret (W.widen (k := 1) (n := 6) (Nat.le_of_ble_eq_true rfl) (Nat.le_of_ble_eq_true rfl) ?_)
          exact W.iret (v := (nI (qc_bel v u9.1 p2 i))) hx hb hr (fun t9 ht hW => ⟨⟨_, u9, rfl, ⟨wi, hwi, rfl, hw_2, rfl⟩, by rw [ht]; exact hP, va_K.moved hW.alike hK, hD⟩, hS.F ht⟩) hS.2.2 dX0_below_55
        · refine lv_aload_n hx hb dX0_below_24 rfl (lv_at hl 0 rfl) ?_
          refine va_get (D := (dC, dI)) (ci := 0) (v := .ref (ad 7)) (C := RX0) (T := TX0) (N := 11) hx hb hts hin0 hown hK hP 0 rfl rfl 9 (by decide) fl_28 (fun _ h9 => h9) rfl dX0_below_25 ?_
          refine lv_iload hx hb dX0_below_28 (lv_at hl 4 rfl) ?_
          refine ya_zald hx hb hK hP 7 6 rfl rfl (j := i) (by omega) (by decide) dX0_below_30 ?_
          refine lv_if_eq (tgt := 48) hx hb dX0_below_31 (by decide) (fun c_4 => ?_) (fun c_4 => ?_)
          · refine lv_iinc (v := (nI (i + 1))) (lv' := [(4, .int (nI (i + 1))), (0, .ref (ad 0)), (1, .int (nI wi)), (2, .int p2), (3, .int (nI (qc_bel v u9.1 p2 i)))]) hx hb dX0_below_48 hl (k := 4) rfl (yn_inc _) (by decide) rfl (fun ls hl => ?_)
            refine lv_goto (tgt := 15) hx hb dX0_below_51 (by decide) ?_
            exact ih (i + 1) (by omega) (by omega) ls (by rw [qc_bel, if_pos c_4]; exact (lv_sub hl [1, 2, 3, 4, 0] rfl))
          · refine lv_aload_n hx hb dX0_below_34 rfl (lv_at hl 0 rfl) ?_
            refine va_get (D := (dC, dI)) (ci := 0) (v := .ref (ad 3)) (C := RX0) (T := TX0) (N := 11) hx hb hts hin0 hown hK hP 0 rfl rfl 2 (by decide) fl_16 (fun _ h9 => h9) rfl dX0_below_35 ?_
            refine lv_iload hx hb dX0_below_38 (lv_at hl 4 rfl) ?_
            refine ya_iald hx hb hK hP 3 2 rfl rfl (j := i) (by omega) (by decide) dX0_below_40 ?_
            refine lv_iload_n hx hb dX0_below_41 rfl (lv_at hl 2 rfl) ?_
            refine lv_icmp_ge (tgt := 48) hx hb dX0_below_42 (by decide) (fun c_5 => ?_) (fun c_5 => ?_)
            · refine lv_iinc (v := (nI (i + 1))) (lv' := [(4, .int (nI (i + 1))), (0, .ref (ad 0)), (1, .int (nI wi)), (2, .int p2), (3, .int (nI (qc_bel v u9.1 p2 i)))]) hx hb dX0_below_48 hl (k := 4) rfl (yn_inc _) (by decide) rfl (fun ls hl => ?_)
              refine lv_goto (tgt := 15) hx hb dX0_below_51 (by decide) ?_
              exact ih (i + 1) (by omega) (by omega) ls (by rw [qc_bel, if_neg c_4, if_pos c_5]; exact (lv_sub hl [1, 2, 3, 4, 0] rfl))
            · refine lv_iinc (v := (nI ((qc_bel v u9.1 p2 i) + 1))) (lv' := [(3, .int (nI ((qc_bel v u9.1 p2 i) + 1))), (0, .ref (ad 0)), (1, .int (nI wi)), (2, .int p2), (4, .int (nI i))]) hx hb dX0_below_45 hl (k := 3) rfl (yn_inc _) (by decide) rfl (fun ls hl => ?_)
              refine lv_iinc (v := (nI (i + 1))) (lv' := [(4, .int (nI (i + 1))), (3, .int (nI ((qc_bel v u9.1 p2 i) + 1))), (0, .ref (ad 0)), (1, .int (nI wi)), (2, .int p2)]) hx hb dX0_below_48 hl (k := 4) rfl (yn_inc _) (by decide) rfl (fun ls hl => ?_)
              refine lv_goto (tgt := 15) hx hb dX0_below_51 (by decide) ?_
              exact ih (i + 1) (by omega) (by omega) ls (by rw [qc_bel, if_neg c_4, if_neg c_5]; exact (lv_sub hl [2, 3, 4, 1, 0] rfl))
    exact loop (n + 1) 0 (Nat.zero_le n) (by omega) ls (lv_sub hl [2, 3, 4, 1, 0] rfl)

set_option maxRecDepth 100000 in
set_option maxHeartbeats 4000000 in
/-- has(w, i) -/
theorem c_has (l : Launch) (hlt : l.stackTraces = false) (dC : Nat → ClassId) (dI : Nat → Nat → Nat) (ca : Nat → ClassId) (ad : Nat → Nat) (sz : Nat) (t : Nat → Int32) (k : Nat → Nat) (v : Nat → Int32) (b : Nat → Nat) (n : Nat) (kd : Nat → Int32) (ln : Nat → Int32) (w : Nat) (nw : Int32) (ins : Nat → Int32) (sn : Nat → Nat) (p1 p2 : Int32) (hn : n ≤ 300) (hk8 : ∀ j, j < n → k j < 8) (hw6 : w ≤ 6) (hbn : ∀ j, j < n → b j < n) : vx_Met l yX0_has wsX0_has ({ frames := 7, cells := 2, slots := 12, locals := 111 }) (va_Pc [.ref (ad 0), .int p1, .int p2] (fun U => wmPre dC dI ca ad sz t k v b n kd ln w nw ins sn U ∧ xwP (va_A (wm ca ad t k v b n kd ln w nw ins sn) sz) U)) (va_Qi (fun (r : Int32) (u : (Nat → Int32) × (Nat → Nat)) => ∃ wi i9, wi < w ∧ p1 = nI wi ∧ i9 < n ∧ p2 = nI i9 ∧ qc_mk r (qc_in t k n nw (kd wi) (ln wi) i9)) (fun u t9 => wmAt dC dI ca ad (va_A (wm ca ad t k v b n kd ln w nw ins sn) sz) t k v b n kd ln w nw u.1 u.2 t9) (va_A (wm ca ad t k v b n kd ln w nw ins sn) sz)) (vx_X (fun _ : Unit => True) (fun E _ t9 => (E = xIOB ∧ ¬ (qx_win w p1 ∧ qx_win n p2)) ∧ wmAt dC dI ca ad (va_A (wm ca ad t k v b n kd ln w nw ins sn) sz) t k v b n kd ln w nw ins sn t9) (va_A (wm ca ad t k v b n kd ln w nw ins sn) sz)) 2 12 (va_A (wm ca ad t k v b n kd ln w nw ins sn) sz) := by
  refine vx_ofW (cc := cX0_has) (maxL := 3) (ret := (some .boolean)) (by decide) rfl ?_
  intro p e s m args below meth c s₁ B hml het hv
  obtain ⟨rfl, ⟨hsz, hP, hK, hD0⟩, hX⟩ := hv
  have hx := B.exec
  have hb := B.bytes
  have hr := B.returns
  have hts := atoms_spec (ws := wsX0_has) B.pre
  have hown : s.vm.findClass RX0 = some m.cls := findClass_of_methodNamed B.named
  have hlocks := B.notSynchronized
  subst hsz
  have hin0 : ∀ w ∈ u_ws RX0 TX0 11, w ∈ wsX0_has := fun w h => List.mem_cons_of_mem _ (wiX0 w h)
  have fl_28 := hts _ (List.mem_cons_of_mem _ flX0_28)
  have fl_35 := hts _ (List.mem_cons_of_mem _ flX0_35)
  have hD := hD0.self (sz := s.heap.size)
  generalize hAe : va_A (wm ca ad t k v b n kd ln w nw ins sn) s.heap.size = A at hD hX ⊢
  have hA : ∀ q : Nat, s.heap.size ≤ q → A q := fun q h => by rw [← hAe]; exact Or.inr h
  have hS : va_S A s.heap s.heap [] := va_S.rf
  have hl := lv_entry ([.ref (ad 0), .int p1, .int p2]) (n := 3) (Nat.le_of_ble_eq_true rfl)
  rw [lg_entry_eq]
  generalize (lg_sl ([.ref (ad 0), .int p1, .int p2]) ++ List.replicate (3 - (lg_sl ([.ref (ad 0), .int p1, .int p2])).length) Slot.unset).toArray = ls at hl ⊢
  have hl : lv_has ls 3 [(0, .ref (ad 0)), (1, .int p1), (2, .int p2)] := hl
  refine lv_aload_n hx hb dX0_has_0 rfl (lv_at hl 0 rfl) ?_
  refine lv_iload_n hx hb dX0_has_1 rfl (lv_at hl 1 rfl) ?_
  have hFc := va_free (wc := wm ca ad t k v b n kd ln w nw ins sn) hD hS hA [0, 1, 2, 3, 4, 5, 6, 7, 8] rfl
  refine vx_callv (vx_runV (As := [.int p1]) (rest := []) ⟨hx, hb, hml, hown, hts⟩ (c_checkWindow l hlt dC dI ca ad _ t k v b n kd ln w nw ins sn p1 hw6) (cwV 1 hts (gg_V mlX0_70 imX0_checkWindow seX0_checkWindow in_WindowMeters kwX0_checkWindow) rfl rfl rfl (by decide +kernel) ⟨Nat.le_of_ble_eq_true rfl, Nat.le_of_ble_eq_true rfl⟩) (wm_preX hK hP hD hS hFc hX [.int p1]) rfl rfl hl.1 rfl (lv_room (Nat.le_of_ble_eq_true rfl)) dX0_has_2 ⟨Nat.le_of_ble_eq_true rfl, Nat.le_of_ble_eq_true rfl⟩) hS (fun q _ h => hFc q h) hFc (fun q _ h => hFc q h) (fun E ce q9 u t9 H1 locs ht9 hvm _ hB hz1 hk1 hS hcell hcv hcl => ?_) (fun u t9 H1 locs ht9 hvm hw_1 hB hz1 hk1 hS => ?_)
  · obtain ⟨hE, hP, -, hD1⟩ := hB
    rw [ht9] at hP
    have hD := hD1.weaken (fun k q hk h => hFc q.1 h)
    exact vx_out (fun x h => (het x h).elim) hlocks hcell hcv hcl (fun t8 ht8 hal => ⟨(), trivial, ⟨⟨hE.1, fun q => hE.2 q.1⟩, by rw [ht8]; exact hP, va_K.moved hal hK, hD⟩, hS.F ht8⟩) hS.2.2 (Nat.le_of_ble_eq_true rfl) (Nat.le_of_ble_eq_true rfl)
  · obtain ⟨hP, -, hD1⟩ := hB
    rw [ht9] at hP
    have hD := hD1.weaken (fun k q hk h => hFc q.1 h)
    generalize H1 = H at hP hS ⊢
    have hP : va_P (dC, dI) vwCl (wm ca ad t k v b n kd ln w nw ins sn) H := hP
    have hD : va_D A (wm ca ad t k v b n kd ln w nw ins sn) := hD
    obtain ⟨wi, hwi, rfl⟩ := hw_1
    have hl : lv_has ls 3 [(0, .ref (ad 0)), (1, .int (nI wi)), (2, .int p2)] := hl
    refine lv_iload_n hx hb dX0_has_5 rfl (lv_at hl 2 rfl) ?_
    refine lv_if_lt (tgt := 17) hx hb dX0_has_6 (by decide) (fun c_2 => ?_) (fun c_2 => ?_)
    · obtain ⟨sa, hsa⟩ := hX.1.2.1 (107, "no such tuple") (by decide)
      exact vx_throwS (own := RX0) (cls := xIOB) (text := "no such tuple") (names := xNM) (ik := 105) (is := 107) (ic := 109) (A := A) hx hb hlt hown xf_IOB xf_NM (hts _ (List.mem_cons_of_mem _ klX0_105)) (hts _ (List.mem_cons_of_mem _ in_java_lang_IndexOutOfBoundsException)) hsa (xa_IOB hts hX.1) xg_IOB hX.2.1 hX.2.2 hS (by rw [hml]; exact hl.1) dX0_has_17 dX0_has_20 dX0_has_21 dX0_has_23 dX0_has_26 (fun x h => (het x h).elim) (Nat.le_of_ble_eq_true rfl) (Nat.le_of_ble_eq_true rfl) (Nat.le_of_ble_eq_true rfl) (Nat.le_of_ble_eq_true rfl) hlocks (fun t9 hal hz hq => by
        obtain ⟨gP, gK, gF⟩ := wm_thrown hP hK hS hal hz hq
        exact ⟨(), trivial, ⟨⟨rfl, fun q => qx_win_no0 (by omega) c_2 q.2⟩, gP, gK, hD⟩, gF⟩) hS.2.2 (Nat.le_of_ble_eq_true rfl) (Nat.le_of_ble_eq_true rfl)
    · refine lv_iload_n hx hb dX0_has_9 rfl (lv_at hl 2 rfl) ?_
      refine lv_aload_n hx hb dX0_has_10 rfl (lv_at hl 0 rfl) ?_
      refine va_get (D := (dC, dI)) (ci := 0) (v := .int (nI n)) (C := RX0) (T := TX0) (N := 11) hx hb hts hin0 hown hK hP 0 rfl rfl 4 (by decide) fl_35 (fun _ h9 => h9) rfl dX0_has_11 ?_
      refine lv_icmp_lt (tgt := 27) hx hb dX0_has_14 (by decide) (fun c_3 => ?_) (fun c_3 => ?_)
      · obtain ⟨i9, hi9, rfl⟩ := qx_win_yes (w := n) (by omega) c_2 c_3
        have hl : lv_has ls 3 [(0, .ref (ad 0)), (1, .int (nI wi)), (2, .int (nI i9))] := hl
        refine lv_aload_n hx hb dX0_has_27 rfl (lv_at hl 0 rfl) ?_
        refine lv_iload_n hx hb dX0_has_28 rfl (lv_at hl 1 rfl) ?_
        have hFc := va_free (wc := wm ca ad t k v b n kd ln w nw ins sn) hD hS hA [0, 1, 2, 3, 4, 5, 6, 7, 8] rfl
        refine va_callv (va_runV (As := [.int (nI wi)]) (rest := []) ⟨hx, hb, hml, hown, hts⟩ (c_markInside l dC dI ca ad _ t k v b n kd ln w nw ins sn wi  hn hk8 (by omega)) (cwV 1 hts (gg_V mlX0_75 imX0_markInside seX0_markInside in_WindowMeters kwX0_markInside) rfl rfl rfl (by decide +kernel) ⟨Nat.le_of_ble_eq_true rfl, Nat.le_of_ble_eq_true rfl⟩) (wm_preV hK hP hD [.int (nI wi)]) rfl rfl hl.1 rfl (lv_room (Nat.le_of_ble_eq_true rfl)) dX0_has_29 ⟨Nat.le_of_ble_eq_true rfl, Nat.le_of_ble_eq_true rfl⟩) hS (fun q _ h => hFc q h) hFc (fun u9 t9 H1 locs ht9 hvm hw_4 hB hz1 hk1 hS => ?_)
        obtain ⟨hP, -, hD1⟩ := hB
        rw [ht9] at hP
        have hD := hD1.weaken (fun k q hk h => hFc q.1 h)
        generalize H1 = H at hP hS ⊢
        have hP : va_P (dC, dI) vwCl (wm ca ad t k v b n kd ln w nw u9.1 u9.2) H := hP
        have hD : va_D A (wm ca ad t k v b n kd ln w nw u9.1 u9.2) := hD
        refine lv_aload_n hx hb dX0_has_32 rfl (lv_at hl 0 rfl) ?_
        refine va_get (D := (dC, dI)) (ci := 0) (v := .ref (ad 7)) (C := RX0) (T := TX0) (N := 11) hx hb hts hin0 hown hK hP 0 rfl rfl 9 (by decide) fl_28 (fun _ h9 => h9) rfl dX0_has_33 ?_
        refine lv_iload_n hx hb dX0_has_36 rfl (lv_at hl 2 rfl) ?_
        refine ya_zald hx hb hK hP 7 6 rfl rfl (j := i9) (by omega) (by decide) dX0_has_37 ?_
        refine vx_ret (W.widen (k := 2) (n := 12) (Nat.le_of_ble_eq_true rfl) (Nat.le_of_ble_eq_true rfl) ?_)
        exact W.zret (v := (u9.1 i9)) hx hb hr (yn_nz (hw_4 i9 hi9)) (fun t9 ht hW => ⟨⟨_, u9, rfl, ⟨wi, i9, hwi, rfl, hi9, rfl, hw_4 i9 hi9⟩, by rw [ht]; exact hP, va_K.moved hW.alike hK, hD⟩, hS.F ht⟩) hS.2.2 dX0_has_38
      · obtain ⟨sa, hsa⟩ := hX.1.2.1 (107, "no such tuple") (by decide)
        exact vx_throwS (own := RX0) (cls := xIOB) (text := "no such tuple") (names := xNM) (ik := 105) (is := 107) (ic := 109) (A := A) hx hb hlt hown xf_IOB xf_NM (hts _ (List.mem_cons_of_mem _ klX0_105)) (hts _ (List.mem_cons_of_mem _ in_java_lang_IndexOutOfBoundsException)) hsa (xa_IOB hts hX.1) xg_IOB hX.2.1 hX.2.2 hS (by rw [hml]; exact hl.1) dX0_has_17 dX0_has_20 dX0_has_21 dX0_has_23 dX0_has_26 (fun x h => (het x h).elim) (Nat.le_of_ble_eq_true rfl) (Nat.le_of_ble_eq_true rfl) (Nat.le_of_ble_eq_true rfl) (Nat.le_of_ble_eq_true rfl) hlocks (fun t9 hal hz hq => by
          obtain ⟨gP, gK, gF⟩ := wm_thrown hP hK hS hal hz hq
          exact ⟨(), trivial, ⟨⟨rfl, fun q => qx_win_no1 (by omega) c_3 q.2⟩, gP, gK, hD⟩, gF⟩) hS.2.2 (Nat.le_of_ble_eq_true rfl) (Nat.le_of_ble_eq_true rfl)
end
section
def qx_met (v : Nat → Int32) (b : Nat → Nat) (f : Nat → Int32) (n : Nat) (p2 : Int32) : Int32 := if p2 = 0 then nI (qc_cnt f n) else if p2 = 1 then qc_sum v f n else if p2 = 2 then nI (qc_unl v b f n).1 else qc_cmf v b f n
theorem yt_out3 {x : Int32} (h0 : ¬ x = 0) (h1 : ¬ x = 1) (h2 : ¬ x = 2) : x.toInt < 0 ∨ 2 < x.toInt := by
  have k : ∀ c : Int32, ¬ x = c → ¬ x.toInt = c.toInt := fun c h q => h (Int32.toInt_inj.mp q)
  have k0 := k 0 h0
  have k1 := k 1 h1
  have k2 := k 2 h2
  have e0 : (0 : Int32).toInt = 0 := by decide
  have e1 : (1 : Int32).toInt = 1 := by decide
  have e2 : (2 : Int32).toInt = 2 := by decide
  omega
set_option maxRecDepth 100000 in
set_option maxHeartbeats 4000000 in
/-- meter(w, what) -/
theorem c_meter (l : Launch) (hlt : l.stackTraces = false) (dC : Nat → ClassId) (dI : Nat → Nat → Nat) (ca : Nat → ClassId) (ad : Nat → Nat) (sz : Nat) (t : Nat → Int32) (k : Nat → Nat) (v : Nat → Int32) (b : Nat → Nat) (n : Nat) (kd : Nat → Int32) (ln : Nat → Int32) (w : Nat) (nw : Int32) (ins : Nat → Int32) (sn : Nat → Nat) (p1 p2 : Int32) (hn : n ≤ 300) (hk8 : ∀ j, j < n → k j < 8) (hw6 : w ≤ 6) (hbn : ∀ j, j < n → b j < n) : vx_Met l yX0_meter wsX0_meter ({ frames := 7, cells := 2, slots := 12, locals := 111 }) (va_Pc [.ref (ad 0), .int p1, .int p2] (fun U => wmPre dC dI ca ad sz t k v b n kd ln w nw ins sn U ∧ xwP (va_A (wm ca ad t k v b n kd ln w nw ins sn) sz) U)) (va_Qi (fun (r : Int32) (u : (Nat → Int32) × (Nat → Nat)) => ∃ wi, wi < w ∧ p1 = nI wi ∧ qx_in p2 0 3 ∧ (∀ j, j < n → qc_mk (u.1 j) (qc_in t k n nw (kd wi) (ln wi) j)) ∧ r = qx_met v b u.1 n p2) (fun u t9 => wmAt dC dI ca ad (va_A (wm ca ad t k v b n kd ln w nw ins sn) sz) t k v b n kd ln w nw u.1 u.2 t9) (va_A (wm ca ad t k v b n kd ln w nw ins sn) sz)) (vx_X (fun _ : Unit => True) (fun E _ t9 => ((E = xIOB ∧ ¬ qx_win w p1) ∨ (E = xIAE ∧ qx_win w p1 ∧ ¬ qx_in p2 0 3)) ∧ wmAt dC dI ca ad (va_A (wm ca ad t k v b n kd ln w nw ins sn) sz) t k v b n kd ln w nw ins sn t9) (va_A (wm ca ad t k v b n kd ln w nw ins sn) sz)) 2 12 (va_A (wm ca ad t k v b n kd ln w nw ins sn) sz) := by
  refine vx_ofW (cc := cX0_meter) (maxL := 3) (ret := (some .int)) (by decide) rfl ?_
  intro p e s m args below meth c s₁ B hml het hv
  obtain ⟨rfl, ⟨hsz, hP, hK, hD0⟩, hX⟩ := hv
  have hx := B.exec
  have hb := B.bytes
  have hr := B.returns
  have hts := atoms_spec (ws := wsX0_meter) B.pre
  have hown : s.vm.findClass RX0 = some m.cls := findClass_of_methodNamed B.named
  have hlocks := B.notSynchronized
  subst hsz
  have hD := hD0.self (sz := s.heap.size)
  generalize hAe : va_A (wm ca ad t k v b n kd ln w nw ins sn) s.heap.size = A at hD hX ⊢
  have hA : ∀ q : Nat, s.heap.size ≤ q → A q := fun q h => by rw [← hAe]; exact Or.inr h
  have hS : va_S A s.heap s.heap [] := va_S.rf
  have hl := lv_entry ([.ref (ad 0), .int p1, .int p2]) (n := 3) (Nat.le_of_ble_eq_true rfl)
  rw [lg_entry_eq]
  generalize (lg_sl ([.ref (ad 0), .int p1, .int p2]) ++ List.replicate (3 - (lg_sl ([.ref (ad 0), .int p1, .int p2])).length) Slot.unset).toArray = ls at hl ⊢
  have hl : lv_has ls 3 [(0, .ref (ad 0)), (1, .int p1), (2, .int p2)] := hl
  refine lv_aload_n hx hb dX0_meter_0 rfl (lv_at hl 0 rfl) ?_
  refine lv_iload_n hx hb dX0_meter_1 rfl (lv_at hl 1 rfl) ?_
  have hFc := va_free (wc := wm ca ad t k v b n kd ln w nw ins sn) hD hS hA [0, 1, 2, 3, 4, 5, 6, 7, 8] rfl
  refine vx_callv (vx_runV (As := [.int p1]) (rest := []) ⟨hx, hb, hml, hown, hts⟩ (c_checkWindow l hlt dC dI ca ad _ t k v b n kd ln w nw ins sn p1 hw6) (cwV 1 hts (gg_V mlX0_70 imX0_checkWindow seX0_checkWindow in_WindowMeters kwX0_checkWindow) rfl rfl rfl (by decide +kernel) ⟨Nat.le_of_ble_eq_true rfl, Nat.le_of_ble_eq_true rfl⟩) (wm_preX hK hP hD hS hFc hX [.int p1]) rfl rfl hl.1 rfl (lv_room (Nat.le_of_ble_eq_true rfl)) dX0_meter_2 ⟨Nat.le_of_ble_eq_true rfl, Nat.le_of_ble_eq_true rfl⟩) hS (fun q _ h => hFc q h) hFc (fun q _ h => hFc q h) (fun E ce q9 u t9 H1 locs ht9 hvm _ hB hz1 hk1 hS hcell hcv hcl => ?_) (fun u t9 H1 locs ht9 hvm hw_1 hB hz1 hk1 hS => ?_)
  · obtain ⟨hE, hP, -, hD1⟩ := hB
    rw [ht9] at hP
    have hD := hD1.weaken (fun k q hk h => hFc q.1 h)
    exact vx_out (fun x h => (het x h).elim) hlocks hcell hcv hcl (fun t8 ht8 hal => ⟨(), trivial, ⟨Or.inl hE, by rw [ht8]; exact hP, va_K.moved hal hK, hD⟩, hS.F ht8⟩) hS.2.2 (Nat.le_of_ble_eq_true rfl) (Nat.le_of_ble_eq_true rfl)
  · obtain ⟨hP, -, hD1⟩ := hB
    rw [ht9] at hP
    have hD := hD1.weaken (fun k q hk h => hFc q.1 h)
    generalize H1 = H at hP hS ⊢
    have hP : va_P (dC, dI) vwCl (wm ca ad t k v b n kd ln w nw ins sn) H := hP
    have hD : va_D A (wm ca ad t k v b n kd ln w nw ins sn) := hD
    obtain ⟨wi, hwi, rfl⟩ := hw_1
    have hl : lv_has ls 3 [(0, .ref (ad 0)), (1, .int (nI wi)), (2, .int p2)] := hl
    refine lv_iload_n hx hb dX0_meter_5 rfl (lv_at hl 2 rfl) ?_
    refine lv_if_lt (tgt := 14) hx hb dX0_meter_6 (by decide) (fun c_2 => ?_) (fun c_2 => ?_)
    · obtain ⟨sa, hsa⟩ := hX.1.2.1 (73, "no such meter") (by decide)
      exact vx_throwS (own := RX0) (cls := xIAE) (text := "no such meter") (names := xNM) (ik := 45) (is := 73) (ic := 49) (A := A) hx hb hlt hown xf_IAE xf_NM (hts _ (List.mem_cons_of_mem _ klX0_45)) (hts _ (List.mem_cons_of_mem _ in_java_lang_IllegalArgumentException)) hsa (xa_IAE hts hX.1) xg_IAE hX.2.1 hX.2.2 hS (by rw [hml]; exact hl.1) dX0_meter_14 dX0_meter_17 dX0_meter_18 dX0_meter_20 dX0_meter_23 (fun x h => (het x h).elim) (Nat.le_of_ble_eq_true rfl) (Nat.le_of_ble_eq_true rfl) (Nat.le_of_ble_eq_true rfl) (Nat.le_of_ble_eq_true rfl) hlocks (fun t9 hal hz hq => by
        obtain ⟨gP, gK, gF⟩ := wm_thrown hP hK hS hal hz hq
        exact ⟨(), trivial, ⟨Or.inr ⟨rfl, ⟨wi, hwi, rfl⟩, fun q => (qx_in0.mp q).1 c_2⟩, gP, gK, hD⟩, gF⟩) hS.2.2 (Nat.le_of_ble_eq_true rfl) (Nat.le_of_ble_eq_true rfl)
    · refine lv_iload_n hx hb dX0_meter_9 rfl (lv_at hl 2 rfl) ?_
      refine lv_iconst (v := 3) hx hb dX0_meter_10 (by decide) ?_
      refine lv_icmp_le (tgt := 24) hx hb dX0_meter_11 (by decide) (fun c_3 => ?_) (fun c_3 => ?_)
      · have hG : qx_in p2 0 3 := qx_in0.mpr ⟨c_2, c_3⟩
        refine lv_aload_n hx hb dX0_meter_24 rfl (lv_at hl 0 rfl) ?_
        refine lv_iload_n hx hb dX0_meter_25 rfl (lv_at hl 1 rfl) ?_
        have hFc := va_free (wc := wm ca ad t k v b n kd ln w nw ins sn) hD hS hA [0, 1, 2, 3, 4, 5, 6, 7, 8] rfl
        refine va_callv (va_runV (As := [.int (nI wi)]) (rest := []) ⟨hx, hb, hml, hown, hts⟩ (c_markInside l dC dI ca ad _ t k v b n kd ln w nw ins sn wi  hn hk8 (by omega)) (cwV 1 hts (gg_V mlX0_75 imX0_markInside seX0_markInside in_WindowMeters kwX0_markInside) rfl rfl rfl (by decide +kernel) ⟨Nat.le_of_ble_eq_true rfl, Nat.le_of_ble_eq_true rfl⟩) (wm_preV hK hP hD [.int (nI wi)]) rfl rfl hl.1 rfl (lv_room (Nat.le_of_ble_eq_true rfl)) dX0_meter_26 ⟨Nat.le_of_ble_eq_true rfl, Nat.le_of_ble_eq_true rfl⟩) hS (fun q _ h => hFc q h) hFc (fun u9 t9 H1 locs ht9 hvm hw_4 hB hz1 hk1 hS => ?_)
        obtain ⟨hP, -, hD1⟩ := hB
        rw [ht9] at hP
        have hD := hD1.weaken (fun k q hk h => hFc q.1 h)
        generalize H1 = H at hP hS ⊢
        have hP : va_P (dC, dI) vwCl (wm ca ad t k v b n kd ln w nw u9.1 u9.2) H := hP
        have hD : va_D A (wm ca ad t k v b n kd ln w nw u9.1 u9.2) := hD
        refine lv_iload_n hx hb dX0_meter_29 rfl (lv_at hl 2 rfl) ?_
        by_cases g0 : p2 = 0
        · refine lv_tableIn (off := 26) (tgt := 56) hx hb dX0_meter_30 (by rw [g0]; decide) (by rw [g0]; decide) (by rw [g0]; decide) (by decide) ?_
          refine lv_aload_n hx hb dX0_meter_56 rfl (lv_at hl 0 rfl) ?_
          refine vp_callSi (W.runV (As := []) (rest := []) ⟨hx, hb, hml, hown, hts⟩ (c_countInside l dC dI ca ad _ t k v b n kd ln w nw u9.1 u9.2   hn) (cwV 0 hts (gg_V mlX0_78 imX0_countInside seX0_countInside in_WindowMeters kwX0_countInside) rfl rfl rfl (by decide +kernel) ⟨Nat.le_of_ble_eq_true rfl, Nat.le_of_ble_eq_true rfl⟩) (wm_preV hK hP hD []) rfl rfl hl.1 rfl (lv_room (Nat.le_of_ble_eq_true rfl)) dX0_meter_57 ⟨Nat.le_of_ble_eq_true rfl, Nat.le_of_ble_eq_true rfl⟩) (fun r_5 hr_6 => ?_)
          refine vx_ret (W.widen (k := 2) (n := 12) (Nat.le_of_ble_eq_true rfl) (Nat.le_of_ble_eq_true rfl) ?_)
          exact W.iret (v := r_5) hx hb hr (fun t9 ht hW => ⟨⟨_, u9, rfl, ⟨wi, hwi, rfl, hG, hw_4, by rw [qx_met, if_pos g0]; exact hr_6⟩, by rw [ht]; exact hP, va_K.moved hW.alike hK, hD⟩, hS.F ht⟩) hS.2.2 dX0_meter_60
        · skip
          by_cases g1 : p2 = 1
          · refine lv_tableIn (off := 31) (tgt := 61) hx hb dX0_meter_30 (by rw [g1]; decide) (by rw [g1]; decide) (by rw [g1]; decide) (by decide) ?_
            refine lv_aload_n hx hb dX0_meter_61 rfl (lv_at hl 0 rfl) ?_
            refine vp_callSi (W.runV (As := []) (rest := []) ⟨hx, hb, hml, hown, hts⟩ (c_sumInside l dC dI ca ad _ t k v b n kd ln w nw u9.1 u9.2   hn) (cwV 0 hts (gg_V mlX0_82 imX0_sumInside seX0_sumInside in_WindowMeters kwX0_sumInside) rfl rfl rfl (by decide +kernel) ⟨Nat.le_of_ble_eq_true rfl, Nat.le_of_ble_eq_true rfl⟩) (wm_preV hK hP hD []) rfl rfl hl.1 rfl (lv_room (Nat.le_of_ble_eq_true rfl)) dX0_meter_62 ⟨Nat.le_of_ble_eq_true rfl, Nat.le_of_ble_eq_true rfl⟩) (fun r_7 hr_8 => ?_)
            refine vx_ret (W.widen (k := 2) (n := 12) (Nat.le_of_ble_eq_true rfl) (Nat.le_of_ble_eq_true rfl) ?_)
            exact W.iret (v := r_7) hx hb hr (fun t9 ht hW => ⟨⟨_, u9, rfl, ⟨wi, hwi, rfl, hG, hw_4, by rw [qx_met, if_neg g0, if_pos g1]; exact hr_8⟩, by rw [ht]; exact hP, va_K.moved hW.alike hK, hD⟩, hS.F ht⟩) hS.2.2 dX0_meter_65
          · skip
            by_cases g2 : p2 = 2
            · refine lv_tableIn (off := 36) (tgt := 66) hx hb dX0_meter_30 (by rw [g2]; decide) (by rw [g2]; decide) (by rw [g2]; decide) (by decide) ?_
              refine lv_aload_n hx hb dX0_meter_66 rfl (lv_at hl 0 rfl) ?_
              refine vp_callSi (W.runV (As := []) (rest := []) ⟨hx, hb, hml, hown, hts⟩ (c_countUnlike l dC dI ca ad _ t k v b n kd ln w nw u9.1 u9.2   hn hbn) (cwV 0 hts (gg_V mlX0_85 imX0_countUnlike seX0_countUnlike in_WindowMeters kwX0_countUnlike) rfl rfl rfl (by decide +kernel) ⟨Nat.le_of_ble_eq_true rfl, Nat.le_of_ble_eq_true rfl⟩) (wm_preV hK hP hD []) rfl rfl hl.1 rfl (lv_room (Nat.le_of_ble_eq_true rfl)) dX0_meter_67 ⟨Nat.le_of_ble_eq_true rfl, Nat.le_of_ble_eq_true rfl⟩) (fun r_9 hr_10 => ?_)
              refine vx_ret (W.widen (k := 2) (n := 12) (Nat.le_of_ble_eq_true rfl) (Nat.le_of_ble_eq_true rfl) ?_)
              exact W.iret (v := r_9) hx hb hr (fun t9 ht hW => ⟨⟨_, u9, rfl, ⟨wi, hwi, rfl, hG, hw_4, by rw [qx_met, if_neg g0, if_neg g1, if_pos g2]; exact hr_10⟩, by rw [ht]; exact hP, va_K.moved hW.alike hK, hD⟩, hS.F ht⟩) hS.2.2 dX0_meter_70
            · skip
              refine lv_tableOut (tgt := 71) hx hb dX0_meter_30 (yt_out3 g0 g1 g2) (by decide) ?_
              refine lv_aload_n hx hb dX0_meter_71 rfl (lv_at hl 0 rfl) ?_
              refine vp_callSi (W.runV (As := []) (rest := []) ⟨hx, hb, hml, hown, hts⟩ (c_countMostFrequent l dC dI ca ad _ t k v b n kd ln w nw u9.1 u9.2   hn hbn) (cwV 0 hts (gg_V mlX0_88 imX0_countMostFrequent seX0_countMostFrequent in_WindowMeters kwX0_countMostFrequent) rfl rfl rfl (by decide +kernel) ⟨Nat.le_of_ble_eq_true rfl, Nat.le_of_ble_eq_true rfl⟩) (wm_preV hK hP hD []) rfl rfl hl.1 rfl (lv_room (Nat.le_of_ble_eq_true rfl)) dX0_meter_72 ⟨Nat.le_of_ble_eq_true rfl, Nat.le_of_ble_eq_true rfl⟩) (fun r_11 hr_12 => ?_)
              refine vx_ret (W.widen (k := 2) (n := 12) (Nat.le_of_ble_eq_true rfl) (Nat.le_of_ble_eq_true rfl) ?_)
              exact W.iret (v := r_11) hx hb hr (fun t9 ht hW => ⟨⟨_, u9, rfl, ⟨wi, hwi, rfl, hG, hw_4, by rw [qx_met, if_neg g0, if_neg g1, if_neg g2]; exact hr_12⟩, by rw [ht]; exact hP, va_K.moved hW.alike hK, hD⟩, hS.F ht⟩) hS.2.2 dX0_meter_75
      · obtain ⟨sa, hsa⟩ := hX.1.2.1 (73, "no such meter") (by decide)
        exact vx_throwS (own := RX0) (cls := xIAE) (text := "no such meter") (names := xNM) (ik := 45) (is := 73) (ic := 49) (A := A) hx hb hlt hown xf_IAE xf_NM (hts _ (List.mem_cons_of_mem _ klX0_45)) (hts _ (List.mem_cons_of_mem _ in_java_lang_IllegalArgumentException)) hsa (xa_IAE hts hX.1) xg_IAE hX.2.1 hX.2.2 hS (by rw [hml]; exact hl.1) dX0_meter_14 dX0_meter_17 dX0_meter_18 dX0_meter_20 dX0_meter_23 (fun x h => (het x h).elim) (Nat.le_of_ble_eq_true rfl) (Nat.le_of_ble_eq_true rfl) (Nat.le_of_ble_eq_true rfl) (Nat.le_of_ble_eq_true rfl) hlocks (fun t9 hal hz hq => by
          obtain ⟨gP, gK, gF⟩ := wm_thrown hP hK hS hal hz hq
          exact ⟨(), trivial, ⟨Or.inr ⟨rfl, ⟨wi, hwi, rfl⟩, fun q => c_3 q.2⟩, gP, gK, hD⟩, gF⟩) hS.2.2 (Nat.le_of_ble_eq_true rfl) (Nat.le_of_ble_eq_true rfl)

set_option maxRecDepth 100000 in
set_option maxHeartbeats 4000000 in
/-- clear() -/
theorem c_clear (l : Launch) (dC : Nat → ClassId) (dI : Nat → Nat → Nat) (ca : Nat → ClassId) (ad : Nat → Nat) (sz : Nat) (t : Nat → Int32) (k : Nat → Nat) (v : Nat → Int32) (b : Nat → Nat) (n : Nat) (kd : Nat → Int32) (ln : Nat → Int32) (w : Nat) (nw : Int32) (ins : Nat → Int32) (sn : Nat → Nat)  : Met l yX0_clear wsX0_clear ({ frames := 0, cells := 0, slots := 0, locals := 0 }) (va_Pc [.ref (ad 0)] (wmPre dC dI ca ad sz t k v b n kd ln w nw ins sn)) (va_Qv (fun _ : Unit => True) (fun _ t9 => wmAt dC dI ca ad (va_A (wm ca ad t k v b n kd ln w nw ins sn) sz) t k v b 0 kd ln 0 0 ins sn t9) (va_A (wm ca ad t k v b n kd ln w nw ins sn) sz)) 0 0 (va_A (wm ca ad t k v b n kd ln w nw ins sn) sz) := by
  refine Met.ofW (cc := cX0_clear) (maxL := 1) (ret := none) (by decide) rfl ?_
  intro p e s m args below meth c s₁ B hml hv
  obtain ⟨rfl, hsz, hP, hK, hD0⟩ := hv
  have hx := B.exec
  have hb := B.bytes
  have hr := B.returns
  have hts := atoms_spec (ws := wsX0_clear) B.pre
  have hown : s.vm.findClass RX0 = some m.cls := findClass_of_methodNamed B.named
  have hlocks := B.notSynchronized
  subst hsz
  have hin0 : ∀ w ∈ u_ws RX0 TX0 11, w ∈ wsX0_clear := fun w h => List.mem_cons_of_mem _ (wiX0 w h)
  have fl_35 := hts _ (List.mem_cons_of_mem _ flX0_35)
  have fl_39 := hts _ (List.mem_cons_of_mem _ flX0_39)
  have fl_42 := hts _ (List.mem_cons_of_mem _ flX0_42)
  have hD := hD0.self (sz := s.heap.size)
  generalize hAe : va_A (wm ca ad t k v b n kd ln w nw ins sn) s.heap.size = A at hD ⊢
  have hA : ∀ q : Nat, s.heap.size ≤ q → A q := fun q h => by rw [← hAe]; exact Or.inr h
  have hS : va_S A s.heap s.heap [] := va_S.rf
  have hl := lv_entry ([.ref (ad 0)]) (n := 1) (Nat.le_of_ble_eq_true rfl)
  rw [lg_entry_eq]
  generalize (lg_sl ([.ref (ad 0)]) ++ List.replicate (1 - (lg_sl ([.ref (ad 0)])).length) Slot.unset).toArray = ls at hl ⊢
  have hl : lv_has ls 1 [(0, .ref (ad 0))] := hl
  refine lv_aload_n hx hb dX0_clear_0 rfl (lv_at hl 0 rfl) ?_
  refine lv_iconst (v := 0) hx hb dX0_clear_1 (by decide) ?_
  refine va_put (D := (dC, dI)) (ci := 0) (v := .int 0) (ty := .int) (C := RX0) (T := TX0) (N := 11) hx hb hts hin0 tyX0 tyX0_ok nmX0 hown hK hP hD hS 0 rfl rfl 4 (by decide) fl_35 (fun _ h9 => h9) rfl (by decide +kernel) rfl rfl (Nat.le_of_ble_eq_true rfl) dX0_clear_2 (fun H locs hP hD hS => ?_)
  have hP : va_P (dC, dI) vwCl (wm ca ad t k v b 0 kd ln w nw ins sn) H := hP
  have hD : va_D A (wm ca ad t k v b 0 kd ln w nw ins sn) := hD
  refine lv_aload_n hx hb dX0_clear_5 rfl (lv_at hl 0 rfl) ?_
  refine lv_iconst (v := 0) hx hb dX0_clear_6 (by decide) ?_
  refine va_put (D := (dC, dI)) (ci := 0) (v := .int 0) (ty := .int) (C := RX0) (T := TX0) (N := 11) hx hb hts hin0 tyX0 tyX0_ok nmX0 hown hK hP hD hS 0 rfl rfl 7 (by decide) fl_39 (fun _ h9 => h9) rfl (by decide +kernel) rfl rfl (Nat.le_of_ble_eq_true rfl) dX0_clear_7 (fun H locs hP hD hS => ?_)
  have hP : va_P (dC, dI) vwCl (wm ca ad t k v b 0 kd ln 0 nw ins sn) H := hP
  have hD : va_D A (wm ca ad t k v b 0 kd ln 0 nw ins sn) := hD
  refine lv_aload_n hx hb dX0_clear_10 rfl (lv_at hl 0 rfl) ?_
  refine lv_iconst (v := 0) hx hb dX0_clear_11 (by decide) ?_
  refine va_put (D := (dC, dI)) (ci := 0) (v := .int 0) (ty := .int) (C := RX0) (T := TX0) (N := 11) hx hb hts hin0 tyX0 tyX0_ok nmX0 hown hK hP hD hS 0 rfl rfl 8 (by decide) fl_42 (fun _ h9 => h9) rfl (by decide +kernel) rfl rfl (Nat.le_of_ble_eq_true rfl) dX0_clear_12 (fun H locs hP hD hS => ?_)
  have hP : va_P (dC, dI) vwCl (wm ca ad t k v b 0 kd ln 0 0 ins sn) H := hP
  have hD : va_D A (wm ca ad t k v b 0 kd ln 0 0 ins sn) := hD
  exact W.vret hx hb hr (fun t9 ht hW => ⟨⟨(), rfl, trivial, by rw [ht]; exact hP, va_K.moved hW.alike hK, hD⟩, hS.F ht⟩) hS.2.2 dX0_clear_15

set_option maxRecDepth 100000 in
set_option maxHeartbeats 4000000 in
/-- now() -/
theorem c_now (l : Launch) (dC : Nat → ClassId) (dI : Nat → Nat → Nat) (ca : Nat → ClassId) (ad : Nat → Nat) (sz : Nat) (t : Nat → Int32) (k : Nat → Nat) (v : Nat → Int32) (b : Nat → Nat) (n : Nat) (kd : Nat → Int32) (ln : Nat → Int32) (w : Nat) (nw : Int32) (ins : Nat → Int32) (sn : Nat → Nat)  : Met l yX0_now wsX0_now ({ frames := 0, cells := 0, slots := 0, locals := 0 }) (va_Pc [.ref (ad 0)] (wmPre dC dI ca ad sz t k v b n kd ln w nw ins sn)) (vp_Si (fun r => r = nw)) 0 0 (fun _ => False) := by
  refine Met.ofW (cc := cX0_now) (maxL := 1) (ret := (some .int)) (by decide) rfl ?_
  intro p e s m args below meth c s₁ B hml hv
  obtain ⟨rfl, hsz, hP, hK, hD0⟩ := hv
  have hx := B.exec
  have hb := B.bytes
  have hr := B.returns
  have hts := atoms_spec (ws := wsX0_now) B.pre
  have hown : s.vm.findClass RX0 = some m.cls := findClass_of_methodNamed B.named
  have hlocks := B.notSynchronized
  subst hsz
  have hin0 : ∀ w ∈ u_ws RX0 TX0 11, w ∈ wsX0_now := fun w h => List.mem_cons_of_mem _ (wiX0 w h)
  have fl_42 := hts _ (List.mem_cons_of_mem _ flX0_42)
  have hD := hD0
  have hl := lv_entry ([.ref (ad 0)]) (n := 1) (Nat.le_of_ble_eq_true rfl)
  rw [lg_entry_eq]
  generalize (lg_sl ([.ref (ad 0)]) ++ List.replicate (1 - (lg_sl ([.ref (ad 0)])).length) Slot.unset).toArray = ls at hl ⊢
  have hl : lv_has ls 1 [(0, .ref (ad 0))] := hl
  refine lv_aload_n hx hb dX0_now_0 rfl (lv_at hl 0 rfl) ?_
  refine va_get (D := (dC, dI)) (ci := 0) (v := .int nw) (C := RX0) (T := TX0) (N := 11) hx hb hts hin0 hown hK hP 0 rfl rfl 8 (by decide) fl_42 (fun _ h9 => h9) rfl dX0_now_1 ?_
  exact W.iret (v := nw) hx hb hr (fun t ht hW => ⟨_, rfl, rfl, ht⟩) (fun q h => by cases h) dX0_now_4

set_option maxRecDepth 100000 in
set_option maxHeartbeats 4000000 in
/-- WindowMeters() -/
theorem c_X0_init (l : Launch) (dC : Nat → ClassId) (dI : Nat → Nat → Nat) (h0 sz : Nat) : Met l yX0_init wsX0_init ({ frames := 1, cells := 8, slots := 1520, locals := 12 }) (va_Pc [.ref h0] (fun U => U.heap.size = sz ∧ va_P (dC, dI) vwCl [(h0, .inr (0, [.null, .null, .null, .null, .int 0, .null, .null, .int 0, .int 0, .null, .null]))] U.heap ∧ va_K (dC, dI) vwCl [] U ∧ va_D (fun _ => True) [(h0, .inr (0, [.null, .null, .null, .null, .int 0, .null, .null, .int 0, .int 0, .null, .null]))])) (va_Qv (fun u : (Nat → ClassId) × (Nat → Nat) => u.2 0 = h0) (fun u t9 => wmAt dC dI u.1 u.2 (va_A [(h0, .inr (0, [.null, .null, .null, .null, .int 0, .null, .null, .int 0, .int 0, .null, .null]))] sz) (fun _ => 0) (fun _ => 0) (fun _ => 0) (fun _ => 0) 0 (fun _ => 0) (fun _ => 0) 0 0 (fun _ => 0) (fun _ => 0) t9) (va_A [(h0, .inr (0, [.null, .null, .null, .null, .int 0, .null, .null, .int 0, .int 0, .null, .null]))] sz)) 8 1520 (va_A [(h0, .inr (0, [.null, .null, .null, .null, .int 0, .null, .null, .int 0, .int 0, .null, .null]))] sz) := by
  refine Met.ofW (cc := cX0_init) (maxL := 1) (ret := none) (by decide) rfl ?_
  intro p e s m args below meth c s₁ B hml hv
  obtain ⟨rfl, hsz, hP, hK, hD0⟩ := hv
  have hx := B.exec
  have hb := B.bytes
  have hr := B.returns
  have hts := atoms_spec (ws := wsX0_init) B.pre
  have hown : s.vm.findClass RX0 = some m.cls := findClass_of_methodNamed B.named
  have hlocks := B.notSynchronized
  have hin : meth.name = "<init>" := (name_of_methodNamed B.named B.method).1
  subst hsz
  have hin0 : ∀ w ∈ u_ws RX0 TX0 11, w ∈ wsX0_init := fun w h => List.mem_cons_of_mem _ (wiX0 w h)
  have hD := hD0.self (sz := s.heap.size)
  generalize hAe : va_A [(h0, .inr (0, [.null, .null, .null, .null, .int 0, .null, .null, .int 0, .int 0, .null, .null]))] s.heap.size = A at hD ⊢
  have hA : ∀ q : Nat, s.heap.size ≤ q → A q := fun q h => by rw [← hAe]; exact Or.inr h
  have hS : va_S A s.heap s.heap [] := va_S.rf
  have hl := lv_entry ([.ref h0]) (n := 1) (Nat.le_of_ble_eq_true rfl)
  rw [lg_entry_eq]
  generalize (lg_sl ([.ref h0]) ++ List.replicate (1 - (lg_sl ([.ref h0])).length) Slot.unset).toArray = ls at hl ⊢
  have hl : lv_has ls 1 [(0, .ref h0)] := hl
  refine lv_aload_n hx hb dX0_init_0 rfl (lv_at hl 0 rfl) ?_
  refine W.objInit hx hb hown (hts _ (List.mem_cons_of_mem _ mlX0_1)) (hts _ (List.mem_cons_of_mem _ im_obj)) (hts _ (List.mem_cons_of_mem _ kw_obj)) rfl (by rw [hml]; exact hl.1) rfl dX0_init_1 (Nat.le_of_ble_eq_true rfl) (Nat.le_of_ble_eq_true rfl) ?_
  refine W.eq (g2 := F0 m 4 ls []) rfl ?_
  refine lv_aload_n hx hb dX0_init_4 rfl (lv_at hl 0 rfl) ?_
  refine lv_sipush (v := 300) hx hb dX0_init_5 (by decide) ?_
  refine va_newa (atype := .int) (N' := 300) (a0 := (300, .inl (fun _ => 0))) (ty := .int) hx hb (hts _ (List.mem_cons_of_mem _ ac_int)) rfl hK hP hD hS hA (fun _ => rfl) (by decide) (by decide) (by decide) (Nat.le_of_ble_eq_true rfl) (Nat.le_of_ble_eq_true rfl) dX0_init_8 (fun q1 cA1 H hK hP hD hS => ?_)
  have hK : va_K (dC, dI) vwCl [(cA1, .int)] s := hK
  have hP : va_P (dC, dI) vwCl [(h0, .inr (0, [.null, .null, .null, .null, .int 0, .null, .null, .int 0, .int 0, .null, .null])), (q1, .inl (cA1, 300, .inl (fun _ => 0)))] H := hP
  have hD : va_D A [(h0, .inr (0, [.null, .null, .null, .null, .int 0, .null, .null, .int 0, .int 0, .null, .null])), (q1, .inl (cA1, 300, .inl (fun _ => 0)))] := hD
  refine W.widen (k := 1) (n := 300) (Nat.le_of_ble_eq_true rfl) (Nat.le_of_ble_eq_true rfl) ?_
  refine va_putF (D := (dC, dI)) (ci := 0) (v := .ref q1) (ty := .array .int) (C := RX0) (T := TX0) (N := 11) hx hb hts hin0 tyX0 tyX0_ok nmX0 hown hK hP hD hS 0 rfl rfl 0 (by decide) (hts _ (List.mem_cons_of_mem _ flX0_9)) (fun _ h9 => h9) rfl hin rfl (by decide +kernel) rfl rfl (Nat.le_of_ble_eq_true rfl) dX0_init_10 (fun H locs hP hD hS => ?_)
  have hP : va_P (dC, dI) vwCl [(h0, .inr (0, [.ref q1, .null, .null, .null, .int 0, .null, .null, .int 0, .int 0, .null, .null])), (q1, .inl (cA1, 300, .inl (fun _ => 0)))] H := hP
  have hD : va_D A [(h0, .inr (0, [.ref q1, .null, .null, .null, .int 0, .null, .null, .int 0, .int 0, .null, .null])), (q1, .inl (cA1, 300, .inl (fun _ => 0)))] := hD
  refine lv_aload_n hx hb dX0_init_13 rfl (lv_at hl 0 rfl) ?_
  refine lv_sipush (v := 300) hx hb dX0_init_14 (by decide) ?_
  refine va_newa (atype := .int) (N' := 300) (a0 := (300, .inl (fun _ => 0))) (ty := .int) hx hb (hts _ (List.mem_cons_of_mem _ ac_int)) rfl hK hP hD hS hA (fun _ => rfl) (by decide) (by decide) (by decide) (Nat.le_of_ble_eq_true rfl) (Nat.le_of_ble_eq_true rfl) dX0_init_17 (fun q2 cA2 H hK hP hD hS => ?_)
  have hK : va_K (dC, dI) vwCl [(cA1, .int), (cA2, .int)] s := hK
  have hP : va_P (dC, dI) vwCl [(h0, .inr (0, [.ref q1, .null, .null, .null, .int 0, .null, .null, .int 0, .int 0, .null, .null])), (q1, .inl (cA1, 300, .inl (fun _ => 0))), (q2, .inl (cA2, 300, .inl (fun _ => 0)))] H := hP
  have hD : va_D A [(h0, .inr (0, [.ref q1, .null, .null, .null, .int 0, .null, .null, .int 0, .int 0, .null, .null])), (q1, .inl (cA1, 300, .inl (fun _ => 0))), (q2, .inl (cA2, 300, .inl (fun _ => 0)))] := hD
  refine W.widen (k := 2) (n := 600) (Nat.le_of_ble_eq_true rfl) (Nat.le_of_ble_eq_true rfl) ?_
  refine va_putF (D := (dC, dI)) (ci := 0) (v := .ref q2) (ty := .array .int) (C := RX0) (T := TX0) (N := 11) hx hb hts hin0 tyX0 tyX0_ok nmX0 hown hK hP hD hS 0 rfl rfl 1 (by decide) (hts _ (List.mem_cons_of_mem _ flX0_13)) (fun _ h9 => h9) rfl hin rfl (by decide +kernel) rfl rfl (Nat.le_of_ble_eq_true rfl) dX0_init_19 (fun H locs hP hD hS => ?_)
  have hP : va_P (dC, dI) vwCl [(h0, .inr (0, [.ref q1, .ref q2, .null, .null, .int 0, .null, .null, .int 0, .int 0, .null, .null])), (q1, .inl (cA1, 300, .inl (fun _ => 0))), (q2, .inl (cA2, 300, .inl (fun _ => 0)))] H := hP
  have hD : va_D A [(h0, .inr (0, [.ref q1, .ref q2, .null, .null, .int 0, .null, .null, .int 0, .int 0, .null, .null])), (q1, .inl (cA1, 300, .inl (fun _ => 0))), (q2, .inl (cA2, 300, .inl (fun _ => 0)))] := hD
  refine lv_aload_n hx hb dX0_init_22 rfl (lv_at hl 0 rfl) ?_
  refine lv_sipush (v := 300) hx hb dX0_init_23 (by decide) ?_
  refine va_newa (atype := .int) (N' := 300) (a0 := (300, .inl (fun _ => 0))) (ty := .int) hx hb (hts _ (List.mem_cons_of_mem _ ac_int)) rfl hK hP hD hS hA (fun _ => rfl) (by decide) (by decide) (by decide) (Nat.le_of_ble_eq_true rfl) (Nat.le_of_ble_eq_true rfl) dX0_init_26 (fun q3 cA3 H hK hP hD hS => ?_)
  have hK : va_K (dC, dI) vwCl [(cA1, .int), (cA2, .int), (cA3, .int)] s := hK
  have hP : va_P (dC, dI) vwCl [(h0, .inr (0, [.ref q1, .ref q2, .null, .null, .int 0, .null, .null, .int 0, .int 0, .null, .null])), (q1, .inl (cA1, 300, .inl (fun _ => 0))), (q2, .inl (cA2, 300, .inl (fun _ => 0))), (q3, .inl (cA3, 300, .inl (fun _ => 0)))] H := hP
  have hD : va_D A [(h0, .inr (0, [.ref q1, .ref q2, .null, .null, .int 0, .null, .null, .int 0, .int 0, .null, .null])), (q1, .inl (cA1, 300, .inl (fun _ => 0))), (q2, .inl (cA2, 300, .inl (fun _ => 0))), (q3, .inl (cA3, 300, .inl (fun _ => 0)))] := hD
  refine W.widen (k := 3) (n := 900) (Nat.le_of_ble_eq_true rfl) (Nat.le_of_ble_eq_true rfl) ?_
  refine va_putF (D := (dC, dI)) (ci := 0) (v := .ref q3) (ty := .array .int) (C := RX0) (T := TX0) (N := 11) hx hb hts hin0 tyX0 tyX0_ok nmX0 hown hK hP hD hS 0 rfl rfl 2 (by decide) (hts _ (List.mem_cons_of_mem _ flX0_16)) (fun _ h9 => h9) rfl hin rfl (by decide +kernel) rfl rfl (Nat.le_of_ble_eq_true rfl) dX0_init_28 (fun H locs hP hD hS => ?_)
  have hP : va_P (dC, dI) vwCl [(h0, .inr (0, [.ref q1, .ref q2, .ref q3, .null, .int 0, .null, .null, .int 0, .int 0, .null, .null])), (q1, .inl (cA1, 300, .inl (fun _ => 0))), (q2, .inl (cA2, 300, .inl (fun _ => 0))), (q3, .inl (cA3, 300, .inl (fun _ => 0)))] H := hP
  have hD : va_D A [(h0, .inr (0, [.ref q1, .ref q2, .ref q3, .null, .int 0, .null, .null, .int 0, .int 0, .null, .null])), (q1, .inl (cA1, 300, .inl (fun _ => 0))), (q2, .inl (cA2, 300, .inl (fun _ => 0))), (q3, .inl (cA3, 300, .inl (fun _ => 0)))] := hD
  refine lv_aload_n hx hb dX0_init_31 rfl (lv_at hl 0 rfl) ?_
  refine lv_sipush (v := 300) hx hb dX0_init_32 (by decide) ?_
  refine va_newa (atype := .int) (N' := 300) (a0 := (300, .inl (fun _ => 0))) (ty := .int) hx hb (hts _ (List.mem_cons_of_mem _ ac_int)) rfl hK hP hD hS hA (fun _ => rfl) (by decide) (by decide) (by decide) (Nat.le_of_ble_eq_true rfl) (Nat.le_of_ble_eq_true rfl) dX0_init_35 (fun q4 cA4 H hK hP hD hS => ?_)
  have hK : va_K (dC, dI) vwCl [(cA1, .int), (cA2, .int), (cA3, .int), (cA4, .int)] s := hK
  have hP : va_P (dC, dI) vwCl [(h0, .inr (0, [.ref q1, .ref q2, .ref q3, .null, .int 0, .null, .null, .int 0, .int 0, .null, .null])), (q1, .inl (cA1, 300, .inl (fun _ => 0))), (q2, .inl (cA2, 300, .inl (fun _ => 0))), (q3, .inl (cA3, 300, .inl (fun _ => 0))), (q4, .inl (cA4, 300, .inl (fun _ => 0)))] H := hP
  have hD : va_D A [(h0, .inr (0, [.ref q1, .ref q2, .ref q3, .null, .int 0, .null, .null, .int 0, .int 0, .null, .null])), (q1, .inl (cA1, 300, .inl (fun _ => 0))), (q2, .inl (cA2, 300, .inl (fun _ => 0))), (q3, .inl (cA3, 300, .inl (fun _ => 0))), (q4, .inl (cA4, 300, .inl (fun _ => 0)))] := hD
  refine W.widen (k := 4) (n := 1200) (Nat.le_of_ble_eq_true rfl) (Nat.le_of_ble_eq_true rfl) ?_
  refine va_putF (D := (dC, dI)) (ci := 0) (v := .ref q4) (ty := .array .int) (C := RX0) (T := TX0) (N := 11) hx hb hts hin0 tyX0 tyX0_ok nmX0 hown hK hP hD hS 0 rfl rfl 3 (by decide) (hts _ (List.mem_cons_of_mem _ flX0_19)) (fun _ h9 => h9) rfl hin rfl (by decide +kernel) rfl rfl (Nat.le_of_ble_eq_true rfl) dX0_init_37 (fun H locs hP hD hS => ?_)
  have hP : va_P (dC, dI) vwCl [(h0, .inr (0, [.ref q1, .ref q2, .ref q3, .ref q4, .int 0, .null, .null, .int 0, .int 0, .null, .null])), (q1, .inl (cA1, 300, .inl (fun _ => 0))), (q2, .inl (cA2, 300, .inl (fun _ => 0))), (q3, .inl (cA3, 300, .inl (fun _ => 0))), (q4, .inl (cA4, 300, .inl (fun _ => 0)))] H := hP
  have hD : va_D A [(h0, .inr (0, [.ref q1, .ref q2, .ref q3, .ref q4, .int 0, .null, .null, .int 0, .int 0, .null, .null])), (q1, .inl (cA1, 300, .inl (fun _ => 0))), (q2, .inl (cA2, 300, .inl (fun _ => 0))), (q3, .inl (cA3, 300, .inl (fun _ => 0))), (q4, .inl (cA4, 300, .inl (fun _ => 0)))] := hD
  refine lv_aload_n hx hb dX0_init_40 rfl (lv_at hl 0 rfl) ?_
  refine lv_bipush (v := 6) hx hb dX0_init_41 (by decide) ?_
  refine va_newa (atype := .int) (N' := 6) (a0 := (6, .inl (fun _ => 0))) (ty := .int) hx hb (hts _ (List.mem_cons_of_mem _ ac_int)) rfl hK hP hD hS hA (fun _ => rfl) (by decide) (by decide) (by decide) (Nat.le_of_ble_eq_true rfl) (Nat.le_of_ble_eq_true rfl) dX0_init_43 (fun q5 cA5 H hK hP hD hS => ?_)
  have hK : va_K (dC, dI) vwCl [(cA1, .int), (cA2, .int), (cA3, .int), (cA4, .int), (cA5, .int)] s := hK
  have hP : va_P (dC, dI) vwCl [(h0, .inr (0, [.ref q1, .ref q2, .ref q3, .ref q4, .int 0, .null, .null, .int 0, .int 0, .null, .null])), (q1, .inl (cA1, 300, .inl (fun _ => 0))), (q2, .inl (cA2, 300, .inl (fun _ => 0))), (q3, .inl (cA3, 300, .inl (fun _ => 0))), (q4, .inl (cA4, 300, .inl (fun _ => 0))), (q5, .inl (cA5, 6, .inl (fun _ => 0)))] H := hP
  have hD : va_D A [(h0, .inr (0, [.ref q1, .ref q2, .ref q3, .ref q4, .int 0, .null, .null, .int 0, .int 0, .null, .null])), (q1, .inl (cA1, 300, .inl (fun _ => 0))), (q2, .inl (cA2, 300, .inl (fun _ => 0))), (q3, .inl (cA3, 300, .inl (fun _ => 0))), (q4, .inl (cA4, 300, .inl (fun _ => 0))), (q5, .inl (cA5, 6, .inl (fun _ => 0)))] := hD
  refine W.widen (k := 5) (n := 1206) (Nat.le_of_ble_eq_true rfl) (Nat.le_of_ble_eq_true rfl) ?_
  refine va_putF (D := (dC, dI)) (ci := 0) (v := .ref q5) (ty := .array .int) (C := RX0) (T := TX0) (N := 11) hx hb hts hin0 tyX0 tyX0_ok nmX0 hown hK hP hD hS 0 rfl rfl 5 (by decide) (hts _ (List.mem_cons_of_mem _ flX0_22)) (fun _ h9 => h9) rfl hin rfl (by decide +kernel) rfl rfl (Nat.le_of_ble_eq_true rfl) dX0_init_45 (fun H locs hP hD hS => ?_)
  have hP : va_P (dC, dI) vwCl [(h0, .inr (0, [.ref q1, .ref q2, .ref q3, .ref q4, .int 0, .ref q5, .null, .int 0, .int 0, .null, .null])), (q1, .inl (cA1, 300, .inl (fun _ => 0))), (q2, .inl (cA2, 300, .inl (fun _ => 0))), (q3, .inl (cA3, 300, .inl (fun _ => 0))), (q4, .inl (cA4, 300, .inl (fun _ => 0))), (q5, .inl (cA5, 6, .inl (fun _ => 0)))] H := hP
  have hD : va_D A [(h0, .inr (0, [.ref q1, .ref q2, .ref q3, .ref q4, .int 0, .ref q5, .null, .int 0, .int 0, .null, .null])), (q1, .inl (cA1, 300, .inl (fun _ => 0))), (q2, .inl (cA2, 300, .inl (fun _ => 0))), (q3, .inl (cA3, 300, .inl (fun _ => 0))), (q4, .inl (cA4, 300, .inl (fun _ => 0))), (q5, .inl (cA5, 6, .inl (fun _ => 0)))] := hD
  refine lv_aload_n hx hb dX0_init_48 rfl (lv_at hl 0 rfl) ?_
  refine lv_bipush (v := 6) hx hb dX0_init_49 (by decide) ?_
  refine va_newa (atype := .int) (N' := 6) (a0 := (6, .inl (fun _ => 0))) (ty := .int) hx hb (hts _ (List.mem_cons_of_mem _ ac_int)) rfl hK hP hD hS hA (fun _ => rfl) (by decide) (by decide) (by decide) (Nat.le_of_ble_eq_true rfl) (Nat.le_of_ble_eq_true rfl) dX0_init_51 (fun q6 cA6 H hK hP hD hS => ?_)
  have hK : va_K (dC, dI) vwCl [(cA1, .int), (cA2, .int), (cA3, .int), (cA4, .int), (cA5, .int), (cA6, .int)] s := hK
  have hP : va_P (dC, dI) vwCl [(h0, .inr (0, [.ref q1, .ref q2, .ref q3, .ref q4, .int 0, .ref q5, .null, .int 0, .int 0, .null, .null])), (q1, .inl (cA1, 300, .inl (fun _ => 0))), (q2, .inl (cA2, 300, .inl (fun _ => 0))), (q3, .inl (cA3, 300, .inl (fun _ => 0))), (q4, .inl (cA4, 300, .inl (fun _ => 0))), (q5, .inl (cA5, 6, .inl (fun _ => 0))), (q6, .inl (cA6, 6, .inl (fun _ => 0)))] H := hP
  have hD : va_D A [(h0, .inr (0, [.ref q1, .ref q2, .ref q3, .ref q4, .int 0, .ref q5, .null, .int 0, .int 0, .null, .null])), (q1, .inl (cA1, 300, .inl (fun _ => 0))), (q2, .inl (cA2, 300, .inl (fun _ => 0))), (q3, .inl (cA3, 300, .inl (fun _ => 0))), (q4, .inl (cA4, 300, .inl (fun _ => 0))), (q5, .inl (cA5, 6, .inl (fun _ => 0))), (q6, .inl (cA6, 6, .inl (fun _ => 0)))] := hD
  refine W.widen (k := 6) (n := 1212) (Nat.le_of_ble_eq_true rfl) (Nat.le_of_ble_eq_true rfl) ?_
  refine va_putF (D := (dC, dI)) (ci := 0) (v := .ref q6) (ty := .array .int) (C := RX0) (T := TX0) (N := 11) hx hb hts hin0 tyX0 tyX0_ok nmX0 hown hK hP hD hS 0 rfl rfl 6 (by decide) (hts _ (List.mem_cons_of_mem _ flX0_25)) (fun _ h9 => h9) rfl hin rfl (by decide +kernel) rfl rfl (Nat.le_of_ble_eq_true rfl) dX0_init_53 (fun H locs hP hD hS => ?_)
  have hP : va_P (dC, dI) vwCl [(h0, .inr (0, [.ref q1, .ref q2, .ref q3, .ref q4, .int 0, .ref q5, .ref q6, .int 0, .int 0, .null, .null])), (q1, .inl (cA1, 300, .inl (fun _ => 0))), (q2, .inl (cA2, 300, .inl (fun _ => 0))), (q3, .inl (cA3, 300, .inl (fun _ => 0))), (q4, .inl (cA4, 300, .inl (fun _ => 0))), (q5, .inl (cA5, 6, .inl (fun _ => 0))), (q6, .inl (cA6, 6, .inl (fun _ => 0)))] H := hP
  have hD : va_D A [(h0, .inr (0, [.ref q1, .ref q2, .ref q3, .ref q4, .int 0, .ref q5, .ref q6, .int 0, .int 0, .null, .null])), (q1, .inl (cA1, 300, .inl (fun _ => 0))), (q2, .inl (cA2, 300, .inl (fun _ => 0))), (q3, .inl (cA3, 300, .inl (fun _ => 0))), (q4, .inl (cA4, 300, .inl (fun _ => 0))), (q5, .inl (cA5, 6, .inl (fun _ => 0))), (q6, .inl (cA6, 6, .inl (fun _ => 0)))] := hD
  refine lv_aload_n hx hb dX0_init_56 rfl (lv_at hl 0 rfl) ?_
  refine lv_sipush (v := 300) hx hb dX0_init_57 (by decide) ?_
  refine va_newa (atype := .boolean) (N' := 300) (a0 := (300, .inl (fun _ => 0))) (ty := .boolean) hx hb (hts _ (List.mem_cons_of_mem _ ac_boolean)) rfl hK hP hD hS hA (fun _ => rfl) (by decide) (by decide) (by decide) (Nat.le_of_ble_eq_true rfl) (Nat.le_of_ble_eq_true rfl) dX0_init_60 (fun q7 cA7 H hK hP hD hS => ?_)
  have hK : va_K (dC, dI) vwCl [(cA1, .int), (cA2, .int), (cA3, .int), (cA4, .int), (cA5, .int), (cA6, .int), (cA7, .boolean)] s := hK
  have hP : va_P (dC, dI) vwCl [(h0, .inr (0, [.ref q1, .ref q2, .ref q3, .ref q4, .int 0, .ref q5, .ref q6, .int 0, .int 0, .null, .null])), (q1, .inl (cA1, 300, .inl (fun _ => 0))), (q2, .inl (cA2, 300, .inl (fun _ => 0))), (q3, .inl (cA3, 300, .inl (fun _ => 0))), (q4, .inl (cA4, 300, .inl (fun _ => 0))), (q5, .inl (cA5, 6, .inl (fun _ => 0))), (q6, .inl (cA6, 6, .inl (fun _ => 0))), (q7, .inl (cA7, 300, .inl (fun _ => 0)))] H := hP
  have hD : va_D A [(h0, .inr (0, [.ref q1, .ref q2, .ref q3, .ref q4, .int 0, .ref q5, .ref q6, .int 0, .int 0, .null, .null])), (q1, .inl (cA1, 300, .inl (fun _ => 0))), (q2, .inl (cA2, 300, .inl (fun _ => 0))), (q3, .inl (cA3, 300, .inl (fun _ => 0))), (q4, .inl (cA4, 300, .inl (fun _ => 0))), (q5, .inl (cA5, 6, .inl (fun _ => 0))), (q6, .inl (cA6, 6, .inl (fun _ => 0))), (q7, .inl (cA7, 300, .inl (fun _ => 0)))] := hD
  refine W.widen (k := 7) (n := 1512) (Nat.le_of_ble_eq_true rfl) (Nat.le_of_ble_eq_true rfl) ?_
  refine va_putF (D := (dC, dI)) (ci := 0) (v := .ref q7) (ty := .array .boolean) (C := RX0) (T := TX0) (N := 11) hx hb hts hin0 tyX0 tyX0_ok nmX0 hown hK hP hD hS 0 rfl rfl 9 (by decide) (hts _ (List.mem_cons_of_mem _ flX0_28)) (fun _ h9 => h9) rfl hin rfl (by decide +kernel) rfl rfl (Nat.le_of_ble_eq_true rfl) dX0_init_62 (fun H locs hP hD hS => ?_)
  have hP : va_P (dC, dI) vwCl [(h0, .inr (0, [.ref q1, .ref q2, .ref q3, .ref q4, .int 0, .ref q5, .ref q6, .int 0, .int 0, .ref q7, .null])), (q1, .inl (cA1, 300, .inl (fun _ => 0))), (q2, .inl (cA2, 300, .inl (fun _ => 0))), (q3, .inl (cA3, 300, .inl (fun _ => 0))), (q4, .inl (cA4, 300, .inl (fun _ => 0))), (q5, .inl (cA5, 6, .inl (fun _ => 0))), (q6, .inl (cA6, 6, .inl (fun _ => 0))), (q7, .inl (cA7, 300, .inl (fun _ => 0)))] H := hP
  have hD : va_D A [(h0, .inr (0, [.ref q1, .ref q2, .ref q3, .ref q4, .int 0, .ref q5, .ref q6, .int 0, .int 0, .ref q7, .null])), (q1, .inl (cA1, 300, .inl (fun _ => 0))), (q2, .inl (cA2, 300, .inl (fun _ => 0))), (q3, .inl (cA3, 300, .inl (fun _ => 0))), (q4, .inl (cA4, 300, .inl (fun _ => 0))), (q5, .inl (cA5, 6, .inl (fun _ => 0))), (q6, .inl (cA6, 6, .inl (fun _ => 0))), (q7, .inl (cA7, 300, .inl (fun _ => 0)))] := hD
  refine lv_aload_n hx hb dX0_init_65 rfl (lv_at hl 0 rfl) ?_
  refine lv_bipush (v := 8) hx hb dX0_init_66 (by decide) ?_
  refine va_newa (atype := .int) (N' := 8) (a0 := (8, .inl (fun _ => 0))) (ty := .int) hx hb (hts _ (List.mem_cons_of_mem _ ac_int)) rfl hK hP hD hS hA (fun _ => rfl) (by decide) (by decide) (by decide) (Nat.le_of_ble_eq_true rfl) (Nat.le_of_ble_eq_true rfl) dX0_init_68 (fun q8 cA8 H hK hP hD hS => ?_)
  have hK : va_K (dC, dI) vwCl [(cA1, .int), (cA2, .int), (cA3, .int), (cA4, .int), (cA5, .int), (cA6, .int), (cA7, .boolean), (cA8, .int)] s := hK
  have hP : va_P (dC, dI) vwCl [(h0, .inr (0, [.ref q1, .ref q2, .ref q3, .ref q4, .int 0, .ref q5, .ref q6, .int 0, .int 0, .ref q7, .null])), (q1, .inl (cA1, 300, .inl (fun _ => 0))), (q2, .inl (cA2, 300, .inl (fun _ => 0))), (q3, .inl (cA3, 300, .inl (fun _ => 0))), (q4, .inl (cA4, 300, .inl (fun _ => 0))), (q5, .inl (cA5, 6, .inl (fun _ => 0))), (q6, .inl (cA6, 6, .inl (fun _ => 0))), (q7, .inl (cA7, 300, .inl (fun _ => 0))), (q8, .inl (cA8, 8, .inl (fun _ => 0)))] H := hP
  have hD : va_D A [(h0, .inr (0, [.ref q1, .ref q2, .ref q3, .ref q4, .int 0, .ref q5, .ref q6, .int 0, .int 0, .ref q7, .null])), (q1, .inl (cA1, 300, .inl (fun _ => 0))), (q2, .inl (cA2, 300, .inl (fun _ => 0))), (q3, .inl (cA3, 300, .inl (fun _ => 0))), (q4, .inl (cA4, 300, .inl (fun _ => 0))), (q5, .inl (cA5, 6, .inl (fun _ => 0))), (q6, .inl (cA6, 6, .inl (fun _ => 0))), (q7, .inl (cA7, 300, .inl (fun _ => 0))), (q8, .inl (cA8, 8, .inl (fun _ => 0)))] := hD
  refine W.widen (k := 8) (n := 1520) (Nat.le_of_ble_eq_true rfl) (Nat.le_of_ble_eq_true rfl) ?_
  refine va_putF (D := (dC, dI)) (ci := 0) (v := .ref q8) (ty := .array .int) (C := RX0) (T := TX0) (N := 11) hx hb hts hin0 tyX0 tyX0_ok nmX0 hown hK hP hD hS 0 rfl rfl 10 (by decide) (hts _ (List.mem_cons_of_mem _ flX0_32)) (fun _ h9 => h9) rfl hin rfl (by decide +kernel) rfl rfl (Nat.le_of_ble_eq_true rfl) dX0_init_70 (fun H locs hP hD hS => ?_)
  have hP : va_P (dC, dI) vwCl [(h0, .inr (0, [.ref q1, .ref q2, .ref q3, .ref q4, .int 0, .ref q5, .ref q6, .int 0, .int 0, .ref q7, .ref q8])), (q1, .inl (cA1, 300, .inl (fun _ => 0))), (q2, .inl (cA2, 300, .inl (fun _ => 0))), (q3, .inl (cA3, 300, .inl (fun _ => 0))), (q4, .inl (cA4, 300, .inl (fun _ => 0))), (q5, .inl (cA5, 6, .inl (fun _ => 0))), (q6, .inl (cA6, 6, .inl (fun _ => 0))), (q7, .inl (cA7, 300, .inl (fun _ => 0))), (q8, .inl (cA8, 8, .inl (fun _ => 0)))] H := hP
  have hD : va_D A [(h0, .inr (0, [.ref q1, .ref q2, .ref q3, .ref q4, .int 0, .ref q5, .ref q6, .int 0, .int 0, .ref q7, .ref q8])), (q1, .inl (cA1, 300, .inl (fun _ => 0))), (q2, .inl (cA2, 300, .inl (fun _ => 0))), (q3, .inl (cA3, 300, .inl (fun _ => 0))), (q4, .inl (cA4, 300, .inl (fun _ => 0))), (q5, .inl (cA5, 6, .inl (fun _ => 0))), (q6, .inl (cA6, 6, .inl (fun _ => 0))), (q7, .inl (cA7, 300, .inl (fun _ => 0))), (q8, .inl (cA8, 8, .inl (fun _ => 0)))] := hD
  refine lv_aload_n hx hb dX0_init_73 rfl (lv_at hl 0 rfl) ?_
  refine lv_iconst (v := 0) hx hb dX0_init_74 (by decide) ?_
  refine va_put (D := (dC, dI)) (ci := 0) (v := .int 0) (ty := .int) (C := RX0) (T := TX0) (N := 11) hx hb hts hin0 tyX0 tyX0_ok nmX0 hown hK hP hD hS 0 rfl rfl 4 (by decide) (hts _ (List.mem_cons_of_mem _ flX0_35)) (fun _ h9 => h9) rfl (by decide +kernel) rfl rfl (Nat.le_of_ble_eq_true rfl) dX0_init_75 (fun H locs hP hD hS => ?_)
  have hP : va_P (dC, dI) vwCl [(h0, .inr (0, [.ref q1, .ref q2, .ref q3, .ref q4, .int 0, .ref q5, .ref q6, .int 0, .int 0, .ref q7, .ref q8])), (q1, .inl (cA1, 300, .inl (fun _ => 0))), (q2, .inl (cA2, 300, .inl (fun _ => 0))), (q3, .inl (cA3, 300, .inl (fun _ => 0))), (q4, .inl (cA4, 300, .inl (fun _ => 0))), (q5, .inl (cA5, 6, .inl (fun _ => 0))), (q6, .inl (cA6, 6, .inl (fun _ => 0))), (q7, .inl (cA7, 300, .inl (fun _ => 0))), (q8, .inl (cA8, 8, .inl (fun _ => 0)))] H := hP
  have hD : va_D A [(h0, .inr (0, [.ref q1, .ref q2, .ref q3, .ref q4, .int 0, .ref q5, .ref q6, .int 0, .int 0, .ref q7, .ref q8])), (q1, .inl (cA1, 300, .inl (fun _ => 0))), (q2, .inl (cA2, 300, .inl (fun _ => 0))), (q3, .inl (cA3, 300, .inl (fun _ => 0))), (q4, .inl (cA4, 300, .inl (fun _ => 0))), (q5, .inl (cA5, 6, .inl (fun _ => 0))), (q6, .inl (cA6, 6, .inl (fun _ => 0))), (q7, .inl (cA7, 300, .inl (fun _ => 0))), (q8, .inl (cA8, 8, .inl (fun _ => 0)))] := hD
  refine lv_aload_n hx hb dX0_init_78 rfl (lv_at hl 0 rfl) ?_
  refine lv_iconst (v := 0) hx hb dX0_init_79 (by decide) ?_
  refine va_put (D := (dC, dI)) (ci := 0) (v := .int 0) (ty := .int) (C := RX0) (T := TX0) (N := 11) hx hb hts hin0 tyX0 tyX0_ok nmX0 hown hK hP hD hS 0 rfl rfl 7 (by decide) (hts _ (List.mem_cons_of_mem _ flX0_39)) (fun _ h9 => h9) rfl (by decide +kernel) rfl rfl (Nat.le_of_ble_eq_true rfl) dX0_init_80 (fun H locs hP hD hS => ?_)
  have hP : va_P (dC, dI) vwCl [(h0, .inr (0, [.ref q1, .ref q2, .ref q3, .ref q4, .int 0, .ref q5, .ref q6, .int 0, .int 0, .ref q7, .ref q8])), (q1, .inl (cA1, 300, .inl (fun _ => 0))), (q2, .inl (cA2, 300, .inl (fun _ => 0))), (q3, .inl (cA3, 300, .inl (fun _ => 0))), (q4, .inl (cA4, 300, .inl (fun _ => 0))), (q5, .inl (cA5, 6, .inl (fun _ => 0))), (q6, .inl (cA6, 6, .inl (fun _ => 0))), (q7, .inl (cA7, 300, .inl (fun _ => 0))), (q8, .inl (cA8, 8, .inl (fun _ => 0)))] H := hP
  have hD : va_D A [(h0, .inr (0, [.ref q1, .ref q2, .ref q3, .ref q4, .int 0, .ref q5, .ref q6, .int 0, .int 0, .ref q7, .ref q8])), (q1, .inl (cA1, 300, .inl (fun _ => 0))), (q2, .inl (cA2, 300, .inl (fun _ => 0))), (q3, .inl (cA3, 300, .inl (fun _ => 0))), (q4, .inl (cA4, 300, .inl (fun _ => 0))), (q5, .inl (cA5, 6, .inl (fun _ => 0))), (q6, .inl (cA6, 6, .inl (fun _ => 0))), (q7, .inl (cA7, 300, .inl (fun _ => 0))), (q8, .inl (cA8, 8, .inl (fun _ => 0)))] := hD
  refine lv_aload_n hx hb dX0_init_83 rfl (lv_at hl 0 rfl) ?_
  refine lv_iconst (v := 0) hx hb dX0_init_84 (by decide) ?_
  refine va_put (D := (dC, dI)) (ci := 0) (v := .int 0) (ty := .int) (C := RX0) (T := TX0) (N := 11) hx hb hts hin0 tyX0 tyX0_ok nmX0 hown hK hP hD hS 0 rfl rfl 8 (by decide) (hts _ (List.mem_cons_of_mem _ flX0_42)) (fun _ h9 => h9) rfl (by decide +kernel) rfl rfl (Nat.le_of_ble_eq_true rfl) dX0_init_85 (fun H locs hP hD hS => ?_)
  have hP : va_P (dC, dI) vwCl [(h0, .inr (0, [.ref q1, .ref q2, .ref q3, .ref q4, .int 0, .ref q5, .ref q6, .int 0, .int 0, .ref q7, .ref q8])), (q1, .inl (cA1, 300, .inl (fun _ => 0))), (q2, .inl (cA2, 300, .inl (fun _ => 0))), (q3, .inl (cA3, 300, .inl (fun _ => 0))), (q4, .inl (cA4, 300, .inl (fun _ => 0))), (q5, .inl (cA5, 6, .inl (fun _ => 0))), (q6, .inl (cA6, 6, .inl (fun _ => 0))), (q7, .inl (cA7, 300, .inl (fun _ => 0))), (q8, .inl (cA8, 8, .inl (fun _ => 0)))] H := hP
  have hD : va_D A [(h0, .inr (0, [.ref q1, .ref q2, .ref q3, .ref q4, .int 0, .ref q5, .ref q6, .int 0, .int 0, .ref q7, .ref q8])), (q1, .inl (cA1, 300, .inl (fun _ => 0))), (q2, .inl (cA2, 300, .inl (fun _ => 0))), (q3, .inl (cA3, 300, .inl (fun _ => 0))), (q4, .inl (cA4, 300, .inl (fun _ => 0))), (q5, .inl (cA5, 6, .inl (fun _ => 0))), (q6, .inl (cA6, 6, .inl (fun _ => 0))), (q7, .inl (cA7, 300, .inl (fun _ => 0))), (q8, .inl (cA8, 8, .inl (fun _ => 0)))] := hD
  exact W.vret hx hb hr (fun t9 ht hW => ⟨⟨((fun i => match i with | 1 => cA1 | 2 => cA2 | 3 => cA3 | 4 => cA4 | 5 => cA5 | 6 => cA6 | 7 => cA7 | 8 => cA8 | _ => cA1), (fun i => match i with | 0 => h0 | 1 => q1 | 2 => q2 | 3 => q3 | 4 => q4 | 5 => q5 | 6 => q6 | 7 => q7 | 8 => q8 | _ => 0)), rfl, rfl, by rw [ht]; exact hP, va_K.moved hW.alike hK, hD⟩, hS.F ht⟩) hS.2.2 dX0_init_88
end
section
/-! throw new NoSuchElementException("..") : its constructor names its superclass's by another entry than the library's bundle has it, so its link is laid here by hand, ahead of the library's chain -/
def xn_at (own : String) (ic : Nat) (cls sup : String) (i1 : Nat) (b1 : ByteArray) (names : List String) : List Cond :=
  Bundle.throwableAtoms ++ Bundle.throwableSAtoms ++ (Bundle.passSAtoms cls sup i1 b1 ++ Bundle.chainSAtoms sup names) ++
  [.methodLink own ic (Bundle.initS cls), .instantiable cls 6, .selects cls Bundle.tFill0 Bundle.tFill0, .selects cls Bundle.tFill Bundle.tFill,
   .lays cls Bundle.tN "cause" "Ljava/lang/Throwable;", .lays cls Bundle.tN "stackTrace" Bundle.steD, .lays cls Bundle.tN "suppressedExceptions" Bundle.listD, .lays cls Bundle.tN "detailMessage" "Ljava/lang/String;",
   .isRef (.static Bundle.tN "UNASSIGNED_STACK" Bundle.steD), .isRef (.static Bundle.tN "SUPPRESSED_SENTINEL" Bundle.listD),
   .fieldLink Bundle.tN 198 Bundle.tN "backtrace" "Ljava/lang/Object;", .lays Bundle.tN Bundle.tN "backtrace" "Ljava/lang/Object;", .lays cls Bundle.tN "backtrace" "Ljava/lang/Object;"]
section XN
variable {p : Program} {l : Launch} {e : Env} {R : Room} {s : State} {m : MethodId} {args : Array Value} {below : List Frame} {meth : Method} {c : Code}
set_option maxHeartbeats 4000000 in
set_option maxRecDepth 100000 in
theorem xn_ctor {V : State} {cells slots : Nat} (X : Stand p l e R s m args below meth c V [] cells slots) (hexec : p.tables.exec = Jvm.exec) (htr : e.platform.stackTraces = false) {own cls sup : String} {ic i1 : Nat} {b1 : ByteArray} {names : List String}
    (hown : s.vm.findClass own = some m.cls) (hcls : Bundle.fit cls = true) (hsup : Bundle.fit sup = true) (hnames : ∀ n ∈ names, Bundle.fit n = true)
    (k0 : decode b1 0 = .ok (.aload_n 0, 1)) (k1 : decode b1 1 = .ok (.aload_n 1, 1)) (k2 : decode b1 2 = .ok (.invokespecial i1, 3)) (k5 : decode b1 5 = .ok (.return_, 1))
    (h : ∀ a ∈ xn_at own ic cls sup i1 b1 names, a.before args s = true)
    {a : Addr} {cX : ClassId} {kX : Class} (hfoundX : s.vm.findClass cls = some cX) (hkX : s.vm.classes[cX]? = some kX) (hcell : V.heap[a]? = some (freshCell cX kX)) (hnew : s.heap.size ≤ a)
    {msg : Value} (hmsg : msg.isRef = true) {g : JFrame} (hg : g.method = m) (hsize : g.locals.size = c.maxLocals) (hlocked : g.locked = none) (hentered : g.entered = []) {rest : List Value} (hstack : g.stack = msg :: .ref a :: .ref a :: rest)
    (hd6 : decode c.code g.pc = .ok (.invokespecial ic, 3)) (hd9 : decode c.code (g.pc + 3) = .ok (.athrow, 1)) (hout : ∀ x ∈ c.exceptionTable.toList, covers x (g.pc + 3) = false)
    (hRframes : names.length + 4 < R.frames) (hRlocals : 2 * g.monitorRoom + ((Value.ref a :: rest).map fun v => v.category).sum + (13 * (names.length + 2) + 42) ≤ R.locals) (hlocks : meth.locks = false) :
    ∃ U : State, Steps p.tables e below (V.setTop g) U ∧ U.status = .running ∧ Ended U below (.threw a) ∧ s.WarmedH U.vm ∧ s.sameButNew ({ U with vm := s.vm } : State) [] cells slots ∧ ∃ ce : Cell, U.heap[a]? = some ce ∧ ce.vm = .none ∧ ce.cls = cX := by
  have hpl : e.platform.magicAccessors = ({} : Platform).magicAccessors := by rw [X.admits.platform]
  obtain ⟨T, Z0, L, -, Y⟩ := ThrowableC.of_atoms (args := args) (s := s) (pl := e.platform) (by rw [X.admits.platform]) (by rw [X.admits.platform]) hpl (fun x hx => h x (by simp [xn_at, hx]))
  obtain ⟨Z, M, LZ, LM, hnZ⟩ := Init0T.ofS_atoms (args := args) hpl L Y (fun x hx => h x (by simp [xn_at, hx]))
  obtain ⟨P2, Ps, hlen, L2, hLs, hP2m, hlink2, hlink⟩ := Bundle.chainS (args := args) hpl hnZ names sup hsup hnames (fun x hx => h x (by simp [xn_at, hx]))
  obtain ⟨P1, L1, hP1m, hP1s⟩ := PassC.ofS_atoms (args := args) (s := s) hpl (X := cls) (Y := sup) (Bundle.fit_spec hcls).1 (Bundle.fit_spec hsup).2 k0 k1 k2 k5 (fun x hx => h x (by simp [xn_at, hx]))
  have hlink1 : P1.sup = P2.m := Option.some.inj (hP1s.symm.trans hP2m)
  have hfound : s.vm.findClass cls = some P1.m.cls := findClass_of_methodNamed hP1m
  cases Option.some.inj (hfoundX.symm.trans hfound)
  have w : ∀ x, x ∈ xn_at own ic cls sup i1 b1 names → x.holds args s none s [] = true := fun x hx => h x hx
  obtain ⟨c1, kX', hc1, hk, hord, -, -, hn6⟩ := Cond.instantiable_spec (w (.instantiable cls 6) (by simp [xn_at]))
  cases Option.some.inj (hc1.symm.trans hfound)
  cases Option.some.inj (hkX.symm.trans hk)
  have selects : ∀ (y : MethodName) (my : MethodId), s.methodNamed? y = some my → (y.cls ≠ "java/lang/invoke/MethodHandle" ∧ y.cls ≠ "java/lang/invoke/VarHandle") → (Cond.selects cls y y).holds args s none s [] = true → selectMethod e.platform s.vm P1.m.cls my = .method my := by
    intro y my hy hn hs
    obtain ⟨c2, r2, m2, q1, q2, q3, q4, -⟩ := Cond.selects_spec hs
    cases Option.some.inj (q1.symm.trans hfound)
    cases Option.some.inj (q2.symm.trans (State.methodFound?_of_named hy hn))
    cases Option.some.inj (q3.symm.trans hy)
    rw [Launch.admits_selectMethod X.admits]
    exact q4
  have hsel0 := selects Bundle.tFill0 T.fill0 Y.fill0 (by decide) (w _ (by simp [xn_at]))
  have hselF := selects Bundle.tFill T.fill Y.fill (by decide) (w _ (by simp [xn_at]))
  obtain ⟨cS0, hcS0, hiss⟩ := Y.statics
  obtain ⟨u0, hu0⟩ := Cond.staticRefV Y.unassigned L.unassignedStatic L.statics hcS0 hiss (w (.isRef (.static Bundle.tN "UNASSIGNED_STACK" Bundle.steD)) (by simp [xn_at]))
  obtain ⟨sen, hsen⟩ := Cond.staticRefV Y.sentinel L.sentinelStatic L.statics hcS0 hiss (w (.isRef (.static Bundle.tN "SUPPRESSED_SENTINEL" Bundle.listD)) (by simp [xn_at]))
  obtain ⟨ci8, i8, fB, hk8, hg8, ha8, hsB, -, hnB, htB, hffB⟩ := Cond.ownField (t := .object "java/lang/Object") Y.found L.cls (by decide +kernel) (w (.fieldLink Bundle.tN 198 Bundle.tN "backtrace" "Ljava/lang/Object;") (by simp [xn_at])) (w (.lays Bundle.tN Bundle.tN "backtrace" "Ljava/lang/Object;") (by simp [xn_at])) e.platform hpl
  obtain ⟨cS, hcS, heS, -, hkeep⟩ := X.same.2.2.2.2.2 T.aS cS0 hcS0
  have hkS : cS.vm ≠ .unknown := by
    rw [heS]
    intro hu
    rw [show cS0.vm = .unknown from hu] at hiss
    cases hiss
  have hneS : T.aS ≠ a := Nat.ne_of_lt (Nat.lt_of_lt_of_le (Array.getElem?_eq_some_iff.mp hcS0).1 hnew)
  obtain ⟨iM, hffM⟩ := Y.msg
  obtain ⟨tyC, dC, hdC, hdnC⟩ := Cond.laysAt hfound hk Y.cause (w (.lays cls Bundle.tN "cause" "Ljava/lang/Throwable;") (by simp [xn_at]))
  obtain ⟨tyS, dS, hdS, hdnS⟩ := Cond.laysAt hfound hk Y.stack (w (.lays cls Bundle.tN "stackTrace" Bundle.steD) (by simp [xn_at]))
  obtain ⟨tyP, dP, hdP, hdnP⟩ := Cond.laysAt hfound hk Y.supp (w (.lays cls Bundle.tN "suppressedExceptions" Bundle.listD) (by simp [xn_at]))
  obtain ⟨tyM, dM, hdM, hdnM⟩ := Cond.laysAt hfound hk hffM (w (.lays cls Bundle.tN "detailMessage" "Ljava/lang/String;") (by simp [xn_at]))
  obtain ⟨tyB, dB, hdB, hdnB⟩ := Cond.laysAt hfound hk hffB (w (.lays cls Bundle.tN "backtrace" "Ljava/lang/Object;") (by simp [xn_at]))
  have bC := Cond.laysApart hdB hdC hdnB hdnC (by rw [hnB, Y.causeName]; decide)
  have bS := Cond.laysApart hdB hdS hdnB hdnS (by rw [hnB, Y.stackName]; decide)
  have bP := Cond.laysApart hdB hdP hdnB hdnP (by rw [hnB, Y.suppName]; decide)
  have hskip : SkipFacts T e.platform s (fun u => u) u0 ((preparedCellV T.toThrowableT (freshCell P1.m.cls kX) a u0 sen).withEntry V.cur) := by
    refine ⟨{ ci198 := ci8, i198 := i8, fBack := fB }, ⟨hk8, hg8, ha8, hsB⟩, ?_, fun _ _ => rfl⟩
    have hd := fresh_default (c := P1.m.cls) tyB
    rw [htB] at hd
    simpa [preparedCellV, Cell.setSlot, Cell.withEntry, Array.getElem?_setIfInBounds, bC, bS, bP, bC.symm, bS.symm, bP.symm, defaultValue] using hd
  obtain ⟨tm, mC, cdC, kC, vm₁, hnC, -, -, -, -, -, -, -, hW₁, st1⟩ := Steps.initColdS (tb := p.tables) (e := e) (below := below) (s := s) (U := V) X.here hexec X.warmed hpl hown (t := Bundle.initS cls) rfl rfl (Bundle.fit_spec hcls).2
    (w (.methodLink own ic (Bundle.initS cls)) (by simp [xn_at])) (h (.instanceMethod (Bundle.initS cls)) (by simp [xn_at, Bundle.passSAtoms])) (bytes := b1) (maxL := 2) (h (.code (Bundle.initS cls) b1 2 none) (by simp [xn_at, Bundle.passSAtoms]))
    (f := g) hg (a := a) (msg := msg) (rest := .ref a :: rest) hstack hd6
  cases Option.some.inj (hnC.symm.trans hP1m)
  have X₁ := X.noted hW₁
  obtain ⟨vm₂, X₂, st2⟩ := X₁.ctorMessageOffV hexec (g := { g with stack := .ref a :: rest }) hg hsize T L Z LZ M LM (P1 :: P2 :: Ps)
    (fun P hP => by
      rcases List.mem_cons.mp hP with rfl | hP
      · exact L1
      · rcases List.mem_cons.mp hP with rfl | hP
        · exact L2
        · exact hLs P hP) ⟨hlink1, hlink2, hlink⟩ (u0 := u0) (sen := sen) (self := a) hmsg (cell := freshCell P1.m.cls kX) (cellS := cS)
    hcell (fun _ => by simp) (by simp) rfl rfl hsel0 hselF hcS hneS hkS (by rw [hkeep _ (fun hm => nomatch hm)]; exact hu0) (by rw [hkeep _ (fun hm => nomatch hm)]; exact hsen)
    (Takes.of_laid hk hord tyC (by rw [Y.causeType]; rfl)) (Takes.of_laid hk hord tyS (by rw [Y.stackType]; exact fits_refV_array _ u0)) (Takes.of_laid hk hord tyP (by rw [Y.suppType]; exact fits_refV_object _ sen))
    (Takes.of_laid hk hord tyM (by rw [Y.msgType]; exact fits_refV_object _ ⟨msg, hmsg⟩)) Y.objLocals hskip htr [] hd6
    (by simp only [List.length_cons, hlen]; omega) (by simp only [List.length_cons, hlen]; exact hRlocals)
  obtain ⟨hwalk, hrun, hended, hWU, hsame⟩ := X₂.athrowLeaves hexec (g := { g with stack := .ref a :: rest, pc := g.pc + 3 }) hg hlocked hentered hout (a := a) (rest := rest) rfl hd9 hlocks
  have hlt : a < ((V.setVm vm₁).setVm vm₂).heap.size := (Array.getElem?_eq_some_iff.mp hcell).1
  refine ⟨_, st1 _ (fun acts => by rw [doInvoke_state]; exact st2 _ hwalk), hrun, hended, hWU, hsame.weaken (fun y hy hlt' => ?_) (Nat.le_refl _) (Nat.le_refl _), _, heapAt_setCell_self (s := (V.setVm vm₁).setVm vm₂) (plainBareV T.toThrowableT (freshCell P1.m.cls kX) a u0 sen msg) hlt, rfl, rfl⟩
  exfalso
  have hb : y.base = a := by
    simp only [List.nil_append, List.mem_cons, List.not_mem_nil, or_false] at hy
    rcases hy with rfl | rfl | rfl | rfl | rfl <;> rfl
  rw [hb] at hlt'
  exact Nat.not_lt.mpr hnew hlt'
end XN
abbrev xnN : List Cond := xn_at RX0 99 xNSE "java/lang/RuntimeException" 13 prog_12_method_4_code ["java/lang/Exception"]
theorem xn_all {args : Array Value} {s : State} {x : Cond} (hts : ∀ w ∈ x :: gt, w.before args s = true) (hX : xwS s) : ∀ w ∈ xnN.filter vx_no, w.before args s = true :=
  vx_hat (B := xwB) (fun w hw => hts w (List.mem_cons_of_mem _ (gt_mem ((by decide +kernel : ∀ w ∈ (xnN.filter vx_no).filter goodWord, w ∈ lw_tbl) w hw) (List.mem_filter.mp hw).2))) (by decide +kernel) (fun w hw => va_any (by
    simp only [xwB, List.mem_cons, List.not_mem_nil, or_false] at hw
    rcases hw with rfl | rfl | rfl | rfl | rfl | rfl | rfl <;> rfl) (hX.1 w hw))
theorem xn_ot : ∀ w ∈ Cond.classLink RX0 95 xNSE :: Cond.initialized xNSE :: xnN.filter vx_no, vx_ot w = true := by decide +kernel
theorem xn_fit : Bundle.fit xNSE = true := by decide +kernel
theorem xn_fit1 : Bundle.fit "java/lang/RuntimeException" = true := by decide +kernel
theorem xn_fit2 : ∀ n ∈ ["java/lang/Exception"], Bundle.fit n = true := by decide +kernel
theorem xn_k0 : decode prog_12_method_4_code 0 = .ok (.aload_n 0, 1) := by decide +kernel
theorem xn_k1 : decode prog_12_method_4_code 1 = .ok (.aload_n 1, 1) := by decide +kernel
theorem xn_k2 : decode prog_12_method_4_code 2 = .ok (.invokespecial 13, 3) := by decide +kernel
theorem xn_k5 : decode prog_12_method_4_code 5 = .ok (.return_, 1) := by decide +kernel
section XNT
variable {p : Program} {l : Launch} {e : Env} {R : Room} {s : State} {m : MethodId} {args : Array Value} {below : List Frame} {meth : Method} {c : Code} {H : Heap} {locs : List Loc} {cells slots : Nat} {free : Addr → Prop} {ls : Array Slot} {rest : List Value} {Qc : Array Value → State → Outcome → State → Prop} {XC : String → State → State → Prop}
set_option maxHeartbeats 4000000 in
theorem xn_throw {cc : ByteArray} {pc : Nat} {text : String} {is mc ms sa : Nat} {A : Nat → Prop} {x9 : Cond} (hexec : p.tables.exec = Jvm.exec) (hb : c.code = cc) (hl : l.stackTraces = false)
    (hown : s.vm.findClass RX0 = some m.cls) (hts : ∀ w ∈ x9 :: gt, w.before args s = true) (hX : xwS s) (hstr : vk_R RX0 is text sa s)
    (hU : vx_Zq Bundle.tN "UNASSIGNED_STACK" Bundle.steD A s s.heap) (hN : vx_Zq Bundle.tN "SUPPRESSED_SENTINEL" Bundle.listD A s s.heap) (hS : va_S A s.heap H locs) (hsize : ls.size = c.maxLocals)
    (d0 : decode cc pc = .ok (.new 95, 3)) (d3 : decode cc (pc + 3) = .ok (.dup, 1)) (d4 : decode cc (pc + 4) = .ok (.ldc is, 2)) (d6 : decode cc (pc + 6) = .ok (.invokespecial 99, 3)) (d9 : decode cc (pc + 9) = .ok (.athrow, 1))
    (hout : ∀ x ∈ c.exceptionTable.toList, covers x (pc + 9) = false)
    (hRframes : 5 < R.frames) (hRlocals : (rest.map fun v => v.category).sum + 82 ≤ R.locals) (hRcells : cells + 1 ≤ R.cells) (hRslots : slots + 6 ≤ R.slots) (hlocks : meth.locks = false)
    (hx : ∀ t : State, s.vm.Alike t.vm → H.size ≤ t.heap.size → (∀ q : Nat, q < H.size → t.heap[q]? = H[q]?) → XC xNSE s t)
    (hf : ∀ z ∈ locs, free z.base) (hc : cells + 1 ≤ mc) (hs : slots + 6 ≤ ms) :
    W p l e R s m args below meth c H locs cells slots (vx_MQ below Qc XC args s mc ms free) (F0 m pc ls rest) := by
  intro T hT X
  have htr : e.platform.stackTraces = false := (show e.platform.stackTraces = l.stackTraces by rw [X.admits.platform]).trans hl
  have Y := vx_rebase X (R' := { frames := R.frames, locals := R.locals, cells := 1, slots := 6 }) (Nat.le_refl _) (Nat.le_refl _) hRcells hRslots
  obtain ⟨s', hs'⟩ : ∃ z, z = (T.setVm s.vm).setFrames (.invoking m args :: below) := ⟨_, rfl⟩
  rw [← hs'] at Y
  have hvm : s'.vm = s.vm := by rw [hs']; rfl
  have hhp : s'.heap = H := by rw [hs']; exact hT
  have hW0 : s.WarmedH s'.vm := by rw [hvm]; exact State.WarmedH.refl s
  have mv : ∀ w ∈ Cond.classLink RX0 95 xNSE :: Cond.initialized xNSE :: xnN.filter vx_no, w.before args s = true → w.before args s' = true := fun w hw h => vx_ot_at hW0 hvm.symm (xn_ot w hw) h
  have hU' : vx_Zq Bundle.tN "UNASSIGNED_STACK" Bundle.steD A s' s'.heap := by rw [hhp]; exact vx_Zq.moved hW0.alike (hU.kept hS.2.1)
  have hN' : vx_Zq Bundle.tN "SUPPRESSED_SENTINEL" Bundle.listD A s' s'.heap := by rw [hhp]; exact vx_Zq.moved hW0.alike (hN.kept hS.2.1)
  have h : ∀ w ∈ xnN, w.before args s' = true := vx_own (fun w hw => mv w (List.mem_cons_of_mem _ (List.mem_cons_of_mem _ hw)) (xn_all hts hX w hw)) (vx_isRefq hU'.1) (vx_isRefq hN'.1) hU'.2.word hN'.2.word
  have hown' : s'.vm.findClass RX0 = some m.cls := by rw [hvm]; exact hown
  obtain ⟨vm₁, cX, kX, hfX, hkX, -, -, X₁, st1⟩ := Y.newCold hexec (own := RX0) (C := xNSE) (index := 95) (n := 6) hown' (mv _ List.mem_cons_self (hts _ (List.mem_cons_of_mem _ klX0_95))) (h _ (by simp [xnN, xn_at])) (mv _ (List.mem_cons_of_mem _ List.mem_cons_self) (hts _ (List.mem_cons_of_mem _ in_java_util_NoSuchElementException)))
    (g := F0 m pc ls rest) rfl (by rw [hb]; exact d0) (Nat.le_refl _) (Nat.le_refl _)
  generalize hT1 : (T.setVm vm₁).pushCell { cls := cX, slots := kX.instanceTypes.map defaultValue, vm := .none } = T1 at X₁ st1
  have hcat : (Value.ref T.heap.size).category = 1 := rfl
  have hcA : T1.heap[T.heap.size]? = some (freshCell cX kX) := by rw [← hT1]; exact State.heap_pushCell_size _ _
  have d3' : decode c.code (pc + 3) = .ok (.dup, 1) := by rw [hb]; exact d3
  have hstr' : vk_R RX0 is text sa s' := vk_R.warm hW0 hstr
  obtain ⟨U, hsteps, hrun, hend, hW, hsame, ce, hce, hcv, hcc⟩ := xn_ctor X₁ hexec htr (own := RX0) (cls := xNSE) (sup := "java/lang/RuntimeException") (ic := 99) (i1 := 13) (b1 := prog_12_method_4_code) (names := ["java/lang/Exception"]) hown' xn_fit xn_fit1 xn_fit2 xn_k0 xn_k1 xn_k2 xn_k5 h hfX hkX hcA (by rw [hhp, hT]; exact Nat.le_refl _) (msg := .ref sa) rfl
    (g := { method := m, pc := pc + 6, locals := ls, stack := .ref sa :: .ref T.heap.size :: .ref T.heap.size :: rest, locked := none }) rfl hsize rfl rfl (rest := rest) rfl
    (by rw [hb]; exact d6) (by rw [hb]; exact d9) hout hRframes (by simp only [List.map_cons, List.sum_cons, hcat, List.length_cons, List.length_nil]; show 2 * 0 + _ + _ ≤ _; omega) hlocks
  obtain ⟨f1, f2⟩ := vx_frame hsame
  rw [hhp] at f1 f2
  have hWs : s.WarmedH U.vm := State.WarmedH.trans hW0 hW
  have hcl : s.vm.findClass xNSE = some ce.cls := by rw [hcc, ← hvm]; exact hfX
  have hall : s.sameButNew ({ U with vm := s.vm } : State) locs mc ms := by
    subst hs'
    obtain ⟨e1, e2⟩ := hsame
    rw [State.setFrames_setFrames] at e1
    have h2 : (T.setVm s.vm).sameButNew ({ U with vm := s.vm } : State) [] (0 + 1) (0 + 6) := ⟨e1, e2⟩
    have h3 := X.same.trans h2
    rw [List.append_nil] at h3
    exact h3.mono hc hs
  refine ⟨U, ?_, .threw T.heap.size, hrun, hend, Or.inr ⟨T.heap.size, rfl, xNSE, ce, locs, hx U hWs.alike f1 (fun q hq => f2 q hq (fun z hz => nomatch hz)), hce, hcv, hcl, hWs, hall, hf⟩⟩
  refine st1 _ ?_
  show Steps p.tables e below (T1.setTop { method := m, pc := pc + 3, locals := ls, stack := .ref T.heap.size :: rest, locked := none }) _
  jvm_step X₁.here [X₁.here.top, hexec, d3', Value.category]
  exact X₁.ldcString hexec (own := RX0) (text := text) (index := is) (a := sa) hown' hstr'.1 hstr'.2
    (g := { method := m, pc := pc + 4, locals := ls, stack := .ref T.heap.size :: .ref T.heap.size :: rest, locked := none }) rfl (by rw [hb]; exact d4) _ hsteps
end XNT
end
section
set_option maxRecDepth 100000 in
set_option maxHeartbeats 4000000 in
/-- kth(w, k) -/
theorem c_kth (l : Launch) (hlt : l.stackTraces = false) (dC : Nat → ClassId) (dI : Nat → Nat → Nat) (ca : Nat → ClassId) (ad : Nat → Nat) (sz : Nat) (t : Nat → Int32) (k : Nat → Nat) (v : Nat → Int32) (b : Nat → Nat) (n : Nat) (kd : Nat → Int32) (ln : Nat → Int32) (w : Nat) (nw : Int32) (ins : Nat → Int32) (sn : Nat → Nat) (p1 p2 : Int32) (hn : n ≤ 300) (hk8 : ∀ j, j < n → k j < 8) (hw6 : w ≤ 6) (hbn : ∀ j, j < n → b j < n) : vx_Met l yX0_kth wsX0_kth ({ frames := 7, cells := 2, slots := 12, locals := 111 }) (va_Pc [.ref (ad 0), .int p1, .int p2] (fun U => wmPre dC dI ca ad sz t k v b n kd ln w nw ins sn U ∧ xwP (va_A (wm ca ad t k v b n kd ln w nw ins sn) sz) U)) (va_Qi (fun (r : Int32) (u : (Nat → Int32) × (Nat → Nat)) => ∃ wi q, wi < w ∧ p1 = nI wi ∧ (∀ j, j < n → qc_mk (u.1 j) (qc_in t k n nw (kd wi) (ln wi) j)) ∧ q < n ∧ u.1 (b q) ≠ 0 ∧ nI (qc_cnb b u.1 q) = p2 ∧ r = v (b q)) (fun u t9 => wmAt dC dI ca ad (va_A (wm ca ad t k v b n kd ln w nw ins sn) sz) t k v b n kd ln w nw u.1 u.2 t9) (va_A (wm ca ad t k v b n kd ln w nw ins sn) sz)) (vx_X (fun _ : (Nat → Int32) × (Nat → Nat) => True) (fun E u t9 => ((E = xIOB ∧ ¬ qx_win w p1) ∨ (E = xNSE ∧ ∃ wi, wi < w ∧ p1 = nI wi ∧ (∀ j, j < n → qc_mk (u.1 j) (qc_in t k n nw (kd wi) (ln wi) j)) ∧ ∀ q, q < n → u.1 (b q) ≠ 0 → nI (qc_cnb b u.1 q) ≠ p2)) ∧ wmAt dC dI ca ad (va_A (wm ca ad t k v b n kd ln w nw ins sn) sz) t k v b n kd ln w nw u.1 u.2 t9) (va_A (wm ca ad t k v b n kd ln w nw ins sn) sz)) 2 12 (va_A (wm ca ad t k v b n kd ln w nw ins sn) sz) := by
  refine vx_ofW (cc := cX0_kth) (maxL := 4) (ret := (some .int)) (by decide) rfl ?_
  intro p e s m args below meth c s₁ B hml het hv
  obtain ⟨rfl, ⟨hsz, hP, hK, hD0⟩, hX⟩ := hv
  have hx := B.exec
  have hb := B.bytes
  have hr := B.returns
  have hts := atoms_spec (ws := wsX0_kth) B.pre
  have hown : s.vm.findClass RX0 = some m.cls := findClass_of_methodNamed B.named
  have hlocks := B.notSynchronized
  subst hsz
  have hin0 : ∀ w ∈ u_ws RX0 TX0 11, w ∈ wsX0_kth := fun w h => List.mem_cons_of_mem _ (wiX0 w h)
  have fl_16 := hts _ (List.mem_cons_of_mem _ flX0_16)
  have hD := hD0.self (sz := s.heap.size)
  generalize hAe : va_A (wm ca ad t k v b n kd ln w nw ins sn) s.heap.size = A at hD hX ⊢
  have hA : ∀ q : Nat, s.heap.size ≤ q → A q := fun q h => by rw [← hAe]; exact Or.inr h
  have hS : va_S A s.heap s.heap [] := va_S.rf
  have hl := lv_entry ([.ref (ad 0), .int p1, .int p2]) (n := 4) (Nat.le_of_ble_eq_true rfl)
  rw [lg_entry_eq]
  generalize (lg_sl ([.ref (ad 0), .int p1, .int p2]) ++ List.replicate (4 - (lg_sl ([.ref (ad 0), .int p1, .int p2])).length) Slot.unset).toArray = ls at hl ⊢
  have hl : lv_has ls 4 [(0, .ref (ad 0)), (1, .int p1), (2, .int p2)] := hl
  refine lv_aload_n hx hb dX0_kth_0 rfl (lv_at hl 0 rfl) ?_
  refine lv_iload_n hx hb dX0_kth_1 rfl (lv_at hl 1 rfl) ?_
  have hFc := va_free (wc := wm ca ad t k v b n kd ln w nw ins sn) hD hS hA [0, 1, 2, 3, 4, 5, 6, 7, 8] rfl
  refine vx_callv (vx_runV (As := [.int p1]) (rest := []) ⟨hx, hb, hml, hown, hts⟩ (c_checkWindow l hlt dC dI ca ad _ t k v b n kd ln w nw ins sn p1 hw6) (cwV 1 hts (gg_V mlX0_70 imX0_checkWindow seX0_checkWindow in_WindowMeters kwX0_checkWindow) rfl rfl rfl (by decide +kernel) ⟨Nat.le_of_ble_eq_true rfl, Nat.le_of_ble_eq_true rfl⟩) (wm_preX hK hP hD hS hFc hX [.int p1]) rfl rfl hl.1 rfl (lv_room (Nat.le_of_ble_eq_true rfl)) dX0_kth_2 ⟨Nat.le_of_ble_eq_true rfl, Nat.le_of_ble_eq_true rfl⟩) hS (fun q _ h => hFc q h) hFc (fun q _ h => hFc q h) (fun E ce q9 u t9 H1 locs ht9 hvm _ hB hz1 hk1 hS hcell hcv hcl => ?_) (fun u t9 H1 locs ht9 hvm hw_1 hB hz1 hk1 hS => ?_)
  · obtain ⟨hE, hP, -, hD1⟩ := hB
    rw [ht9] at hP
    have hD := hD1.weaken (fun k q hk h => hFc q.1 h)
    exact vx_out (fun x h => (het x h).elim) hlocks hcell hcv hcl (fun t8 ht8 hal => ⟨(ins, sn), trivial, ⟨Or.inl hE, by rw [ht8]; exact hP, va_K.moved hal hK, hD⟩, hS.F ht8⟩) hS.2.2 (Nat.le_of_ble_eq_true rfl) (Nat.le_of_ble_eq_true rfl)
  · obtain ⟨hP, -, hD1⟩ := hB
    rw [ht9] at hP
    have hD := hD1.weaken (fun k q hk h => hFc q.1 h)
    generalize H1 = H at hP hS ⊢
    have hP : va_P (dC, dI) vwCl (wm ca ad t k v b n kd ln w nw ins sn) H := hP
    have hD : va_D A (wm ca ad t k v b n kd ln w nw ins sn) := hD
    obtain ⟨wi, hwi, rfl⟩ := hw_1
    have hl : lv_has ls 4 [(0, .ref (ad 0)), (1, .int (nI wi)), (2, .int p2)] := hl
    refine lv_aload_n hx hb dX0_kth_5 rfl (lv_at hl 0 rfl) ?_
    refine lv_iload_n hx hb dX0_kth_6 rfl (lv_at hl 1 rfl) ?_
    have hFc := va_free (wc := wm ca ad t k v b n kd ln w nw ins sn) hD hS hA [0, 1, 2, 3, 4, 5, 6, 7, 8] rfl
    refine va_callv (va_runV (As := [.int (nI wi)]) (rest := []) ⟨hx, hb, hml, hown, hts⟩ (c_markInside l dC dI ca ad _ t k v b n kd ln w nw ins sn wi  hn hk8 (by omega)) (cwV 1 hts (gg_V mlX0_75 imX0_markInside seX0_markInside in_WindowMeters kwX0_markInside) rfl rfl rfl (by decide +kernel) ⟨Nat.le_of_ble_eq_true rfl, Nat.le_of_ble_eq_true rfl⟩) (wm_preV hK hP hD [.int (nI wi)]) rfl rfl hl.1 rfl (lv_room (Nat.le_of_ble_eq_true rfl)) dX0_kth_7 ⟨Nat.le_of_ble_eq_true rfl, Nat.le_of_ble_eq_true rfl⟩) hS (fun q _ h => hFc q h) hFc (fun u9 t9 H1 locs ht9 hvm hw_2 hB hz1 hk1 hS => ?_)
    obtain ⟨hP, -, hD1⟩ := hB
    rw [ht9] at hP
    have hD := hD1.weaken (fun k q hk h => hFc q.1 h)
    generalize H1 = H at hP hS ⊢
    have hP : va_P (dC, dI) vwCl (wm ca ad t k v b n kd ln w nw u9.1 u9.2) H := hP
    have hD : va_D A (wm ca ad t k v b n kd ln w nw u9.1 u9.2) := hD
    refine lv_aload_n hx hb dX0_kth_10 rfl (lv_at hl 0 rfl) ?_
    refine lv_iload_n hx hb dX0_kth_11 rfl (lv_at hl 2 rfl) ?_
    refine vp_callSi (W.runV (As := [.int p2]) (rest := []) ⟨hx, hb, hml, hown, hts⟩ (c_findKth l dC dI ca ad _ t k v b n kd ln w nw u9.1 u9.2  p2 hn hbn) (cwV 1 hts (gg_V mlX0_91 imX0_findKth seX0_findKth in_WindowMeters kwX0_findKth) rfl rfl rfl (by decide +kernel) ⟨Nat.le_of_ble_eq_true rfl, Nat.le_of_ble_eq_true rfl⟩) (wm_preV hK hP hD [.int p2]) rfl rfl hl.1 rfl (lv_room (Nat.le_of_ble_eq_true rfl)) dX0_kth_12 ⟨Nat.le_of_ble_eq_true rfl, Nat.le_of_ble_eq_true rfl⟩) (fun r_3 hr_4 => ?_)
    refine lv_istore_n (lv' := [(3, .int r_3), (0, .ref (ad 0)), (1, .int (nI wi)), (2, .int p2)]) hx hb dX0_kth_15 rfl hl (by decide) rfl (fun ls hl => ?_)
    refine lv_iload_n hx hb dX0_kth_16 rfl (lv_at hl 0 rfl) ?_
    refine lv_iconst (v := (-1)) hx hb dX0_kth_17 (by decide) ?_
    refine lv_icmp_ne (tgt := 31) hx hb dX0_kth_18 (by decide) (fun c_5 => ?_) (fun c_5 => ?_)
    · rcases hr_4 with ⟨q9, hq9, hf9, hc9, rfl⟩ | ⟨e9, -⟩
      · have hl : lv_has ls 4 [(3, .int (nI (b q9))), (0, .ref (ad 0)), (1, .int (nI wi)), (2, .int p2)] := hl
        refine lv_aload_n hx hb dX0_kth_31 rfl (lv_at hl 1 rfl) ?_
        refine va_get (D := (dC, dI)) (ci := 0) (v := .ref (ad 3)) (C := RX0) (T := TX0) (N := 11) hx hb hts hin0 hown hK hP 0 rfl rfl 2 (by decide) fl_16 (fun _ h9 => h9) rfl dX0_kth_32 ?_
        refine lv_iload_n hx hb dX0_kth_35 rfl (lv_at hl 0 rfl) ?_
        refine ya_iald hx hb hK hP 3 2 rfl rfl (j := (b q9)) (Nat.lt_of_lt_of_le (hbn q9 hq9) hn) (by decide) dX0_kth_36 ?_
        refine vx_ret (W.widen (k := 2) (n := 12) (Nat.le_of_ble_eq_true rfl) (Nat.le_of_ble_eq_true rfl) ?_)
        exact W.iret (v := (v (b q9))) hx hb hr (fun t9 ht hW => ⟨⟨_, u9, rfl, ⟨wi, q9, hwi, rfl, hw_2, hq9, hf9, hc9, rfl⟩, by rw [ht]; exact hP, va_K.moved hW.alike hK, hD⟩, hS.F ht⟩) hS.2.2 dX0_kth_37
      · exact absurd e9 c_5
    · rcases hr_4 with ⟨q9, hq9, -, -, rfl⟩ | ⟨-, hall⟩
      · exact absurd c_5 (yn_m1 (Nat.lt_trans (hbn q9 hq9) (by omega)))
      · obtain ⟨sa, hsa⟩ := hX.1.2.1 (97, "no such value in the window") (by decide)
        exact xn_throw (text := "no such value in the window") (is := 97) (A := A) hx hb hlt hown hts hX.1 hsa hX.2.1 hX.2.2 hS (by rw [hml]; exact hl.1) dX0_kth_21 dX0_kth_24 dX0_kth_25 dX0_kth_27 dX0_kth_30 (fun x h => (het x h).elim) (Nat.le_of_ble_eq_true rfl) (Nat.le_of_ble_eq_true rfl) (Nat.le_of_ble_eq_true rfl) (Nat.le_of_ble_eq_true rfl) hlocks (fun t9 hal hz hq => by
          obtain ⟨gP, gK, gF⟩ := wm_thrown hP hK hS hal hz hq
          exact ⟨u9, trivial, ⟨Or.inr ⟨rfl, wi, hwi, rfl, hw_2, hall⟩, gP, gK, hD⟩, gF⟩) hS.2.2 (Nat.le_of_ble_eq_true rfl) (Nat.le_of_ble_eq_true rfl)

set_option maxRecDepth 100000 in
set_option maxHeartbeats 4000000 in
/-- frequent(w) -/
theorem c_frequent (l : Launch) (hlt : l.stackTraces = false) (dC : Nat → ClassId) (dI : Nat → Nat → Nat) (ca : Nat → ClassId) (ad : Nat → Nat) (sz : Nat) (t : Nat → Int32) (k : Nat → Nat) (v : Nat → Int32) (b : Nat → Nat) (n : Nat) (kd : Nat → Int32) (ln : Nat → Int32) (w : Nat) (nw : Int32) (ins : Nat → Int32) (sn : Nat → Nat) (p1 : Int32) (hn : n ≤ 300) (hk8 : ∀ j, j < n → k j < 8) (hw6 : w ≤ 6) (hbn : ∀ j, j < n → b j < n) : vx_Met l yX0_frequent wsX0_frequent ({ frames := 7, cells := 2, slots := 12, locals := 111 }) (va_Pc [.ref (ad 0), .int p1] (fun U => wmPre dC dI ca ad sz t k v b n kd ln w nw ins sn U ∧ xwP (va_A (wm ca ad t k v b n kd ln w nw ins sn) sz) U)) (va_Qi (fun (r : Int32) (u : (Nat → Int32) × (Nat → Nat)) => ∃ wi j9, wi < w ∧ p1 = nI wi ∧ (∀ j, j < n → qc_mk (u.1 j) (qc_in t k n nw (kd wi) (ln wi) j)) ∧ (qc_fmf v b u.1 n).1 = some j9 ∧ r = v j9) (fun u t9 => wmAt dC dI ca ad (va_A (wm ca ad t k v b n kd ln w nw ins sn) sz) t k v b n kd ln w nw u.1 u.2 t9) (va_A (wm ca ad t k v b n kd ln w nw ins sn) sz)) (vx_X (fun _ : (Nat → Int32) × (Nat → Nat) => True) (fun E u t9 => ((E = xIOB ∧ ¬ qx_win w p1) ∨ (E = xNSE ∧ ∃ wi, wi < w ∧ p1 = nI wi ∧ (∀ j, j < n → qc_mk (u.1 j) (qc_in t k n nw (kd wi) (ln wi) j)) ∧ (qc_fmf v b u.1 n).1 = none)) ∧ wmAt dC dI ca ad (va_A (wm ca ad t k v b n kd ln w nw ins sn) sz) t k v b n kd ln w nw u.1 u.2 t9) (va_A (wm ca ad t k v b n kd ln w nw ins sn) sz)) 2 12 (va_A (wm ca ad t k v b n kd ln w nw ins sn) sz) := by
  refine vx_ofW (cc := cX0_frequent) (maxL := 3) (ret := (some .int)) (by decide) rfl ?_
  intro p e s m args below meth c s₁ B hml het hv
  obtain ⟨rfl, ⟨hsz, hP, hK, hD0⟩, hX⟩ := hv
  have hx := B.exec
  have hb := B.bytes
  have hr := B.returns
  have hts := atoms_spec (ws := wsX0_frequent) B.pre
  have hown : s.vm.findClass RX0 = some m.cls := findClass_of_methodNamed B.named
  have hlocks := B.notSynchronized
  subst hsz
  have hin0 : ∀ w ∈ u_ws RX0 TX0 11, w ∈ wsX0_frequent := fun w h => List.mem_cons_of_mem _ (wiX0 w h)
  have fl_16 := hts _ (List.mem_cons_of_mem _ flX0_16)
  have hD := hD0.self (sz := s.heap.size)
  generalize hAe : va_A (wm ca ad t k v b n kd ln w nw ins sn) s.heap.size = A at hD hX ⊢
  have hA : ∀ q : Nat, s.heap.size ≤ q → A q := fun q h => by rw [← hAe]; exact Or.inr h
  have hS : va_S A s.heap s.heap [] := va_S.rf
  have hl := lv_entry ([.ref (ad 0), .int p1]) (n := 3) (Nat.le_of_ble_eq_true rfl)
  rw [lg_entry_eq]
  generalize (lg_sl ([.ref (ad 0), .int p1]) ++ List.replicate (3 - (lg_sl ([.ref (ad 0), .int p1])).length) Slot.unset).toArray = ls at hl ⊢
  have hl : lv_has ls 3 [(0, .ref (ad 0)), (1, .int p1)] := hl
  refine lv_aload_n hx hb dX0_frequent_0 rfl (lv_at hl 0 rfl) ?_
  refine lv_iload_n hx hb dX0_frequent_1 rfl (lv_at hl 1 rfl) ?_
  have hFc := va_free (wc := wm ca ad t k v b n kd ln w nw ins sn) hD hS hA [0, 1, 2, 3, 4, 5, 6, 7, 8] rfl
  refine vx_callv (vx_runV (As := [.int p1]) (rest := []) ⟨hx, hb, hml, hown, hts⟩ (c_checkWindow l hlt dC dI ca ad _ t k v b n kd ln w nw ins sn p1 hw6) (cwV 1 hts (gg_V mlX0_70 imX0_checkWindow seX0_checkWindow in_WindowMeters kwX0_checkWindow) rfl rfl rfl (by decide +kernel) ⟨Nat.le_of_ble_eq_true rfl, Nat.le_of_ble_eq_true rfl⟩) (wm_preX hK hP hD hS hFc hX [.int p1]) rfl rfl hl.1 rfl (lv_room (Nat.le_of_ble_eq_true rfl)) dX0_frequent_2 ⟨Nat.le_of_ble_eq_true rfl, Nat.le_of_ble_eq_true rfl⟩) hS (fun q _ h => hFc q h) hFc (fun q _ h => hFc q h) (fun E ce q9 u t9 H1 locs ht9 hvm _ hB hz1 hk1 hS hcell hcv hcl => ?_) (fun u t9 H1 locs ht9 hvm hw_1 hB hz1 hk1 hS => ?_)
  · obtain ⟨hE, hP, -, hD1⟩ := hB
    rw [ht9] at hP
    have hD := hD1.weaken (fun k q hk h => hFc q.1 h)
    exact vx_out (fun x h => (het x h).elim) hlocks hcell hcv hcl (fun t8 ht8 hal => ⟨(ins, sn), trivial, ⟨Or.inl hE, by rw [ht8]; exact hP, va_K.moved hal hK, hD⟩, hS.F ht8⟩) hS.2.2 (Nat.le_of_ble_eq_true rfl) (Nat.le_of_ble_eq_true rfl)
  · obtain ⟨hP, -, hD1⟩ := hB
    rw [ht9] at hP
    have hD := hD1.weaken (fun k q hk h => hFc q.1 h)
    generalize H1 = H at hP hS ⊢
    have hP : va_P (dC, dI) vwCl (wm ca ad t k v b n kd ln w nw ins sn) H := hP
    have hD : va_D A (wm ca ad t k v b n kd ln w nw ins sn) := hD
    obtain ⟨wi, hwi, rfl⟩ := hw_1
    have hl : lv_has ls 3 [(0, .ref (ad 0)), (1, .int (nI wi))] := hl
    refine lv_aload_n hx hb dX0_frequent_5 rfl (lv_at hl 0 rfl) ?_
    refine lv_iload_n hx hb dX0_frequent_6 rfl (lv_at hl 1 rfl) ?_
    have hFc := va_free (wc := wm ca ad t k v b n kd ln w nw ins sn) hD hS hA [0, 1, 2, 3, 4, 5, 6, 7, 8] rfl
    refine va_callv (va_runV (As := [.int (nI wi)]) (rest := []) ⟨hx, hb, hml, hown, hts⟩ (c_markInside l dC dI ca ad _ t k v b n kd ln w nw ins sn wi  hn hk8 (by omega)) (cwV 1 hts (gg_V mlX0_75 imX0_markInside seX0_markInside in_WindowMeters kwX0_markInside) rfl rfl rfl (by decide +kernel) ⟨Nat.le_of_ble_eq_true rfl, Nat.le_of_ble_eq_true rfl⟩) (wm_preV hK hP hD [.int (nI wi)]) rfl rfl hl.1 rfl (lv_room (Nat.le_of_ble_eq_true rfl)) dX0_frequent_7 ⟨Nat.le_of_ble_eq_true rfl, Nat.le_of_ble_eq_true rfl⟩) hS (fun q _ h => hFc q h) hFc (fun u9 t9 H1 locs ht9 hvm hw_2 hB hz1 hk1 hS => ?_)
    obtain ⟨hP, -, hD1⟩ := hB
    rw [ht9] at hP
    have hD := hD1.weaken (fun k q hk h => hFc q.1 h)
    generalize H1 = H at hP hS ⊢
    have hP : va_P (dC, dI) vwCl (wm ca ad t k v b n kd ln w nw u9.1 u9.2) H := hP
    have hD : va_D A (wm ca ad t k v b n kd ln w nw u9.1 u9.2) := hD
    refine lv_aload_n hx hb dX0_frequent_10 rfl (lv_at hl 0 rfl) ?_
    refine vp_callSi (W.runV (As := []) (rest := []) ⟨hx, hb, hml, hown, hts⟩ (c_findMostFrequent l dC dI ca ad _ t k v b n kd ln w nw u9.1 u9.2   hn hbn) (cwV 0 hts (gg_V mlX0_100 imX0_findMostFrequent seX0_findMostFrequent in_WindowMeters kwX0_findMostFrequent) rfl rfl rfl (by decide +kernel) ⟨Nat.le_of_ble_eq_true rfl, Nat.le_of_ble_eq_true rfl⟩) (wm_preV hK hP hD []) rfl rfl hl.1 rfl (lv_room (Nat.le_of_ble_eq_true rfl)) dX0_frequent_11 ⟨Nat.le_of_ble_eq_true rfl, Nat.le_of_ble_eq_true rfl⟩) (fun r_3 hr_4 => ?_)
    obtain ⟨o9, ho9⟩ : ∃ o, o = (qc_fmf v b u9.1 n).1 := ⟨_, rfl⟩
    rw [← ho9] at hr_4
    subst hr_4
    have hin9 := (qc_fmf_in (v := v) (f := u9.1) hbn n (Nat.le_refl n)).1
    rw [← ho9] at hin9
    refine lv_istore_n (lv' := [(2, .int (qc_o o9)), (0, .ref (ad 0)), (1, .int (nI wi))]) hx hb dX0_frequent_14 rfl hl (by decide) rfl (fun ls hl => ?_)
    refine lv_iload_n hx hb dX0_frequent_15 rfl (lv_at hl 0 rfl) ?_
    refine lv_iconst (v := (-1)) hx hb dX0_frequent_16 (by decide) ?_
    refine lv_icmp_ne (tgt := 30) hx hb dX0_frequent_17 (by decide) (fun c_5 => ?_) (fun c_5 => ?_)
    · obtain ⟨j9, rfl⟩ := qc_o_some c_5
      have hl : lv_has ls 3 [(2, .int (nI j9)), (0, .ref (ad 0)), (1, .int (nI wi))] := hl
      have hj9 : j9 < n := hin9 j9 rfl
      refine lv_aload_n hx hb dX0_frequent_30 rfl (lv_at hl 1 rfl) ?_
      refine va_get (D := (dC, dI)) (ci := 0) (v := .ref (ad 3)) (C := RX0) (T := TX0) (N := 11) hx hb hts hin0 hown hK hP 0 rfl rfl 2 (by decide) fl_16 (fun _ h9 => h9) rfl dX0_frequent_31 ?_
      refine lv_iload_n hx hb dX0_frequent_34 rfl (lv_at hl 0 rfl) ?_
      refine ya_iald hx hb hK hP 3 2 rfl rfl (j := j9) (by omega) (by decide) dX0_frequent_35 ?_
      refine vx_ret (W.widen (k := 2) (n := 12) (Nat.le_of_ble_eq_true rfl) (Nat.le_of_ble_eq_true rfl) ?_)
      exact W.iret (v := (v j9)) hx hb hr (fun t9 ht hW => ⟨⟨_, u9, rfl, ⟨wi, j9, hwi, rfl, hw_2, ho9.symm, rfl⟩, by rw [ht]; exact hP, va_K.moved hW.alike hK, hD⟩, hS.F ht⟩) hS.2.2 dX0_frequent_36
    · obtain rfl := qc_o_none (fun j h => Nat.lt_trans (hin9 j h) (by omega)) c_5
      obtain ⟨sa, hsa⟩ := hX.1.2.1 (103, "no value in the window") (by decide)
      exact xn_throw (text := "no value in the window") (is := 103) (A := A) hx hb hlt hown hts hX.1 hsa hX.2.1 hX.2.2 hS (by rw [hml]; exact hl.1) dX0_frequent_20 dX0_frequent_23 dX0_frequent_24 dX0_frequent_26 dX0_frequent_29 (fun x h => (het x h).elim) (Nat.le_of_ble_eq_true rfl) (Nat.le_of_ble_eq_true rfl) (Nat.le_of_ble_eq_true rfl) (Nat.le_of_ble_eq_true rfl) hlocks (fun t9 hal hz hq => by
        obtain ⟨gP, gK, gF⟩ := wm_thrown hP hK hS hal hz hq
        exact ⟨u9, trivial, ⟨Or.inr ⟨rfl, wi, hwi, rfl, hw_2, ho9.symm⟩, gP, gK, hD⟩, gF⟩) hS.2.2 (Nat.le_of_ble_eq_true rfl) (Nat.le_of_ble_eq_true rfl)
end
section
/-! the order by size: a row of numbers 0 .. n - 1, each once, their values going up -/
def pb_ok (b : Nat → Nat) (n : Nat) : Prop := ((List.range n).map b).Perm (List.range n)
def pb_so (v : Nat → Int32) (b : Nat → Nat) (n : Nat) : Prop := ∀ i j, i ≤ j → j < n → v (b i) ≤ v (b j)
theorem pb_lt {b : Nat → Nat} {n : Nat} (h : pb_ok b n) : ∀ j, j < n → b j < n := fun j hj => List.mem_range.mp ((List.Perm.mem_iff h).mp (List.mem_map.mpr ⟨j, List.mem_range.mpr hj, rfl⟩))
theorem pb_0 (b : Nat → Nat) : pb_ok b 0 := List.Perm.refl _
theorem pb_so0 (v : Nat → Int32) (b : Nat → Nat) : pb_so v b 0 := fun _ j _ h => absurd h (Nat.not_lt_zero j)
theorem pb_ins {v : Nat → Int32} {b u : Nat → Nat} {n : Nat} (h : pb_ok b n) (hi : qc_ins v b n u) : pb_ok u (n + 1) := by
  obtain ⟨p, hp, -, -, h4, h5, h6⟩ := hi
  obtain ⟨d, rfl⟩ : ∃ d, n = p + d := ⟨n - p, by omega⟩
  have e1 : (List.range (p + d)).map b = (List.range p).map b ++ (List.range d).map (fun x => b (p + x)) := by
    rw [List.range_add, List.map_append, List.map_map]; rfl
  have e2 : (List.range (p + d + 1)).map u = (List.range p).map b ++ (p + d) :: (List.range d).map (fun x => b (p + x)) := by
    rw [Nat.add_assoc, List.range_add, List.map_append, List.map_map, List.range_succ_eq_map, List.map_cons, List.map_map]
    congr 1
    · exact List.map_congr_left (fun x hx => h4 x (List.mem_range.mp hx))
    · congr 1
      exact List.map_congr_left (fun x hx => by
        have hx := List.mem_range.mp hx
        show u (p + (x + 1)) = b (p + x)
        rw [h6 (p + (x + 1)) (by omega) (by omega)]
        congr 1)
  unfold pb_ok at h ⊢
  rw [e1] at h
  rw [e2, List.range_succ]
  exact List.perm_middle.trans ((List.Perm.cons _ h).trans (List.perm_append_singleton _ _).symm)
theorem pb_so_ins {v v' : Nat → Int32} {b u : Nat → Nat} {n : Nat} (hb : ∀ j, j < n → b j < n) (hv : ∀ j, j ≤ n → v' j = v j) (hs : pb_so v b n) (hi : qc_ins v b n u) : pb_so v' u (n + 1) := by
  obtain ⟨p, hp, h2, h3, h4, h5, h6⟩ := hi
  have low : ∀ i, i < p → v' (u i) ≤ v n := fun i hi => by
    rw [h4 i hi, hv _ (Nat.le_of_lt (hb i (by omega)))]
    rcases h2 with h2 | h2
    · omega
    · exact Int32.le_trans (hs i (p - 1) (by omega) (by omega)) h2
  have high : ∀ i, p < i → i ≤ n → v n ≤ v' (u i) := fun i g1 g2 => by
    rw [h6 i g1 g2, hv _ (Nat.le_of_lt (hb _ (by omega)))]
    exact Int32.le_of_lt (Int32.not_le.mp (h3 (i - 1) (by omega) (by omega)))
  have mid : v' (u p) = v n := by rw [h5, hv n (Nat.le_refl n)]
  intro i j hij hj
  rcases Nat.lt_trichotomy i p with a | a | a
  · rcases Nat.lt_trichotomy j p with c | c | c
    · rw [h4 i a, h4 j c, hv _ (Nat.le_of_lt (hb i (by omega))), hv _ (Nat.le_of_lt (hb j (by omega)))]
      exact hs i j hij (by omega)
    · subst c; rw [mid]; exact low i a
    · exact Int32.le_trans (low i a) (high j c (by omega))
  · subst a
    rcases Nat.lt_or_ge i j with c | c
    · rw [mid]; exact high j c (by omega)
    · obtain rfl : j = i := by omega
      exact Int32.le_refl _
  · rw [h6 i a (by omega), h6 j (by omega) (by omega), hv _ (Nat.le_of_lt (hb _ (by omega))), hv _ (Nat.le_of_lt (hb _ (by omega)))]
    exact hs (i - 1) (j - 1) (by omega) (by omega)
/-- counting along the order is counting along the row -/
theorem pb_count {b : Nat → Nat} {n : Nat} (h : pb_ok b n) (P : Nat → Bool) : (List.range n).countP (fun q => P (b q)) = (List.range n).countP P := by
  have e := List.Perm.countP_eq P h
  rw [List.countP_map] at e
  exact e
/-! the values of a window as lists: in the order of arrival (wl), in the order of size (wb); what is told of them hangs on the list up to order -/
def wl (v f : Nat → Int32) (n : Nat) : List Int32 := ((List.range n).filter (fun i => decide (f i ≠ 0))).map v
def wb (v : Nat → Int32) (b : Nat → Nat) (f : Nat → Int32) (n : Nat) : List Int32 := ((List.range n).filter (fun q => decide (f (b q) ≠ 0))).map (fun q => v (b q))
theorem wl_0 (v f : Nat → Int32) : wl v f 0 = [] := rfl
theorem wl_s (v f : Nat → Int32) (n : Nat) : wl v f (n + 1) = if f n = 0 then wl v f n else wl v f n ++ [v n] := by
  unfold wl
  rw [List.range_succ, List.filter_append, List.map_append]
  by_cases h : f n = 0
  · simp [h]
  · simp [h]
theorem wb_0 (v : Nat → Int32) (b : Nat → Nat) (f : Nat → Int32) : wb v b f 0 = [] := rfl
theorem wb_s (v : Nat → Int32) (b : Nat → Nat) (f : Nat → Int32) (n : Nat) : wb v b f (n + 1) = if f (b n) = 0 then wb v b f n else wb v b f n ++ [v (b n)] := by
  unfold wb
  rw [List.range_succ, List.filter_append, List.map_append]
  by_cases h : f (b n) = 0
  · simp [h]
  · simp [h]
theorem wb_perm {v : Nat → Int32} {b : Nat → Nat} {f : Nat → Int32} {n : Nat} (h : pb_ok b n) : (wb v b f n).Perm (wl v f n) := by
  have e : wb v b f n = (((List.range n).map b).filter (fun i => decide (f i ≠ 0))).map v := by
    unfold wb
    rw [List.filter_map, List.map_map]
    rfl
  rw [e]
  exact List.Perm.map v (List.Perm.filter _ h)
theorem wb_mem {v : Nat → Int32} {b : Nat → Nat} {f : Nat → Int32} {n : Nat} {x : Int32} : x ∈ wb v b f n ↔ ∃ q, q < n ∧ f (b q) ≠ 0 ∧ v (b q) = x := by
  unfold wb
  simp only [List.mem_map, List.mem_filter, List.mem_range, decide_eq_true_eq]
  constructor
  · rintro ⟨q, ⟨h1, h2⟩, h3⟩; exact ⟨q, h1, h2, h3⟩
  · rintro ⟨q, h1, h2, h3⟩; exact ⟨q, ⟨h1, h2⟩, h3⟩
theorem wl_mem {v f : Nat → Int32} {n : Nat} {x : Int32} : x ∈ wl v f n ↔ ∃ q, q < n ∧ f q ≠ 0 ∧ v q = x := by
  unfold wl
  simp only [List.mem_map, List.mem_filter, List.mem_range, decide_eq_true_eq]
  constructor
  · rintro ⟨q, ⟨h1, h2⟩, h3⟩; exact ⟨q, h1, h2, h3⟩
  · rintro ⟨q, h1, h2, h3⟩; exact ⟨q, ⟨h1, h2⟩, h3⟩
theorem wb_le {v : Nat → Int32} {b : Nat → Nat} {f : Nat → Int32} {n p : Nat} (hs : pb_so v b n) (hp : p < n) : ∀ x ∈ wb v b f p, x ≤ v (b p) := by
  intro x hx
  obtain ⟨q, h1, -, rfl⟩ := wb_mem.mp hx
  exact hs q p (Nat.le_of_lt h1) hp
/-- how many unlike ones a list has -/
def nd : List Int32 → Nat
  | [] => 0
  | a :: l => if a ∈ l then nd l else nd l + 1
theorem nd_perm {l l' : List Int32} (h : l.Perm l') : nd l = nd l' := by
  induction h with
  | nil => rfl
  | @cons a l1 l2 h ih =>
    show (if a ∈ l1 then nd l1 else nd l1 + 1) = if a ∈ l2 then nd l2 else nd l2 + 1
    by_cases q : a ∈ l1
    · rw [if_pos q, if_pos (h.mem_iff.mp q), ih]
    · rw [if_neg q, if_neg (fun g => q (h.mem_iff.mpr g)), ih]
  | swap a c l =>
    show nd (c :: a :: l) = nd (a :: c :: l)
    by_cases e : a = c
    · subst e; rfl
    · have e' : ¬ c = a := fun h => e h.symm
      simp only [nd, List.mem_cons, e, e', false_or]
      by_cases h1 : a ∈ l <;> by_cases h2 : c ∈ l <;> simp [h1, h2]
  | trans _ _ ih1 ih2 => exact ih1.trans ih2
theorem nd_snoc (l : List Int32) (a : Int32) : nd (l ++ [a]) = if a ∈ l then nd l else nd l + 1 := nd_perm (List.perm_append_singleton a l)
/-- countUnlike counts the unlike ones -/
theorem unl_spec {v : Nat → Int32} {b : Nat → Nat} {f : Nat → Int32} {n : Nat} (hs : pb_so v b n) : ∀ p, p ≤ n → (qc_unl v b f p).1 = nd (wb v b f p) ∧ ((qc_unl v b f p).2 = none → wb v b f p = []) ∧ (∀ j, (qc_unl v b f p).2 = some j → v j ∈ wb v b f p ∧ ∀ x ∈ wb v b f p, x ≤ v j) := by
  intro p
  induction p with
  | zero => intro _; exact ⟨rfl, fun _ => rfl, fun j h => (by cases h)⟩
  | succ p ih =>
    intro hp
    obtain ⟨h1, h2, h3⟩ := ih (by omega)
    rw [wb_s]
    by_cases hf : f (b p) = 0
    · rw [qc_unl, if_pos hf, if_pos hf]; exact ⟨h1, h2, h3⟩
    · rw [qc_unl, if_neg hf, if_neg hf]
      have hle := wb_le (f := f) hs (show p < n by omega)
      have hlast : v (b p) ∈ wb v b f p ++ [v (b p)] ∧ ∀ x ∈ wb v b f p ++ [v (b p)], x ≤ v (b p) := ⟨List.mem_append_right _ (List.mem_singleton.mpr rfl), fun x hx => by
          rcases List.mem_append.mp hx with g | g
          · exact hle x g
          · rw [List.mem_singleton.mp g]; exact Int32.le_refl _⟩
      refine ⟨?_, fun h => (by cases h), fun j h => (by cases h; exact hlast)⟩
      rw [nd_snoc]
      cases hl : (qc_unl v b f p).2 with
      | none => rw [h2 hl]; simp [h1, h2 hl]
      | some j =>
        obtain ⟨g1, g2⟩ := h3 j hl
        by_cases e : v (b p) = v j
        · rw [if_pos (by rw [e]; exact g1)]; simp [e, h1]
        · rw [if_neg (fun g => e (Int32.le_antisymm (g2 _ g) (hle _ g1)))]; simp [e, h1]
/-- findMostFrequent finds the most frequent one, of several the least -/
def mfq (l : List Int32) (x : Int32) (c : Nat) : Prop := l.count x = c ∧ (∀ y, l.count y ≤ c) ∧ ∀ y, y < x → l.count y < c
theorem count_snoc (l : List Int32) (a y : Int32) : (l ++ [a]).count y = l.count y + if a = y then 1 else 0 := by
  rw [List.count_append, List.count_singleton]
  by_cases h : a = y
  · simp [h]
  · simp [h]
theorem fmf_spec {v : Nat → Int32} {b : Nat → Nat} {f : Nat → Int32} {n : Nat} (hs : pb_so v b n) : ∀ p, p ≤ n →
    ((qc_fmf v b f p).1 = none → wb v b f p = [] ∧ (qc_fmf v b f p).2.1 = 0) ∧ (∀ j, (qc_fmf v b f p).1 = some j → mfq (wb v b f p) (v j) (qc_fmf v b f p).2.1 ∧ 0 < (qc_fmf v b f p).2.1) ∧
    ((qc_fmf v b f p).2.2.1 = none → wb v b f p = []) ∧ (∀ j, (qc_fmf v b f p).2.2.1 = some j → (wb v b f p).count (v j) = (qc_fmf v b f p).2.2.2 ∧ v j ∈ wb v b f p ∧ ∀ x ∈ wb v b f p, x ≤ v j) := by
  intro p
  induction p with
  | zero => intro _; exact ⟨fun _ => ⟨rfl, rfl⟩, fun j h => (by cases h), fun _ => rfl, fun j h => (by cases h)⟩
  | succ p ih =>
    intro hp
    obtain ⟨h1, h2, h3, h4⟩ := ih (by omega)
    rw [wb_s]
    by_cases hf : f (b p) = 0
    · rw [qc_fmf, if_pos hf, if_pos hf]; exact ⟨h1, h2, h3, h4⟩
    · rw [qc_fmf, if_neg hf, if_neg hf]
      have hle := wb_le (f := f) hs (show p < n by omega)
      dsimp only
      have hlast : v (b p) ∈ wb v b f p ++ [v (b p)] ∧ ∀ x ∈ wb v b f p ++ [v (b p)], x ≤ v (b p) := ⟨List.mem_append_right _ (List.mem_singleton.mpr rfl), fun x hx => by
          rcases List.mem_append.mp hx with g | g
          · exact hle x g
          · rw [List.mem_singleton.mp g]; exact Int32.le_refl _⟩
      obtain ⟨o, ho⟩ : ∃ o : Nat, o = qc_oft v (v (b p)) (qc_fmf v b f p).2.2.1 (qc_fmf v b f p).2.2.2 := ⟨_, rfl⟩
      rw [← ho]
      have hco : (wb v b f p ++ [v (b p)]).count (v (b p)) = o := by
        rw [count_snoc, if_pos rfl, ho]
        cases hl : (qc_fmf v b f p).2.2.1 with
        | none => rw [h3 hl]; rfl
        | some j =>
          obtain ⟨g1, g2, g3⟩ := h4 j hl
          show _ = if v (b p) = v j then (qc_fmf v b f p).2.2.2 + 1 else 1
          by_cases e : v (b p) = v j
          · rw [if_pos e, e, g1]
          · rw [if_neg e, List.count_eq_zero_of_not_mem (fun g => e (Int32.le_antisymm (g3 _ g) (hle _ g2)))]
      have hpos : 0 < o := by rw [← hco]; exact List.count_pos_iff.mpr hlast.1
      have hall : ∀ y, (wb v b f p).count y ≤ (qc_fmf v b f p).2.1 := by
        cases hm : (qc_fmf v b f p).1 with
        | none => intro y; rw [(h1 hm).1]; exact Nat.zero_le _
        | some j => exact (h2 j hm).1.2.1
      by_cases hb : (qc_fmf v b f p).2.1 < o
      · rw [if_pos hb]
        refine ⟨fun h => (by cases h), fun j h => ?_, fun h => (by cases h), fun j h => ?_⟩
        · cases h
          refine ⟨⟨hco, fun y => ?_, fun y hy => ?_⟩, hpos⟩
          · rw [count_snoc]
            by_cases e : v (b p) = y
            · subst e; rw [← count_snoc, hco]; exact Nat.le_refl _
            · rw [if_neg e]; exact Nat.le_trans (hall y) (Nat.le_of_lt hb)
          · rw [count_snoc, if_neg (fun e => Int32.lt_irrefl (e ▸ hy))]
            exact Nat.lt_of_le_of_lt (hall y) hb
        · cases h; exact ⟨hco, hlast⟩
      · rw [if_neg hb]
        refine ⟨fun h => ?_, fun j h => ?_, fun h => (by cases h), fun j h => ?_⟩
        · exact absurd (Nat.lt_of_le_of_lt (Nat.le_of_eq (h1 h).2) hpos) hb
        · obtain ⟨⟨g1, g2, g3⟩, g4⟩ := h2 j h
          have hne : ¬ v (b p) = v j := fun e => by
            have : o = (qc_fmf v b f p).2.1 + 1 := by rw [← hco, count_snoc, if_pos rfl, e, g1]
            omega
          refine ⟨⟨?_, fun y => ?_, fun y hy => ?_⟩, g4⟩
          · rw [count_snoc, if_neg hne]; exact g1
          · rw [count_snoc]
            by_cases e : v (b p) = y
            · subst e; rw [← count_snoc, hco]; exact Nat.not_lt.mp hb
            · rw [if_neg e]; exact g2 y
          · rw [count_snoc]
            by_cases e : v (b p) = y
            · exfalso
              subst e
              have hjm : v j ∈ wb v b f p := List.count_pos_iff.mp (by rw [g1]; exact g4)
              exact Int32.lt_irrefl (Int32.lt_of_lt_of_le hy (hle _ hjm))
            · rw [if_neg e]; exact g3 y hy
        · cases h; exact ⟨hco, hlast⟩
theorem cnb_len (v : Nat → Int32) (b : Nat → Nat) (f : Nat → Int32) : ∀ p, qc_cnb b f p = (wb v b f p).length
  | 0 => rfl
  | p + 1 => by
    have ih := cnb_len v b f p
    rw [qc_cnb, wb_s]
    by_cases h : f (b p) = 0
    · rw [if_pos h, if_pos h]; exact ih
    · rw [if_neg h, if_neg h, List.length_append, ih]; rfl
theorem wb_split {v : Nat → Int32} {b : Nat → Nat} {f : Nat → Int32} {n q : Nat} (hs : pb_so v b n) (hf : f (b q) ≠ 0) : ∀ m, q < m → m ≤ n → ∃ tl, wb v b f m = wb v b f q ++ v (b q) :: tl ∧ ∀ x ∈ tl, v (b q) ≤ x := by
  intro m
  induction m with
  | zero => intro h; exact absurd h (Nat.not_lt_zero q)
  | succ m ih =>
    intro h1 h2
    by_cases e : q = m
    · subst e
      exact ⟨[], by rw [wb_s, if_neg hf], fun x hx => absurd hx List.not_mem_nil⟩
    · obtain ⟨tl, g1, g2⟩ := ih (by omega) (by omega)
      rw [wb_s]
      by_cases hm : f (b m) = 0
      · rw [if_pos hm]; exact ⟨tl, g1, g2⟩
      · rw [if_neg hm]
        refine ⟨tl ++ [v (b m)], by rw [g1, List.append_assoc]; rfl, fun x hx => ?_⟩
        rcases List.mem_append.mp hx with g | g
        · exact g2 x g
        · rw [List.mem_singleton.mp g]; exact hs q m (by omega) (by omega)
/-- the k-th by size: below it at most k, not above it more than k -/
def isk (l : List Int32) (x : Int32) (k : Nat) : Prop := l.countP (fun y => decide (y < x)) ≤ k ∧ k < l.countP (fun y => decide (y ≤ x))
theorem isk_uniq {l : List Int32} {x y : Int32} {k : Nat} (h1 : isk l x k) (h2 : isk l y k) : x = y := by
  have key : ∀ a c : Int32, isk l a k → isk l c k → ¬ a < c := by
    intro a c ha hc hac
    have : l.countP (fun z => decide (z ≤ a)) ≤ l.countP (fun z => decide (z < c)) := List.countP_mono_left (fun z _ hz => decide_eq_true (Int32.lt_of_le_of_lt (of_decide_eq_true hz) hac))
    have := ha.2
    have := hc.1
    omega
  exact Int32.le_antisymm (Int32.not_lt.mp (key y x h2 h1)) (Int32.not_lt.mp (key x y h1 h2))
theorem isk_perm {l l' : List Int32} {x : Int32} {k : Nat} (h : l.Perm l') (hk : isk l x k) : isk l' x k := ⟨by rw [← h.countP_eq]; exact hk.1, by rw [← h.countP_eq]; exact hk.2⟩
theorem kth_in {v : Nat → Int32} {b : Nat → Nat} {f : Nat → Int32} {n q : Nat} (hs : pb_so v b n) (hq : q < n) (hf : f (b q) ≠ 0) : isk (wb v b f n) (v (b q)) (qc_cnb b f q) ∧ qc_cnb b f q < (wb v b f n).length := by
  obtain ⟨tl, e, ht⟩ := wb_split hs hf n hq (Nat.le_refl n)
  have hle := wb_le (f := f) hs hq
  rw [cnb_len v, e]
  refine ⟨⟨?_, ?_⟩, by simp⟩
  · have z : tl.countP (fun y => decide (y < v (b q))) = 0 := List.countP_eq_zero.mpr (fun x hx => by simpa using Int32.not_lt.mpr (ht x hx))
    have z2 := List.countP_le_length (p := fun y => decide (y < v (b q))) (l := wb v b f q)
    rw [List.countP_append, List.countP_cons, z, if_neg (by simp [Int32.lt_irrefl])]
    omega
  · have z : (wb v b f q).countP (fun y => decide (y ≤ v (b q))) = (wb v b f q).length := List.countP_eq_length.mpr (fun x hx => decide_eq_true (hle x hx))
    rw [List.countP_append, List.countP_cons, z, if_pos (decide_eq_true (Int32.le_refl _))]
    omega
theorem kth_all {v : Nat → Int32} {b : Nat → Nat} {f : Nat → Int32} : ∀ (n k : Nat), k < (wb v b f n).length → ∃ q, q < n ∧ f (b q) ≠ 0 ∧ qc_cnb b f q = k
  | 0, k, h => absurd h (Nat.not_lt_zero k)
  | n + 1, k, h => by
    rw [wb_s] at h
    by_cases hf : f (b n) = 0
    · rw [if_pos hf] at h
      obtain ⟨q, h1, h2, h3⟩ := kth_all (v := v) n k h
      exact ⟨q, by omega, h2, h3⟩
    · rw [if_neg hf, List.length_append] at h
      by_cases e : k = (wb v b f n).length
      · exact ⟨n, by omega, hf, by rw [cnb_len v, e]⟩
      · obtain ⟨q, h1, h2, h3⟩ := kth_all (v := v) (b := b) (f := f) n k (by simp at h; omega)
        exact ⟨q, by omega, h2, h3⟩
theorem cnt_len (v f : Nat → Int32) : ∀ n, qc_cnt f n = (wl v f n).length
  | 0 => rfl
  | n + 1 => by
    have ih := cnt_len v f n
    rw [qc_cnt, wl_s]
    by_cases h : f n = 0
    · rw [if_pos h, if_pos h]; exact ih
    · rw [if_neg h, if_neg h, List.length_append, ih]; rfl
theorem eqc_count (v f : Nat → Int32) (x : Int32) : ∀ n, qc_eqc v f x n = (wl v f n).count x
  | 0 => rfl
  | n + 1 => by
    have ih := eqc_count v f x n
    rw [qc_eqc, wl_s]
    by_cases h : f n = 0
    · rw [if_pos h, if_pos h]; exact ih
    · rw [if_neg h, if_neg h, count_snoc]
      by_cases e : v n = x
      · rw [if_pos e, if_pos e, ih]
      · rw [if_neg e, if_neg e, ih]; rfl
end
section
/-- the cells of a WindowMetersModel -/
abbrev md (ca : Nat → ClassId) (ad : Nat → Nat) (th : Int32) (t : Nat → Int32) (k : Nat → Nat) (v : Nat → Int32) (n : Nat) (nw : Int32) (w : Nat) (kd : Nat → Int32) (ln : Nat → Int32) (hd : Nat) (so : Nat → Int32) (fq : Nat) : va_W := [(ad 0, .inr (1, [.int th, .int (nI n), .ref (ad 1), .ref (ad 2), .ref (ad 3), .int nw, .int (nI w), .ref (ad 4), .ref (ad 5), .int (nI hd), .ref (ad 6), .int (nI fq)])), (ad 1, .inl (ca 1, 300, .inl t)), (ad 2, .inl (ca 2, 300, .inl (fun j => nI (k j)))), (ad 3, .inl (ca 3, 300, .inl v)), (ad 4, .inl (ca 4, 6, .inl kd)), (ad 5, .inl (ca 5, 6, .inl ln)), (ad 6, .inl (ca 6, 300, .inl so))]
abbrev mdT (ca : Nat → ClassId) : List (ClassId × FieldType) := [(ca 1, .int), (ca 2, .int), (ca 3, .int), (ca 4, .int), (ca 5, .int), (ca 6, .int)]
abbrev mdPre (dC : Nat → ClassId) (dI : Nat → Nat → Nat) (ca : Nat → ClassId) (ad : Nat → Nat) (sz : Nat) (th : Int32) (t : Nat → Int32) (k : Nat → Nat) (v : Nat → Int32) (n : Nat) (nw : Int32) (w : Nat) (kd : Nat → Int32) (ln : Nat → Int32) (hd : Nat) (so : Nat → Int32) (fq : Nat) (U : State) : Prop := U.heap.size = sz ∧ va_P (dC, dI) vwCl (md ca ad th t k v n nw w kd ln hd so fq) U.heap ∧ va_K (dC, dI) vwCl (mdT ca) U ∧ va_D (fun _ => True) (md ca ad th t k v n nw w kd ln hd so fq)
abbrev mdAt (dC : Nat → ClassId) (dI : Nat → Nat → Nat) (ca : Nat → ClassId) (ad : Nat → Nat) (A : Nat → Prop) (th : Int32) (t : Nat → Int32) (k : Nat → Nat) (v : Nat → Int32) (n : Nat) (nw : Int32) (w : Nat) (kd : Nat → Int32) (ln : Nat → Int32) (hd : Nat) (so : Nat → Int32) (fq : Nat) (U : State) : Prop := va_P (dC, dI) vwCl (md ca ad th t k v n nw w kd ln hd so fq) U.heap ∧ va_K (dC, dI) vwCl (mdT ca) U ∧ va_D A (md ca ad th t k v n nw w kd ln hd so fq)
theorem md_preV {s : State} {H : Heap} {dC : Nat → ClassId} {dI : Nat → Nat → Nat} {ca : Nat → ClassId} {ad : Nat → Nat} {A : Nat → Prop} {th : Int32} {t : Nat → Int32} {k : Nat → Nat} {v : Nat → Int32} {n : Nat} {nw : Int32} {w : Nat} {kd : Nat → Int32} {ln : Nat → Int32} {hd : Nat} {so : Nat → Int32} {fq : Nat} (hK : va_K (dC, dI) vwCl (mdT ca) s) (hP : va_P (dC, dI) vwCl (md ca ad th t k v n nw w kd ln hd so fq) H) (hD : va_D A (md ca ad th t k v n nw w kd ln hd so fq)) (As : List Value) : PreV s H RX1 (ad 0) (va_Pc (.ref (ad 0) :: As) (mdPre dC dI ca ad H.size th t k v n nw w kd ln hd so fq)) As :=
  ⟨fun a U g mk q => by
    obtain ⟨q0, q1, qP, qK, qD⟩ := q
    exact ⟨q0, q1, qP, va_K.moved (u := U) (U := U.calling g mk a) (Vm.Alike.refl U.vm) qK, qD⟩,
   va_recv hK hP (ci := 1) (q0 := 0) rfl rfl, fun U hU hW => ⟨rfl, by rw [hU], by rw [hU]; exact hP, va_K.moved hW.alike hK, hD.weaken (fun _ _ _ _ => trivial)⟩⟩
/-- what the model's calls ask of a pair of truth values -/
def mr_th (x y : Int32) : Int32 := if x = 0 then (if y = 0 then 0 else 2) else 1
theorem mr_pos (x y : Int32) : qc_mk (if mr_th x y ≤ 0 then 0 else 1) (¬ (x = 0 ∧ y = 0)) := by
  unfold mr_th
  by_cases h : x = 0
  · by_cases g : y = 0
    · rw [if_pos h, if_pos g]; exact qc_mk0 (fun q => q ⟨h, g⟩)
    · rw [if_pos h, if_neg g]; exact qc_mk1 (fun q => g q.2)
  · rw [if_neg h]; exact qc_mk1 (fun q => h q.1)
set_option maxHeartbeats 4000000 in
set_option maxRecDepth 100000 in
/-- in(v, low, high) -/
theorem m_in (l : Launch) (p1 p2 p3 : Int32) : Met l yX1_in wsX1_in ({ frames := 0, cells := 0, slots := 0, locals := 0 }) (fun v _ => v = ([.int p1, .int p2, .int p3] : List Value).toArray) (vp_Si (fun r => qc_mk r (qx_in p1 p2 p3))) 0 0 (fun _ => False) := by
  refine Met.ofW (cc := cX1_in) (maxL := 3) (ret := (some .boolean)) (by decide) rfl ?_
  intro p e s m args below meth c s₁ B hml hv
  subst hv
  have hx := B.exec
  have hb := B.bytes
  have hr := B.returns
  have hlocks := B.notSynchronized
  have hl := lv_entry ([.int p1, .int p2, .int p3]) (n := 3) (Nat.le_of_ble_eq_true rfl)
  rw [lg_entry_eq]
  generalize (lg_sl ([.int p1, .int p2, .int p3]) ++ List.replicate (3 - (lg_sl ([.int p1, .int p2, .int p3])).length) Slot.unset).toArray = ls at hl ⊢
  have hl : lv_has ls 3 [(0, .int p1), (1, .int p2), (2, .int p3)] := hl
  refine lv_iload_n hx hb dX1_in_0 rfl (lv_at hl 0 rfl) ?_
  refine lv_iload_n hx hb dX1_in_1 rfl (lv_at hl 1 rfl) ?_
  refine lv_icmp_lt (tgt := 14) hx hb dX1_in_2 (by decide) (fun c_1 => ?_) (fun c_1 => ?_)
  · refine lv_iconst (v := 0) hx hb dX1_in_14 (by decide) ?_
    exact W.zret (v := 0) hx hb hr (by decide) (fun t ht hW => ⟨_, rfl, qc_mk0 (fun q => Int32.not_lt.mpr q.1 c_1), ht⟩) (fun q h => by cases h) dX1_in_15
  · refine lv_iload_n hx hb dX1_in_5 rfl (lv_at hl 0 rfl) ?_
    refine lv_iload_n hx hb dX1_in_6 rfl (lv_at hl 2 rfl) ?_
    refine lv_icmp_gt (tgt := 14) hx hb dX1_in_7 (by decide) (fun c_2 => ?_) (fun c_2 => ?_)
    · refine lv_iconst (v := 0) hx hb dX1_in_14 (by decide) ?_
      exact W.zret (v := 0) hx hb hr (by decide) (fun t ht hW => ⟨_, rfl, qc_mk0 (fun q => Int32.not_lt.mpr q.2 c_2), ht⟩) (fun q h => by cases h) dX1_in_15
    · refine lv_iconst (v := 1) hx hb dX1_in_10 (by decide) ?_
      refine lv_goto (tgt := 15) hx hb dX1_in_11 (by decide) ?_
      exact W.zret (v := 1) hx hb hr (by decide) (fun t ht hW => ⟨_, rfl, qc_mk1 ⟨Int32.not_lt.mp c_1, Int32.not_lt.mp c_2⟩, ht⟩) (fun q h => by cases h) dX1_in_15
set_option maxRecDepth 100000 in
set_option maxHeartbeats 4000000 in
/-- thrown() -/
theorem m_thrown (l : Launch) (dC : Nat → ClassId) (dI : Nat → Nat → Nat) (ca : Nat → ClassId) (ad : Nat → Nat) (sz : Nat) (th : Int32) (t : Nat → Int32) (k : Nat → Nat) (v : Nat → Int32) (n : Nat) (nw : Int32) (w : Nat) (kd : Nat → Int32) (ln : Nat → Int32) (hd : Nat) (so : Nat → Int32) (fq : Nat)  : Met l yX1_thrown wsX1_thrown ({ frames := 0, cells := 0, slots := 0, locals := 0 }) (va_Pc [.ref (ad 0)] (mdPre dC dI ca ad sz th t k v n nw w kd ln hd so fq)) (vp_Si (fun r => r = th)) 0 0 (fun _ => False) := by
  refine Met.ofW (cc := cX1_thrown) (maxL := 1) (ret := (some .int)) (by decide) rfl ?_
  intro p e s m args below meth c s₁ B hml hv
  obtain ⟨rfl, hsz, hP, hK, hD0⟩ := hv
  have hx := B.exec
  have hb := B.bytes
  have hr := B.returns
  have hts := atoms_spec (ws := wsX1_thrown) B.pre
  have hown : s.vm.findClass RX1 = some m.cls := findClass_of_methodNamed B.named
  have hlocks := B.notSynchronized
  subst hsz
  have hin0 : ∀ w ∈ u_ws RX1 TX1 12, w ∈ wsX1_thrown := fun w h => List.mem_cons_of_mem _ (wiX1 w h)
  have fl_28 := hts _ (List.mem_cons_of_mem _ flX1_28)
  have hD := hD0
  have hl := lv_entry ([.ref (ad 0)]) (n := 1) (Nat.le_of_ble_eq_true rfl)
  rw [lg_entry_eq]
  generalize (lg_sl ([.ref (ad 0)]) ++ List.replicate (1 - (lg_sl ([.ref (ad 0)])).length) Slot.unset).toArray = ls at hl ⊢
  have hl : lv_has ls 1 [(0, .ref (ad 0))] := hl
  refine lv_aload_n hx hb dX1_thrown_0 rfl (lv_at hl 0 rfl) ?_
  refine va_get (D := (dC, dI)) (ci := 1) (v := .int th) (C := RX1) (T := TX1) (N := 12) hx hb hts hin0 hown hK hP 0 rfl rfl 0 (by decide) fl_28 (fun _ h9 => h9) rfl dX1_thrown_1 ?_
  exact W.iret (v := th) hx hb hr (fun t ht hW => ⟨_, rfl, rfl, ht⟩) (fun q h => by cases h) dX1_thrown_4

set_option maxRecDepth 100000 in
set_option maxHeartbeats 4000000 in
/-- clear() -/
theorem m_clear (l : Launch) (dC : Nat → ClassId) (dI : Nat → Nat → Nat) (ca : Nat → ClassId) (ad : Nat → Nat) (sz : Nat) (th : Int32) (t : Nat → Int32) (k : Nat → Nat) (v : Nat → Int32) (n : Nat) (nw : Int32) (w : Nat) (kd : Nat → Int32) (ln : Nat → Int32) (hd : Nat) (so : Nat → Int32) (fq : Nat)  : Met l yX1_clear wsX1_clear ({ frames := 0, cells := 0, slots := 0, locals := 0 }) (va_Pc [.ref (ad 0)] (mdPre dC dI ca ad sz th t k v n nw w kd ln hd so fq)) (va_Qv (fun _ : Unit => True) (fun _ t9 => mdAt dC dI ca ad (va_A (md ca ad th t k v n nw w kd ln hd so fq) sz) 0 t k v 0 0 0 kd ln hd so fq t9) (va_A (md ca ad th t k v n nw w kd ln hd so fq) sz)) 0 0 (va_A (md ca ad th t k v n nw w kd ln hd so fq) sz) := by
  refine Met.ofW (cc := cX1_clear) (maxL := 1) (ret := none) (by decide) rfl ?_
  intro p e s m args below meth c s₁ B hml hv
  obtain ⟨rfl, hsz, hP, hK, hD0⟩ := hv
  have hx := B.exec
  have hb := B.bytes
  have hr := B.returns
  have hts := atoms_spec (ws := wsX1_clear) B.pre
  have hown : s.vm.findClass RX1 = some m.cls := findClass_of_methodNamed B.named
  have hlocks := B.notSynchronized
  subst hsz
  have hin0 : ∀ w ∈ u_ws RX1 TX1 12, w ∈ wsX1_clear := fun w h => List.mem_cons_of_mem _ (wiX1 w h)
  have fl_28 := hts _ (List.mem_cons_of_mem _ flX1_28)
  have fl_32 := hts _ (List.mem_cons_of_mem _ flX1_32)
  have fl_35 := hts _ (List.mem_cons_of_mem _ flX1_35)
  have fl_38 := hts _ (List.mem_cons_of_mem _ flX1_38)
  have hD := hD0.self (sz := s.heap.size)
  generalize hAe : va_A (md ca ad th t k v n nw w kd ln hd so fq) s.heap.size = A at hD ⊢
  have hA : ∀ q : Nat, s.heap.size ≤ q → A q := fun q h => by rw [← hAe]; exact Or.inr h
  have hS : va_S A s.heap s.heap [] := va_S.rf
  have hl := lv_entry ([.ref (ad 0)]) (n := 1) (Nat.le_of_ble_eq_true rfl)
  rw [lg_entry_eq]
  generalize (lg_sl ([.ref (ad 0)]) ++ List.replicate (1 - (lg_sl ([.ref (ad 0)])).length) Slot.unset).toArray = ls at hl ⊢
  have hl : lv_has ls 1 [(0, .ref (ad 0))] := hl
  refine lv_aload_n hx hb dX1_clear_0 rfl (lv_at hl 0 rfl) ?_
  refine lv_iconst (v := 0) hx hb dX1_clear_1 (by decide) ?_
  refine va_put (D := (dC, dI)) (ci := 1) (v := .int 0) (ty := .int) (C := RX1) (T := TX1) (N := 12) hx hb hts hin0 tyX1 tyX1_ok nmX1 hown hK hP hD hS 0 rfl rfl 0 (by decide) fl_28 (fun _ h9 => h9) rfl (by decide +kernel) rfl rfl (Nat.le_of_ble_eq_true rfl) dX1_clear_2 (fun H locs hP hD hS => ?_)
  have hP : va_P (dC, dI) vwCl (md ca ad 0 t k v n nw w kd ln hd so fq) H := hP
  have hD : va_D A (md ca ad 0 t k v n nw w kd ln hd so fq) := hD
  refine lv_aload_n hx hb dX1_clear_5 rfl (lv_at hl 0 rfl) ?_
  refine lv_iconst (v := 0) hx hb dX1_clear_6 (by decide) ?_
  refine va_put (D := (dC, dI)) (ci := 1) (v := .int 0) (ty := .int) (C := RX1) (T := TX1) (N := 12) hx hb hts hin0 tyX1 tyX1_ok nmX1 hown hK hP hD hS 0 rfl rfl 1 (by decide) fl_32 (fun _ h9 => h9) rfl (by decide +kernel) rfl rfl (Nat.le_of_ble_eq_true rfl) dX1_clear_7 (fun H locs hP hD hS => ?_)
  have hP : va_P (dC, dI) vwCl (md ca ad 0 t k v 0 nw w kd ln hd so fq) H := hP
  have hD : va_D A (md ca ad 0 t k v 0 nw w kd ln hd so fq) := hD
  refine lv_aload_n hx hb dX1_clear_10 rfl (lv_at hl 0 rfl) ?_
  refine lv_iconst (v := 0) hx hb dX1_clear_11 (by decide) ?_
  refine va_put (D := (dC, dI)) (ci := 1) (v := .int 0) (ty := .int) (C := RX1) (T := TX1) (N := 12) hx hb hts hin0 tyX1 tyX1_ok nmX1 hown hK hP hD hS 0 rfl rfl 5 (by decide) fl_35 (fun _ h9 => h9) rfl (by decide +kernel) rfl rfl (Nat.le_of_ble_eq_true rfl) dX1_clear_12 (fun H locs hP hD hS => ?_)
  have hP : va_P (dC, dI) vwCl (md ca ad 0 t k v 0 0 w kd ln hd so fq) H := hP
  have hD : va_D A (md ca ad 0 t k v 0 0 w kd ln hd so fq) := hD
  refine lv_aload_n hx hb dX1_clear_15 rfl (lv_at hl 0 rfl) ?_
  refine lv_iconst (v := 0) hx hb dX1_clear_16 (by decide) ?_
  refine va_put (D := (dC, dI)) (ci := 1) (v := .int 0) (ty := .int) (C := RX1) (T := TX1) (N := 12) hx hb hts hin0 tyX1 tyX1_ok nmX1 hown hK hP hD hS 0 rfl rfl 6 (by decide) fl_38 (fun _ h9 => h9) rfl (by decide +kernel) rfl rfl (Nat.le_of_ble_eq_true rfl) dX1_clear_17 (fun H locs hP hD hS => ?_)
  have hP : va_P (dC, dI) vwCl (md ca ad 0 t k v 0 0 0 kd ln hd so fq) H := hP
  have hD : va_D A (md ca ad 0 t k v 0 0 0 kd ln hd so fq) := hD
  exact W.vret hx hb hr (fun t9 ht hW => ⟨⟨(), rfl, trivial, by rw [ht]; exact hP, va_K.moved hW.alike hK, hD⟩, hS.F ht⟩) hS.2.2 dX1_clear_20

set_option maxRecDepth 100000 in
set_option maxHeartbeats 4000000 in
/-- now() -/
theorem m_now (l : Launch) (dC : Nat → ClassId) (dI : Nat → Nat → Nat) (ca : Nat → ClassId) (ad : Nat → Nat) (sz : Nat) (th : Int32) (t : Nat → Int32) (k : Nat → Nat) (v : Nat → Int32) (n : Nat) (nw : Int32) (w : Nat) (kd : Nat → Int32) (ln : Nat → Int32) (hd : Nat) (so : Nat → Int32) (fq : Nat)  : Met l yX1_now wsX1_now ({ frames := 0, cells := 0, slots := 0, locals := 0 }) (va_Pc [.ref (ad 0)] (mdPre dC dI ca ad sz th t k v n nw w kd ln hd so fq)) (va_Qi (fun (r : Int32) (_ : Unit) => r = nw) (fun _ t9 => mdAt dC dI ca ad (va_A (md ca ad th t k v n nw w kd ln hd so fq) sz) 0 t k v n nw w kd ln hd so fq t9) (va_A (md ca ad th t k v n nw w kd ln hd so fq) sz)) 0 0 (va_A (md ca ad th t k v n nw w kd ln hd so fq) sz) := by
  refine Met.ofW (cc := cX1_now) (maxL := 1) (ret := (some .int)) (by decide) rfl ?_
  intro p e s m args below meth c s₁ B hml hv
  obtain ⟨rfl, hsz, hP, hK, hD0⟩ := hv
  have hx := B.exec
  have hb := B.bytes
  have hr := B.returns
  have hts := atoms_spec (ws := wsX1_now) B.pre
  have hown : s.vm.findClass RX1 = some m.cls := findClass_of_methodNamed B.named
  have hlocks := B.notSynchronized
  subst hsz
  have hin0 : ∀ w ∈ u_ws RX1 TX1 12, w ∈ wsX1_now := fun w h => List.mem_cons_of_mem _ (wiX1 w h)
  have fl_28 := hts _ (List.mem_cons_of_mem _ flX1_28)
  have fl_35 := hts _ (List.mem_cons_of_mem _ flX1_35)
  have hD := hD0.self (sz := s.heap.size)
  generalize hAe : va_A (md ca ad th t k v n nw w kd ln hd so fq) s.heap.size = A at hD ⊢
  have hA : ∀ q : Nat, s.heap.size ≤ q → A q := fun q h => by rw [← hAe]; exact Or.inr h
  have hS : va_S A s.heap s.heap [] := va_S.rf
  have hl := lv_entry ([.ref (ad 0)]) (n := 1) (Nat.le_of_ble_eq_true rfl)
  rw [lg_entry_eq]
  generalize (lg_sl ([.ref (ad 0)]) ++ List.replicate (1 - (lg_sl ([.ref (ad 0)])).length) Slot.unset).toArray = ls at hl ⊢
  have hl : lv_has ls 1 [(0, .ref (ad 0))] := hl
  refine lv_aload_n hx hb dX1_now_0 rfl (lv_at hl 0 rfl) ?_
  refine lv_iconst (v := 0) hx hb dX1_now_1 (by decide) ?_
  refine va_put (D := (dC, dI)) (ci := 1) (v := .int 0) (ty := .int) (C := RX1) (T := TX1) (N := 12) hx hb hts hin0 tyX1 tyX1_ok nmX1 hown hK hP hD hS 0 rfl rfl 0 (by decide) fl_28 (fun _ h9 => h9) rfl (by decide +kernel) rfl rfl (Nat.le_of_ble_eq_true rfl) dX1_now_2 (fun H locs hP hD hS => ?_)
  have hP : va_P (dC, dI) vwCl (md ca ad 0 t k v n nw w kd ln hd so fq) H := hP
  have hD : va_D A (md ca ad 0 t k v n nw w kd ln hd so fq) := hD
  refine lv_aload_n hx hb dX1_now_5 rfl (lv_at hl 0 rfl) ?_
  refine va_get (D := (dC, dI)) (ci := 1) (v := .int nw) (C := RX1) (T := TX1) (N := 12) hx hb hts hin0 hown hK hP 0 rfl rfl 5 (by decide) fl_35 (fun _ h9 => h9) rfl dX1_now_6 ?_
  exact W.iret (v := nw) hx hb hr (fun t9 ht hW => ⟨⟨_, (), rfl, rfl, by rw [ht]; exact hP, va_K.moved hW.alike hK, hD⟩, hS.F ht⟩) hS.2.2 dX1_now_9

set_option maxRecDepth 100000 in
set_option maxHeartbeats 4000000 in
/-- refuse(first, second) -/
theorem m_refuse (l : Launch) (dC : Nat → ClassId) (dI : Nat → Nat → Nat) (ca : Nat → ClassId) (ad : Nat → Nat) (sz : Nat) (th : Int32) (t : Nat → Int32) (k : Nat → Nat) (v : Nat → Int32) (n : Nat) (nw : Int32) (w : Nat) (kd : Nat → Int32) (ln : Nat → Int32) (hd : Nat) (so : Nat → Int32) (fq : Nat) (p1 p2 : Int32)  : Met l yX1_refuse wsX1_refuse ({ frames := 0, cells := 0, slots := 0, locals := 0 }) (va_Pc [.ref (ad 0), .int p1, .int p2] (mdPre dC dI ca ad sz th t k v n nw w kd ln hd so fq)) (va_Qi (fun (r : Int32) (_ : Unit) => qc_mk r (¬ (p1 = 0 ∧ p2 = 0))) (fun _ t9 => mdAt dC dI ca ad (va_A (md ca ad th t k v n nw w kd ln hd so fq) sz) (mr_th p1 p2) t k v n nw w kd ln hd so fq t9) (va_A (md ca ad th t k v n nw w kd ln hd so fq) sz)) 0 0 (va_A (md ca ad th t k v n nw w kd ln hd so fq) sz) := by
  refine Met.ofW (cc := cX1_refuse) (maxL := 3) (ret := (some .boolean)) (by decide) rfl ?_
  intro p e s m args below meth c s₁ B hml hv
  obtain ⟨rfl, hsz, hP, hK, hD0⟩ := hv
  have hx := B.exec
  have hb := B.bytes
  have hr := B.returns
  have hts := atoms_spec (ws := wsX1_refuse) B.pre
  have hown : s.vm.findClass RX1 = some m.cls := findClass_of_methodNamed B.named
  have hlocks := B.notSynchronized
  subst hsz
  have hin0 : ∀ w ∈ u_ws RX1 TX1 12, w ∈ wsX1_refuse := fun w h => List.mem_cons_of_mem _ (wiX1 w h)
  have fl_28 := hts _ (List.mem_cons_of_mem _ flX1_28)
  have hD := hD0.self (sz := s.heap.size)
  generalize hAe : va_A (md ca ad th t k v n nw w kd ln hd so fq) s.heap.size = A at hD ⊢
  have hA : ∀ q : Nat, s.heap.size ≤ q → A q := fun q h => by rw [← hAe]; exact Or.inr h
  have hS : va_S A s.heap s.heap [] := va_S.rf
  have hl := lv_entry ([.ref (ad 0), .int p1, .int p2]) (n := 3) (Nat.le_of_ble_eq_true rfl)
  rw [lg_entry_eq]
  generalize (lg_sl ([.ref (ad 0), .int p1, .int p2]) ++ List.replicate (3 - (lg_sl ([.ref (ad 0), .int p1, .int p2])).length) Slot.unset).toArray = ls at hl ⊢
  have hl : lv_has ls 3 [(0, .ref (ad 0)), (1, .int p1), (2, .int p2)] := hl
  refine lv_aload_n hx hb dX1_refuse_0 rfl (lv_at hl 0 rfl) ?_
  refine lv_iload_n hx hb dX1_refuse_1 rfl (lv_at hl 1 rfl) ?_
  refine lv_if_eq (tgt := 9) hx hb dX1_refuse_2 (by decide) (fun c_1 => ?_) (fun c_1 => ?_)
  · refine lv_iload_n hx hb dX1_refuse_9 rfl (lv_at hl 2 rfl) ?_
    refine lv_if_eq (tgt := 17) hx hb dX1_refuse_10 (by decide) (fun c_2 => ?_) (fun c_2 => ?_)
    · refine lv_iconst (v := 0) hx hb dX1_refuse_17 (by decide) ?_
      refine W.eq (g2 := F0 m 18 ls [.int (mr_th p1 p2), .ref (ad 0)]) (by rw [mr_th, if_pos c_1, if_pos c_2]) ?_
      refine va_put (D := (dC, dI)) (ci := 1) (v := .int (mr_th p1 p2)) (ty := .int) (C := RX1) (T := TX1) (N := 12) hx hb hts hin0 tyX1 tyX1_ok nmX1 hown hK hP hD hS 0 rfl rfl 0 (by decide) fl_28 (fun _ h9 => h9) rfl (by decide +kernel) rfl rfl (Nat.le_of_ble_eq_true rfl) dX1_refuse_18 (fun H locs hP hD hS => ?_)
      have hP : va_P (dC, dI) vwCl (md ca ad (mr_th p1 p2) t k v n nw w kd ln hd so fq) H := hP
      have hD : va_D A (md ca ad (mr_th p1 p2) t k v n nw w kd ln hd so fq) := hD
      refine lv_aload_n hx hb dX1_refuse_21 rfl (lv_at hl 0 rfl) ?_
      refine va_get (D := (dC, dI)) (ci := 1) (v := .int (mr_th p1 p2)) (C := RX1) (T := TX1) (N := 12) hx hb hts hin0 hown hK hP 0 rfl rfl 0 (by decide) fl_28 (fun _ h9 => h9) rfl dX1_refuse_22 ?_
      have hm9 := mr_pos p1 p2
      refine lv_if_le (tgt := 32) hx hb dX1_refuse_25 (by decide) (fun c_3 => ?_) (fun c_3 => ?_)
      · rw [if_pos c_3] at hm9
        refine lv_iconst (v := 0) hx hb dX1_refuse_32 (by decide) ?_
        exact W.zret (v := 0) hx hb hr (by decide) (fun t9 ht hW => ⟨⟨_, (), rfl, hm9, by rw [ht]; exact hP, va_K.moved hW.alike hK, hD⟩, hS.F ht⟩) hS.2.2 dX1_refuse_33
      · rw [if_neg c_3] at hm9
        refine lv_iconst (v := 1) hx hb dX1_refuse_28 (by decide) ?_
        refine lv_goto (tgt := 33) hx hb dX1_refuse_29 (by decide) ?_
        exact W.zret (v := 1) hx hb hr (by decide) (fun t9 ht hW => ⟨⟨_, (), rfl, hm9, by rw [ht]; exact hP, va_K.moved hW.alike hK, hD⟩, hS.F ht⟩) hS.2.2 dX1_refuse_33
    · refine lv_iconst (v := 2) hx hb dX1_refuse_13 (by decide) ?_
      refine lv_goto (tgt := 18) hx hb dX1_refuse_14 (by decide) ?_
      refine W.eq (g2 := F0 m 18 ls [.int (mr_th p1 p2), .ref (ad 0)]) (by rw [mr_th, if_pos c_1, if_neg c_2]) ?_
      refine va_put (D := (dC, dI)) (ci := 1) (v := .int (mr_th p1 p2)) (ty := .int) (C := RX1) (T := TX1) (N := 12) hx hb hts hin0 tyX1 tyX1_ok nmX1 hown hK hP hD hS 0 rfl rfl 0 (by decide) fl_28 (fun _ h9 => h9) rfl (by decide +kernel) rfl rfl (Nat.le_of_ble_eq_true rfl) dX1_refuse_18 (fun H locs hP hD hS => ?_)
      have hP : va_P (dC, dI) vwCl (md ca ad (mr_th p1 p2) t k v n nw w kd ln hd so fq) H := hP
      have hD : va_D A (md ca ad (mr_th p1 p2) t k v n nw w kd ln hd so fq) := hD
      refine lv_aload_n hx hb dX1_refuse_21 rfl (lv_at hl 0 rfl) ?_
      refine va_get (D := (dC, dI)) (ci := 1) (v := .int (mr_th p1 p2)) (C := RX1) (T := TX1) (N := 12) hx hb hts hin0 hown hK hP 0 rfl rfl 0 (by decide) fl_28 (fun _ h9 => h9) rfl dX1_refuse_22 ?_
      have hm9 := mr_pos p1 p2
      refine lv_if_le (tgt := 32) hx hb dX1_refuse_25 (by decide) (fun c_4 => ?_) (fun c_4 => ?_)
      · rw [if_pos c_4] at hm9
        refine lv_iconst (v := 0) hx hb dX1_refuse_32 (by decide) ?_
        exact W.zret (v := 0) hx hb hr (by decide) (fun t9 ht hW => ⟨⟨_, (), rfl, hm9, by rw [ht]; exact hP, va_K.moved hW.alike hK, hD⟩, hS.F ht⟩) hS.2.2 dX1_refuse_33
      · rw [if_neg c_4] at hm9
        refine lv_iconst (v := 1) hx hb dX1_refuse_28 (by decide) ?_
        refine lv_goto (tgt := 33) hx hb dX1_refuse_29 (by decide) ?_
        exact W.zret (v := 1) hx hb hr (by decide) (fun t9 ht hW => ⟨⟨_, (), rfl, hm9, by rw [ht]; exact hP, va_K.moved hW.alike hK, hD⟩, hS.F ht⟩) hS.2.2 dX1_refuse_33
  · refine lv_iconst (v := 1) hx hb dX1_refuse_5 (by decide) ?_
    refine lv_goto (tgt := 18) hx hb dX1_refuse_6 (by decide) ?_
    refine W.eq (g2 := F0 m 18 ls [.int (mr_th p1 p2), .ref (ad 0)]) (by rw [mr_th, if_neg c_1]) ?_
    refine va_put (D := (dC, dI)) (ci := 1) (v := .int (mr_th p1 p2)) (ty := .int) (C := RX1) (T := TX1) (N := 12) hx hb hts hin0 tyX1 tyX1_ok nmX1 hown hK hP hD hS 0 rfl rfl 0 (by decide) fl_28 (fun _ h9 => h9) rfl (by decide +kernel) rfl rfl (Nat.le_of_ble_eq_true rfl) dX1_refuse_18 (fun H locs hP hD hS => ?_)
    have hP : va_P (dC, dI) vwCl (md ca ad (mr_th p1 p2) t k v n nw w kd ln hd so fq) H := hP
    have hD : va_D A (md ca ad (mr_th p1 p2) t k v n nw w kd ln hd so fq) := hD
    refine lv_aload_n hx hb dX1_refuse_21 rfl (lv_at hl 0 rfl) ?_
    refine va_get (D := (dC, dI)) (ci := 1) (v := .int (mr_th p1 p2)) (C := RX1) (T := TX1) (N := 12) hx hb hts hin0 hown hK hP 0 rfl rfl 0 (by decide) fl_28 (fun _ h9 => h9) rfl dX1_refuse_22 ?_
    have hm9 := mr_pos p1 p2
    refine lv_if_le (tgt := 32) hx hb dX1_refuse_25 (by decide) (fun c_5 => ?_) (fun c_5 => ?_)
    · rw [if_pos c_5] at hm9
      refine lv_iconst (v := 0) hx hb dX1_refuse_32 (by decide) ?_
      exact W.zret (v := 0) hx hb hr (by decide) (fun t9 ht hW => ⟨⟨_, (), rfl, hm9, by rw [ht]; exact hP, va_K.moved hW.alike hK, hD⟩, hS.F ht⟩) hS.2.2 dX1_refuse_33
    · rw [if_neg c_5] at hm9
      refine lv_iconst (v := 1) hx hb dX1_refuse_28 (by decide) ?_
      refine lv_goto (tgt := 33) hx hb dX1_refuse_29 (by decide) ?_
      exact W.zret (v := 1) hx hb hr (by decide) (fun t9 ht hW => ⟨⟨_, (), rfl, hm9, by rw [ht]; exact hP, va_K.moved hW.alike hK, hD⟩, hS.F ht⟩) hS.2.2 dX1_refuse_33
end
section
theorem mk_yes {x : Int32} {P : Prop} (h : qc_mk x P) (hp : P) : x = 1 := h.elim (fun g => g.1) (fun g => absurd hp g.2)
theorem mk_no {x : Int32} {P : Prop} (h : qc_mk x P) (hp : ¬ P) : x = 0 := h.elim (fun g => absurd g.2 hp) (fun g => g.1)
theorem mk_z {x : Int32} {P : Prop} (h : qc_mk x P) (c : x = 0) : ¬ P := h.elim (fun g => absurd (g.1.symm.trans c) (by decide)) (fun g => g.2)
theorem mk_nz {x : Int32} {P : Prop} (h : qc_mk x P) (c : ¬ x = 0) : P := h.elim (fun g => g.2) (fun g => absurd g.1 c)
theorem mk_iff {x : Int32} {P Q : Prop} (e : P ↔ Q) (h : qc_mk x P) : qc_mk x Q := h.elim (fun g => Or.inl ⟨g.1, e.mp g.2⟩) (fun g => Or.inr ⟨g.1, fun q => g.2 (e.mpr q)⟩)
theorem mk_bool {x : Int32} {P : Prop} (h : qc_mk x P) : narrow .boolean (.int x) = .int x := yn_nz h
theorem qx_in_pred {w : Nat} (hw : w < 1000) {p1 : Int32} : qx_in p1 0 (nI w - 1) ↔ qx_win w p1 := by
  have e1 : (nI w - 1).toInt = (w : Int) - 1 := pk_sub_toInt (a := w) (b := 1) (by omega) (by decide)
  unfold qx_in
  rw [Int32.le_iff_toInt_le, Int32.le_iff_toInt_le, e1, show (0 : Int32).toInt = 0 from by decide]
  constructor
  · rintro ⟨h1, h2⟩
    refine qx_win_yes (by omega) ?_ ?_
    · rw [Int32.lt_iff_toInt_lt, show (0 : Int32).toInt = 0 from by decide]; omega
    · rw [Int32.lt_iff_toInt_lt, nI_toInt (by omega)]; omega
  · rintro ⟨wi, h1, rfl⟩
    rw [nI_toInt (by omega)]
    omega
/-- RUN, as the model has it -/
def mr_run (t : Nat → Int32) (nw nn : Int32) (N i : Nat) : Prop := ¬ t (N - 1) < nw - nn ∧ ∀ j, i ≤ j → j + 1 < N → ¬ nn < t (j + 1) - t j
def mr_part (nn : Int32) : Int32 := if nn = 0 then 1 else nn
theorem mr_part_ne (nn : Int32) : ¬ mr_part nn = 0 := by
  unfold mr_part
  split
  · decide
  · assumption
def mi_in (t : Nat → Int32) (k : Nat → Nat) (n : Nat) (nw kind nn : Int32) (j : Nat) : Prop :=
  if kind = 0 then ¬ t j < nw - nn else if kind = 1 then ¬ nI j < nI n - nn else if kind = 2 then nI (qc_oc k (k j) (j + 1) n) < nn else
  if kind = 3 then t j / mr_part nn = nw / mr_part nn else if kind = 4 then mr_run t nw nn n j else t j < nw - nn
set_option maxRecDepth 100000 in
set_option maxHeartbeats 4000000 in
/-- window(kind, n) -/
theorem m_window (l : Launch) (dC : Nat → ClassId) (dI : Nat → Nat → Nat) (ca : Nat → ClassId) (ad : Nat → Nat) (sz : Nat) (th : Int32) (t : Nat → Int32) (k : Nat → Nat) (v : Nat → Int32) (n : Nat) (nw : Int32) (w : Nat) (kd : Nat → Int32) (ln : Nat → Int32) (hd : Nat) (so : Nat → Int32) (fq : Nat) (p1 p2 : Int32) (hw6 : w ≤ 6) : Met l yX1_window wsX1_window ({ frames := 1, cells := 0, slots := 0, locals := 22 }) (va_Pc [.ref (ad 0), .int p1, .int p2] (mdPre dC dI ca ad sz th t k v n nw w kd ln hd so fq)) (va_Qi (fun (r : Int32) (u : Int32 × (Nat → Int32) × (Nat → Int32) × Nat) => ((qx_in p1 0 5 ∧ qx_in p2 0 1000000) ∧ w < 6 ∧ u = (0, upd kd w p1, upd ln w p2, w + 1) ∧ r = nI w) ∨ (¬ (qx_in p1 0 5 ∧ qx_in p2 0 1000000) ∧ u = (1, kd, ln, w)) ∨ ((qx_in p1 0 5 ∧ qx_in p2 0 1000000) ∧ w = 6 ∧ u = (2, kd, ln, w))) (fun u t9 => mdAt dC dI ca ad (va_A (md ca ad th t k v n nw w kd ln hd so fq) sz) u.1 t k v n nw u.2.2.2 u.2.1 u.2.2.1 hd so fq t9) (va_A (md ca ad th t k v n nw w kd ln hd so fq) sz)) 0 0 (va_A (md ca ad th t k v n nw w kd ln hd so fq) sz) := by
  refine Met.ofW (cc := cX1_window) (maxL := 3) (ret := (some .int)) (by decide) rfl ?_
  intro p e s m args below meth c s₁ B hml hv
  obtain ⟨rfl, hsz, hP, hK, hD0⟩ := hv
  have hx := B.exec
  have hb := B.bytes
  have hr := B.returns
  have hts := atoms_spec (ws := wsX1_window) B.pre
  have hown : s.vm.findClass RX1 = some m.cls := findClass_of_methodNamed B.named
  have hlocks := B.notSynchronized
  subst hsz
  have hin0 : ∀ w ∈ u_ws RX1 TX1 12, w ∈ wsX1_window := fun w h => List.mem_cons_of_mem _ (wiX1 w h)
  have fl_19 := hts _ (List.mem_cons_of_mem _ flX1_19)
  have fl_22 := hts _ (List.mem_cons_of_mem _ flX1_22)
  have fl_38 := hts _ (List.mem_cons_of_mem _ flX1_38)
  have hD := hD0.self (sz := s.heap.size)
  generalize hAe : va_A (md ca ad th t k v n nw w kd ln hd so fq) s.heap.size = A at hD ⊢
  have hA : ∀ q : Nat, s.heap.size ≤ q → A q := fun q h => by rw [← hAe]; exact Or.inr h
  have hS : va_S A s.heap s.heap [] := va_S.rf
  have hl := lv_entry ([.ref (ad 0), .int p1, .int p2]) (n := 3) (Nat.le_of_ble_eq_true rfl)
  rw [lg_entry_eq]
  generalize (lg_sl ([.ref (ad 0), .int p1, .int p2]) ++ List.replicate (3 - (lg_sl ([.ref (ad 0), .int p1, .int p2])).length) Slot.unset).toArray = ls at hl ⊢
  have hl : lv_has ls 3 [(0, .ref (ad 0)), (1, .int p1), (2, .int p2)] := hl
  refine lv_aload_n hx hb dX1_window_0 rfl (lv_at hl 0 rfl) ?_
  refine lv_iload_n hx hb dX1_window_1 rfl (lv_at hl 1 rfl) ?_
  refine lv_iconst (v := 0) hx hb dX1_window_2 (by decide) ?_
  refine lv_iconst (v := 5) hx hb dX1_window_3 (by decide) ?_
  refine vp_callSi (W.runS (As := [.int p1, .int 0, .int 5]) (rest := [.ref (ad 0)]) ⟨hx, hb, hml, hown, hts⟩ (m_in l p1 0 5) (va_cwS 3 hts (gg_S mlX1_41 stX1_in in_WindowMetersModel kwX1_in) rfl rfl rfl (by decide +kernel) ⟨Nat.le_of_ble_eq_true rfl, Nat.le_of_ble_eq_true rfl⟩) preEq rfl rfl hl.1 rfl (lv_room (Nat.le_of_ble_eq_true rfl)) dX1_window_4 ⟨Nat.le_of_ble_eq_true rfl, Nat.le_of_ble_eq_true rfl⟩) (fun r_1 hr_2 => ?_)
  refine lv_if_eq (tgt := 20) hx hb dX1_window_7 (by decide) (fun c_3 => ?_) (fun c_3 => ?_)
  · refine lv_iconst (v := 1) hx hb dX1_window_20 (by decide) ?_
    refine lv_goto (tgt := 25) hx hb dX1_window_21 (by decide) ?_
    refine lv_aload_n hx hb dX1_window_25 rfl (lv_at hl 0 rfl) ?_
    refine va_get (D := (dC, dI)) (ci := 1) (v := .int (nI w)) (C := RX1) (T := TX1) (N := 12) hx hb hts hin0 hown hK hP 0 rfl rfl 6 (by decide) fl_38 (fun _ h9 => h9) rfl dX1_window_26 ?_
    refine lv_bipush (v := 6) hx hb dX1_window_29 (by decide) ?_
    refine yb_ne (tgt := 38) (n := 6) (by omega) (by decide) hx hb dX1_window_31 (by decide) (fun c_4 => ?_) (fun c_4 => ?_)
    · refine lv_iconst (v := 0) hx hb dX1_window_38 (by decide) ?_
      have hFc := va_free (wc := md ca ad th t k v n nw w kd ln hd so fq) hD hS hA [0, 1, 2, 3, 4, 5, 6] rfl
      refine va_calli (va_runV (As := [.int 1, .int 0]) (rest := []) ⟨hx, hb, hml, hown, hts⟩ (m_refuse l dC dI ca ad _ th t k v n nw w kd ln hd so fq 1 0) (cwV 2 hts (gg_V mlX1_46 imX1_refuse seX1_refuse in_WindowMetersModel kwX1_refuse) rfl rfl rfl (by decide +kernel) ⟨Nat.le_of_ble_eq_true rfl, Nat.le_of_ble_eq_true rfl⟩) (md_preV hK hP hD [.int 1, .int 0]) rfl rfl hl.1 rfl (lv_room (Nat.le_of_ble_eq_true rfl)) dX1_window_39 ⟨Nat.le_of_ble_eq_true rfl, Nat.le_of_ble_eq_true rfl⟩) hS (fun q _ h => hFc q h) hFc (fun r_5 uz9 t9 H1 locs ht9 hvm hw_6 hB hz1 hk1 hS => ?_)
      obtain ⟨hP, -, hD1⟩ := hB
      rw [ht9] at hP
      have hD := hD1.weaken (fun k q hk h => hFc q.1 h)
      rw [show mr_th 1 0 = 1 from by decide] at hP hD
      generalize H1 = H at hP hS ⊢
      have hP : va_P (dC, dI) vwCl (md ca ad 1 t k v n nw w kd ln hd so fq) H := hP
      have hD : va_D A (md ca ad 1 t k v n nw w kd ln hd so fq) := hD
      obtain rfl : r_5 = 1 := mk_yes hw_6 (by decide)
      refine lv_if_eq (tgt := 47) hx hb dX1_window_42 (by decide) (fun c_7 => ?_) (fun c_7 => ?_)
      · first | exact absurd rfl c_7 | exact absurd c_7 (by decide)
      · refine lv_iconst (v := 0) hx hb dX1_window_45 (by decide) ?_
        exact W.iret (v := 0) hx hb hr (fun t9 ht hW => ⟨⟨_, (1, kd, ln, w), rfl, Or.inr (Or.inl ⟨(fun q => mk_z hr_2 c_3 q.1), rfl⟩), by rw [ht]; exact hP, va_K.moved hW.alike hK, hD⟩, hS.F ht⟩) hS.2.2 dX1_window_46
    · refine lv_iconst (v := 1) hx hb dX1_window_34 (by decide) ?_
      refine lv_goto (tgt := 39) hx hb dX1_window_35 (by decide) ?_
      have hFc := va_free (wc := md ca ad th t k v n nw w kd ln hd so fq) hD hS hA [0, 1, 2, 3, 4, 5, 6] rfl
      refine va_calli (va_runV (As := [.int 1, .int 1]) (rest := []) ⟨hx, hb, hml, hown, hts⟩ (m_refuse l dC dI ca ad _ th t k v n nw w kd ln hd so fq 1 1) (cwV 2 hts (gg_V mlX1_46 imX1_refuse seX1_refuse in_WindowMetersModel kwX1_refuse) rfl rfl rfl (by decide +kernel) ⟨Nat.le_of_ble_eq_true rfl, Nat.le_of_ble_eq_true rfl⟩) (md_preV hK hP hD [.int 1, .int 1]) rfl rfl hl.1 rfl (lv_room (Nat.le_of_ble_eq_true rfl)) dX1_window_39 ⟨Nat.le_of_ble_eq_true rfl, Nat.le_of_ble_eq_true rfl⟩) hS (fun q _ h => hFc q h) hFc (fun r_8 uz9 t9 H1 locs ht9 hvm hw_9 hB hz1 hk1 hS => ?_)
      obtain ⟨hP, -, hD1⟩ := hB
      rw [ht9] at hP
      have hD := hD1.weaken (fun k q hk h => hFc q.1 h)
      rw [show mr_th 1 1 = 1 from by decide] at hP hD
      generalize H1 = H at hP hS ⊢
      have hP : va_P (dC, dI) vwCl (md ca ad 1 t k v n nw w kd ln hd so fq) H := hP
      have hD : va_D A (md ca ad 1 t k v n nw w kd ln hd so fq) := hD
      obtain rfl : r_8 = 1 := mk_yes hw_9 (by decide)
      refine lv_if_eq (tgt := 47) hx hb dX1_window_42 (by decide) (fun c_10 => ?_) (fun c_10 => ?_)
      · first | exact absurd rfl c_10 | exact absurd c_10 (by decide)
      · refine lv_iconst (v := 0) hx hb dX1_window_45 (by decide) ?_
        exact W.iret (v := 0) hx hb hr (fun t9 ht hW => ⟨⟨_, (1, kd, ln, w), rfl, Or.inr (Or.inl ⟨(fun q => mk_z hr_2 c_3 q.1), rfl⟩), by rw [ht]; exact hP, va_K.moved hW.alike hK, hD⟩, hS.F ht⟩) hS.2.2 dX1_window_46
  · refine lv_iload_n hx hb dX1_window_10 rfl (lv_at hl 2 rfl) ?_
    refine lv_iconst (v := 0) hx hb dX1_window_11 (by decide) ?_
    refine lv_ldc (v := 1000000) hx hb hown (hts _ (List.mem_cons_of_mem _ cnX1_45)) dX1_window_12 ?_
    refine vp_callSi (W.runS (As := [.int p2, .int 0, .int 1000000]) (rest := [.ref (ad 0)]) ⟨hx, hb, hml, hown, hts⟩ (m_in l p2 0 1000000) (va_cwS 3 hts (gg_S mlX1_41 stX1_in in_WindowMetersModel kwX1_in) rfl rfl rfl (by decide +kernel) ⟨Nat.le_of_ble_eq_true rfl, Nat.le_of_ble_eq_true rfl⟩) preEq rfl rfl hl.1 rfl (lv_room (Nat.le_of_ble_eq_true rfl)) dX1_window_14 ⟨Nat.le_of_ble_eq_true rfl, Nat.le_of_ble_eq_true rfl⟩) (fun r_11 hr_12 => ?_)
    refine lv_if_ne (tgt := 24) hx hb dX1_window_17 (by decide) (fun c_13 => ?_) (fun c_13 => ?_)
    · refine lv_iconst (v := 0) hx hb dX1_window_24 (by decide) ?_
      refine lv_aload_n hx hb dX1_window_25 rfl (lv_at hl 0 rfl) ?_
      refine va_get (D := (dC, dI)) (ci := 1) (v := .int (nI w)) (C := RX1) (T := TX1) (N := 12) hx hb hts hin0 hown hK hP 0 rfl rfl 6 (by decide) fl_38 (fun _ h9 => h9) rfl dX1_window_26 ?_
      refine lv_bipush (v := 6) hx hb dX1_window_29 (by decide) ?_
      refine yb_ne (tgt := 38) (n := 6) (by omega) (by decide) hx hb dX1_window_31 (by decide) (fun c_14 => ?_) (fun c_14 => ?_)
      · refine lv_iconst (v := 0) hx hb dX1_window_38 (by decide) ?_
        have hFc := va_free (wc := md ca ad th t k v n nw w kd ln hd so fq) hD hS hA [0, 1, 2, 3, 4, 5, 6] rfl
        refine va_calli (va_runV (As := [.int 0, .int 0]) (rest := []) ⟨hx, hb, hml, hown, hts⟩ (m_refuse l dC dI ca ad _ th t k v n nw w kd ln hd so fq 0 0) (cwV 2 hts (gg_V mlX1_46 imX1_refuse seX1_refuse in_WindowMetersModel kwX1_refuse) rfl rfl rfl (by decide +kernel) ⟨Nat.le_of_ble_eq_true rfl, Nat.le_of_ble_eq_true rfl⟩) (md_preV hK hP hD [.int 0, .int 0]) rfl rfl hl.1 rfl (lv_room (Nat.le_of_ble_eq_true rfl)) dX1_window_39 ⟨Nat.le_of_ble_eq_true rfl, Nat.le_of_ble_eq_true rfl⟩) hS (fun q _ h => hFc q h) hFc (fun r_15 uz9 t9 H1 locs ht9 hvm hw_16 hB hz1 hk1 hS => ?_)
        obtain ⟨hP, -, hD1⟩ := hB
        rw [ht9] at hP
        have hD := hD1.weaken (fun k q hk h => hFc q.1 h)
        rw [show mr_th 0 0 = 0 from by decide] at hP hD
        generalize H1 = H at hP hS ⊢
        have hP : va_P (dC, dI) vwCl (md ca ad 0 t k v n nw w kd ln hd so fq) H := hP
        have hD : va_D A (md ca ad 0 t k v n nw w kd ln hd so fq) := hD
        obtain rfl : r_15 = 0 := mk_no hw_16 (by decide)
        refine lv_if_eq (tgt := 47) hx hb dX1_window_42 (by decide) (fun c_17 => ?_) (fun c_17 => ?_)
        · have hw5 : w < 6 := by omega
          refine lv_aload_n hx hb dX1_window_47 rfl (lv_at hl 0 rfl) ?_
          refine va_get (D := (dC, dI)) (ci := 1) (v := .ref (ad 4)) (C := RX1) (T := TX1) (N := 12) hx hb hts hin0 hown hK hP 0 rfl rfl 7 (by decide) fl_19 (fun _ h9 => h9) rfl dX1_window_48 ?_
          refine lv_aload_n hx hb dX1_window_51 rfl (lv_at hl 0 rfl) ?_
          refine va_get (D := (dC, dI)) (ci := 1) (v := .int (nI w)) (C := RX1) (T := TX1) (N := 12) hx hb hts hin0 hown hK hP 0 rfl rfl 6 (by decide) fl_38 (fun _ h9 => h9) rfl dX1_window_52 ?_
          refine lv_iload_n hx hb dX1_window_55 rfl (lv_at hl 1 rfl) ?_
          refine ya_iast hx hb hK hP hD hS 4 3 rfl rfl (j := w) hw5 (by decide) dX1_window_56 (fun H locs hP hD hS => ?_)
          have hP : va_P (dC, dI) vwCl (md ca ad 0 t k v n nw w (upd kd w p1) ln hd so fq) H := hP
          have hD : va_D A (md ca ad 0 t k v n nw w (upd kd w p1) ln hd so fq) := hD
          refine lv_aload_n hx hb dX1_window_57 rfl (lv_at hl 0 rfl) ?_
          refine va_get (D := (dC, dI)) (ci := 1) (v := .ref (ad 5)) (C := RX1) (T := TX1) (N := 12) hx hb hts hin0 hown hK hP 0 rfl rfl 8 (by decide) fl_22 (fun _ h9 => h9) rfl dX1_window_58 ?_
          refine lv_aload_n hx hb dX1_window_61 rfl (lv_at hl 0 rfl) ?_
          refine va_get (D := (dC, dI)) (ci := 1) (v := .int (nI w)) (C := RX1) (T := TX1) (N := 12) hx hb hts hin0 hown hK hP 0 rfl rfl 6 (by decide) fl_38 (fun _ h9 => h9) rfl dX1_window_62 ?_
          refine lv_iload_n hx hb dX1_window_65 rfl (lv_at hl 2 rfl) ?_
          refine ya_iast hx hb hK hP hD hS 5 4 rfl rfl (j := w) hw5 (by decide) dX1_window_66 (fun H locs hP hD hS => ?_)
          have hP : va_P (dC, dI) vwCl (md ca ad 0 t k v n nw w (upd kd w p1) (upd ln w p2) hd so fq) H := hP
          have hD : va_D A (md ca ad 0 t k v n nw w (upd kd w p1) (upd ln w p2) hd so fq) := hD
          refine lv_aload_n hx hb dX1_window_67 rfl (lv_at hl 0 rfl) ?_
          refine lv_dup hx hb dX1_window_68 rfl ?_
          refine va_get (D := (dC, dI)) (ci := 1) (v := .int (nI w)) (C := RX1) (T := TX1) (N := 12) hx hb hts hin0 hown hK hP 0 rfl rfl 6 (by decide) fl_38 (fun _ h9 => h9) rfl dX1_window_69 ?_
          refine lv_iconst (v := 1) hx hb dX1_window_72 (by decide) ?_
          refine lv_iadd hx hb dX1_window_73 ?_
          rw [nI_1 w]
          refine va_put (D := (dC, dI)) (ci := 1) (v := .int (nI (w + 1))) (ty := .int) (C := RX1) (T := TX1) (N := 12) hx hb hts hin0 tyX1 tyX1_ok nmX1 hown hK hP hD hS 0 rfl rfl 6 (by decide) fl_38 (fun _ h9 => h9) rfl (by decide +kernel) rfl rfl (Nat.le_of_ble_eq_true rfl) dX1_window_74 (fun H locs hP hD hS => ?_)
          have hP : va_P (dC, dI) vwCl (md ca ad 0 t k v n nw (w + 1) (upd kd w p1) (upd ln w p2) hd so fq) H := hP
          have hD : va_D A (md ca ad 0 t k v n nw (w + 1) (upd kd w p1) (upd ln w p2) hd so fq) := hD
          refine lv_aload_n hx hb dX1_window_77 rfl (lv_at hl 0 rfl) ?_
          refine va_get (D := (dC, dI)) (ci := 1) (v := .int (nI (w + 1))) (C := RX1) (T := TX1) (N := 12) hx hb hts hin0 hown hK hP 0 rfl rfl 6 (by decide) fl_38 (fun _ h9 => h9) rfl dX1_window_78 ?_
          refine lv_iconst (v := 1) hx hb dX1_window_81 (by decide) ?_
          refine lv_isub hx hb dX1_window_82 ?_
          rw [nI_pred w]
          exact W.iret (v := (nI w)) hx hb hr (fun t9 ht hW => ⟨⟨_, (0, upd kd w p1, upd ln w p2, w + 1), rfl, Or.inl ⟨⟨mk_nz hr_2 c_3, mk_nz hr_12 c_13⟩, hw5, rfl, rfl⟩, by rw [ht]; exact hP, va_K.moved hW.alike hK, hD⟩, hS.F ht⟩) hS.2.2 dX1_window_83
        · first | exact absurd rfl c_17 | exact absurd c_17 (by decide)
      · refine lv_iconst (v := 1) hx hb dX1_window_34 (by decide) ?_
        refine lv_goto (tgt := 39) hx hb dX1_window_35 (by decide) ?_
        have hFc := va_free (wc := md ca ad th t k v n nw w kd ln hd so fq) hD hS hA [0, 1, 2, 3, 4, 5, 6] rfl
        refine va_calli (va_runV (As := [.int 0, .int 1]) (rest := []) ⟨hx, hb, hml, hown, hts⟩ (m_refuse l dC dI ca ad _ th t k v n nw w kd ln hd so fq 0 1) (cwV 2 hts (gg_V mlX1_46 imX1_refuse seX1_refuse in_WindowMetersModel kwX1_refuse) rfl rfl rfl (by decide +kernel) ⟨Nat.le_of_ble_eq_true rfl, Nat.le_of_ble_eq_true rfl⟩) (md_preV hK hP hD [.int 0, .int 1]) rfl rfl hl.1 rfl (lv_room (Nat.le_of_ble_eq_true rfl)) dX1_window_39 ⟨Nat.le_of_ble_eq_true rfl, Nat.le_of_ble_eq_true rfl⟩) hS (fun q _ h => hFc q h) hFc (fun r_18 uz9 t9 H1 locs ht9 hvm hw_19 hB hz1 hk1 hS => ?_)
        obtain ⟨hP, -, hD1⟩ := hB
        rw [ht9] at hP
        have hD := hD1.weaken (fun k q hk h => hFc q.1 h)
        rw [show mr_th 0 1 = 2 from by decide] at hP hD
        generalize H1 = H at hP hS ⊢
        have hP : va_P (dC, dI) vwCl (md ca ad 2 t k v n nw w kd ln hd so fq) H := hP
        have hD : va_D A (md ca ad 2 t k v n nw w kd ln hd so fq) := hD
        obtain rfl : r_18 = 1 := mk_yes hw_19 (by decide)
        refine lv_if_eq (tgt := 47) hx hb dX1_window_42 (by decide) (fun c_20 => ?_) (fun c_20 => ?_)
        · first | exact absurd rfl c_20 | exact absurd c_20 (by decide)
        · refine lv_iconst (v := 0) hx hb dX1_window_45 (by decide) ?_
          exact W.iret (v := 0) hx hb hr (fun t9 ht hW => ⟨⟨_, (2, kd, ln, w), rfl, Or.inr (Or.inr ⟨⟨mk_nz hr_2 c_3, mk_nz hr_12 c_13⟩, c_14, rfl⟩), by rw [ht]; exact hP, va_K.moved hW.alike hK, hD⟩, hS.F ht⟩) hS.2.2 dX1_window_46
    · refine lv_iconst (v := 1) hx hb dX1_window_20 (by decide) ?_
      refine lv_goto (tgt := 25) hx hb dX1_window_21 (by decide) ?_
      refine lv_aload_n hx hb dX1_window_25 rfl (lv_at hl 0 rfl) ?_
      refine va_get (D := (dC, dI)) (ci := 1) (v := .int (nI w)) (C := RX1) (T := TX1) (N := 12) hx hb hts hin0 hown hK hP 0 rfl rfl 6 (by decide) fl_38 (fun _ h9 => h9) rfl dX1_window_26 ?_
      refine lv_bipush (v := 6) hx hb dX1_window_29 (by decide) ?_
      refine yb_ne (tgt := 38) (n := 6) (by omega) (by decide) hx hb dX1_window_31 (by decide) (fun c_21 => ?_) (fun c_21 => ?_)
      · refine lv_iconst (v := 0) hx hb dX1_window_38 (by decide) ?_
        have hFc := va_free (wc := md ca ad th t k v n nw w kd ln hd so fq) hD hS hA [0, 1, 2, 3, 4, 5, 6] rfl
        refine va_calli (va_runV (As := [.int 1, .int 0]) (rest := []) ⟨hx, hb, hml, hown, hts⟩ (m_refuse l dC dI ca ad _ th t k v n nw w kd ln hd so fq 1 0) (cwV 2 hts (gg_V mlX1_46 imX1_refuse seX1_refuse in_WindowMetersModel kwX1_refuse) rfl rfl rfl (by decide +kernel) ⟨Nat.le_of_ble_eq_true rfl, Nat.le_of_ble_eq_true rfl⟩) (md_preV hK hP hD [.int 1, .int 0]) rfl rfl hl.1 rfl (lv_room (Nat.le_of_ble_eq_true rfl)) dX1_window_39 ⟨Nat.le_of_ble_eq_true rfl, Nat.le_of_ble_eq_true rfl⟩) hS (fun q _ h => hFc q h) hFc (fun r_22 uz9 t9 H1 locs ht9 hvm hw_23 hB hz1 hk1 hS => ?_)
        obtain ⟨hP, -, hD1⟩ := hB
        rw [ht9] at hP
        have hD := hD1.weaken (fun k q hk h => hFc q.1 h)
        rw [show mr_th 1 0 = 1 from by decide] at hP hD
        generalize H1 = H at hP hS ⊢
        have hP : va_P (dC, dI) vwCl (md ca ad 1 t k v n nw w kd ln hd so fq) H := hP
        have hD : va_D A (md ca ad 1 t k v n nw w kd ln hd so fq) := hD
        obtain rfl : r_22 = 1 := mk_yes hw_23 (by decide)
        refine lv_if_eq (tgt := 47) hx hb dX1_window_42 (by decide) (fun c_24 => ?_) (fun c_24 => ?_)
        · first | exact absurd rfl c_24 | exact absurd c_24 (by decide)
        · refine lv_iconst (v := 0) hx hb dX1_window_45 (by decide) ?_
          exact W.iret (v := 0) hx hb hr (fun t9 ht hW => ⟨⟨_, (1, kd, ln, w), rfl, Or.inr (Or.inl ⟨(fun q => mk_z hr_12 c_13 q.2), rfl⟩), by rw [ht]; exact hP, va_K.moved hW.alike hK, hD⟩, hS.F ht⟩) hS.2.2 dX1_window_46
      · refine lv_iconst (v := 1) hx hb dX1_window_34 (by decide) ?_
        refine lv_goto (tgt := 39) hx hb dX1_window_35 (by decide) ?_
        have hFc := va_free (wc := md ca ad th t k v n nw w kd ln hd so fq) hD hS hA [0, 1, 2, 3, 4, 5, 6] rfl
        refine va_calli (va_runV (As := [.int 1, .int 1]) (rest := []) ⟨hx, hb, hml, hown, hts⟩ (m_refuse l dC dI ca ad _ th t k v n nw w kd ln hd so fq 1 1) (cwV 2 hts (gg_V mlX1_46 imX1_refuse seX1_refuse in_WindowMetersModel kwX1_refuse) rfl rfl rfl (by decide +kernel) ⟨Nat.le_of_ble_eq_true rfl, Nat.le_of_ble_eq_true rfl⟩) (md_preV hK hP hD [.int 1, .int 1]) rfl rfl hl.1 rfl (lv_room (Nat.le_of_ble_eq_true rfl)) dX1_window_39 ⟨Nat.le_of_ble_eq_true rfl, Nat.le_of_ble_eq_true rfl⟩) hS (fun q _ h => hFc q h) hFc (fun r_25 uz9 t9 H1 locs ht9 hvm hw_26 hB hz1 hk1 hS => ?_)
        obtain ⟨hP, -, hD1⟩ := hB
        rw [ht9] at hP
        have hD := hD1.weaken (fun k q hk h => hFc q.1 h)
        rw [show mr_th 1 1 = 1 from by decide] at hP hD
        generalize H1 = H at hP hS ⊢
        have hP : va_P (dC, dI) vwCl (md ca ad 1 t k v n nw w kd ln hd so fq) H := hP
        have hD : va_D A (md ca ad 1 t k v n nw w kd ln hd so fq) := hD
        obtain rfl : r_25 = 1 := mk_yes hw_26 (by decide)
        refine lv_if_eq (tgt := 47) hx hb dX1_window_42 (by decide) (fun c_27 => ?_) (fun c_27 => ?_)
        · first | exact absurd rfl c_27 | exact absurd c_27 (by decide)
        · refine lv_iconst (v := 0) hx hb dX1_window_45 (by decide) ?_
          exact W.iret (v := 0) hx hb hr (fun t9 ht hW => ⟨⟨_, (1, kd, ln, w), rfl, Or.inr (Or.inl ⟨(fun q => mk_z hr_12 c_13 q.2), rfl⟩), by rw [ht]; exact hP, va_K.moved hW.alike hK, hD⟩, hS.F ht⟩) hS.2.2 dX1_window_46

set_option maxRecDepth 100000 in
set_option maxHeartbeats 4000000 in
/-- tuple(time, key, value) -/
theorem m_tuple (l : Launch) (dC : Nat → ClassId) (dI : Nat → Nat → Nat) (ca : Nat → ClassId) (ad : Nat → Nat) (sz : Nat) (th : Int32) (t : Nat → Int32) (k : Nat → Nat) (v : Nat → Int32) (n : Nat) (nw : Int32) (w : Nat) (kd : Nat → Int32) (ln : Nat → Int32) (hd : Nat) (so : Nat → Int32) (fq : Nat) (p1 p2 p3 : Int32) (hn : n ≤ 300) : Met l yX1_tuple wsX1_tuple ({ frames := 1, cells := 0, slots := 0, locals := 22 }) (va_Pc [.ref (ad 0), .int p1, .int p2, .int p3] (mdPre dC dI ca ad sz th t k v n nw w kd ln hd so fq)) (va_Qi (fun (r : Int32) (u : Int32 × (Nat → Int32) × (Nat → Nat) × (Nat → Int32) × Nat × Int32) => ((qx_in p1 nw 1000000 ∧ qx_in p2 0 7) ∧ n < 300 ∧ (∃ kk, kk < 8 ∧ p2 = nI kk ∧ u = (0, upd t n p1, vu k n kk, upd v n p3, n + 1, p1)) ∧ r = nI (n + 1)) ∨ (¬ (qx_in p1 nw 1000000 ∧ qx_in p2 0 7) ∧ u = (1, t, k, v, n, nw)) ∨ ((qx_in p1 nw 1000000 ∧ qx_in p2 0 7) ∧ n = 300 ∧ u = (2, t, k, v, n, nw))) (fun u t9 => mdAt dC dI ca ad (va_A (md ca ad th t k v n nw w kd ln hd so fq) sz) u.1 u.2.1 u.2.2.1 u.2.2.2.1 u.2.2.2.2.1 u.2.2.2.2.2 w kd ln hd so fq t9) (va_A (md ca ad th t k v n nw w kd ln hd so fq) sz)) 0 0 (va_A (md ca ad th t k v n nw w kd ln hd so fq) sz) := by
  refine Met.ofW (cc := cX1_tuple) (maxL := 4) (ret := (some .int)) (by decide) rfl ?_
  intro p e s m args below meth c s₁ B hml hv
  obtain ⟨rfl, hsz, hP, hK, hD0⟩ := hv
  have hx := B.exec
  have hb := B.bytes
  have hr := B.returns
  have hts := atoms_spec (ws := wsX1_tuple) B.pre
  have hown : s.vm.findClass RX1 = some m.cls := findClass_of_methodNamed B.named
  have hlocks := B.notSynchronized
  subst hsz
  have hin0 : ∀ w ∈ u_ws RX1 TX1 12, w ∈ wsX1_tuple := fun w h => List.mem_cons_of_mem _ (wiX1 w h)
  have fl_7 := hts _ (List.mem_cons_of_mem _ flX1_7)
  have fl_13 := hts _ (List.mem_cons_of_mem _ flX1_13)
  have fl_16 := hts _ (List.mem_cons_of_mem _ flX1_16)
  have fl_32 := hts _ (List.mem_cons_of_mem _ flX1_32)
  have fl_35 := hts _ (List.mem_cons_of_mem _ flX1_35)
  have hD := hD0.self (sz := s.heap.size)
  generalize hAe : va_A (md ca ad th t k v n nw w kd ln hd so fq) s.heap.size = A at hD ⊢
  have hA : ∀ q : Nat, s.heap.size ≤ q → A q := fun q h => by rw [← hAe]; exact Or.inr h
  have hS : va_S A s.heap s.heap [] := va_S.rf
  have hl := lv_entry ([.ref (ad 0), .int p1, .int p2, .int p3]) (n := 4) (Nat.le_of_ble_eq_true rfl)
  rw [lg_entry_eq]
  generalize (lg_sl ([.ref (ad 0), .int p1, .int p2, .int p3]) ++ List.replicate (4 - (lg_sl ([.ref (ad 0), .int p1, .int p2, .int p3])).length) Slot.unset).toArray = ls at hl ⊢
  have hl : lv_has ls 4 [(0, .ref (ad 0)), (1, .int p1), (2, .int p2), (3, .int p3)] := hl
  refine lv_aload_n hx hb dX1_tuple_0 rfl (lv_at hl 0 rfl) ?_
  refine lv_iload_n hx hb dX1_tuple_1 rfl (lv_at hl 1 rfl) ?_
  refine lv_aload_n hx hb dX1_tuple_2 rfl (lv_at hl 0 rfl) ?_
  refine va_get (D := (dC, dI)) (ci := 1) (v := .int nw) (C := RX1) (T := TX1) (N := 12) hx hb hts hin0 hown hK hP 0 rfl rfl 5 (by decide) fl_35 (fun _ h9 => h9) rfl dX1_tuple_3 ?_
  refine lv_ldc (v := 1000000) hx hb hown (hts _ (List.mem_cons_of_mem _ cnX1_45)) dX1_tuple_6 ?_
  refine vp_callSi (W.runS (As := [.int p1, .int nw, .int 1000000]) (rest := [.ref (ad 0)]) ⟨hx, hb, hml, hown, hts⟩ (m_in l p1 nw 1000000) (va_cwS 3 hts (gg_S mlX1_41 stX1_in in_WindowMetersModel kwX1_in) rfl rfl rfl (by decide +kernel) ⟨Nat.le_of_ble_eq_true rfl, Nat.le_of_ble_eq_true rfl⟩) preEq rfl rfl hl.1 rfl (lv_room (Nat.le_of_ble_eq_true rfl)) dX1_tuple_8 ⟨Nat.le_of_ble_eq_true rfl, Nat.le_of_ble_eq_true rfl⟩) (fun r_1 hr_2 => ?_)
  refine lv_if_eq (tgt := 24) hx hb dX1_tuple_11 (by decide) (fun c_3 => ?_) (fun c_3 => ?_)
  · refine lv_iconst (v := 1) hx hb dX1_tuple_24 (by decide) ?_
    refine lv_goto (tgt := 29) hx hb dX1_tuple_25 (by decide) ?_
    refine lv_aload_n hx hb dX1_tuple_29 rfl (lv_at hl 0 rfl) ?_
    refine va_get (D := (dC, dI)) (ci := 1) (v := .int (nI n)) (C := RX1) (T := TX1) (N := 12) hx hb hts hin0 hown hK hP 0 rfl rfl 1 (by decide) fl_32 (fun _ h9 => h9) rfl dX1_tuple_30 ?_
    refine lv_sipush (v := 300) hx hb dX1_tuple_33 (by decide) ?_
    refine yb_ne (tgt := 43) (n := 300) (by omega) (by decide) hx hb dX1_tuple_36 (by decide) (fun c_4 => ?_) (fun c_4 => ?_)
    · refine lv_iconst (v := 0) hx hb dX1_tuple_43 (by decide) ?_
      have hFc := va_free (wc := md ca ad th t k v n nw w kd ln hd so fq) hD hS hA [0, 1, 2, 3, 4, 5, 6] rfl
      refine va_calli (va_runV (As := [.int 1, .int 0]) (rest := []) ⟨hx, hb, hml, hown, hts⟩ (m_refuse l dC dI ca ad _ th t k v n nw w kd ln hd so fq 1 0) (cwV 2 hts (gg_V mlX1_46 imX1_refuse seX1_refuse in_WindowMetersModel kwX1_refuse) rfl rfl rfl (by decide +kernel) ⟨Nat.le_of_ble_eq_true rfl, Nat.le_of_ble_eq_true rfl⟩) (md_preV hK hP hD [.int 1, .int 0]) rfl rfl hl.1 rfl (lv_room (Nat.le_of_ble_eq_true rfl)) dX1_tuple_44 ⟨Nat.le_of_ble_eq_true rfl, Nat.le_of_ble_eq_true rfl⟩) hS (fun q _ h => hFc q h) hFc (fun r_5 uz9 t9 H1 locs ht9 hvm hw_6 hB hz1 hk1 hS => ?_)
      obtain ⟨hP, -, hD1⟩ := hB
      rw [ht9] at hP
      have hD := hD1.weaken (fun k q hk h => hFc q.1 h)
      rw [show mr_th 1 0 = 1 from by decide] at hP hD
      generalize H1 = H at hP hS ⊢
      have hP : va_P (dC, dI) vwCl (md ca ad 1 t k v n nw w kd ln hd so fq) H := hP
      have hD : va_D A (md ca ad 1 t k v n nw w kd ln hd so fq) := hD
      obtain rfl : r_5 = 1 := mk_yes hw_6 (by decide)
      refine lv_if_eq (tgt := 52) hx hb dX1_tuple_47 (by decide) (fun c_7 => ?_) (fun c_7 => ?_)
      · first | exact absurd rfl c_7 | exact absurd c_7 (by decide)
      · refine lv_iconst (v := 0) hx hb dX1_tuple_50 (by decide) ?_
        exact W.iret (v := 0) hx hb hr (fun t9 ht hW => ⟨⟨_, (1, t, k, v, n, nw), rfl, Or.inr (Or.inl ⟨(fun q => mk_z hr_2 c_3 q.1), rfl⟩), by rw [ht]; exact hP, va_K.moved hW.alike hK, hD⟩, hS.F ht⟩) hS.2.2 dX1_tuple_51
    · refine lv_iconst (v := 1) hx hb dX1_tuple_39 (by decide) ?_
      refine lv_goto (tgt := 44) hx hb dX1_tuple_40 (by decide) ?_
      have hFc := va_free (wc := md ca ad th t k v n nw w kd ln hd so fq) hD hS hA [0, 1, 2, 3, 4, 5, 6] rfl
      refine va_calli (va_runV (As := [.int 1, .int 1]) (rest := []) ⟨hx, hb, hml, hown, hts⟩ (m_refuse l dC dI ca ad _ th t k v n nw w kd ln hd so fq 1 1) (cwV 2 hts (gg_V mlX1_46 imX1_refuse seX1_refuse in_WindowMetersModel kwX1_refuse) rfl rfl rfl (by decide +kernel) ⟨Nat.le_of_ble_eq_true rfl, Nat.le_of_ble_eq_true rfl⟩) (md_preV hK hP hD [.int 1, .int 1]) rfl rfl hl.1 rfl (lv_room (Nat.le_of_ble_eq_true rfl)) dX1_tuple_44 ⟨Nat.le_of_ble_eq_true rfl, Nat.le_of_ble_eq_true rfl⟩) hS (fun q _ h => hFc q h) hFc (fun r_8 uz9 t9 H1 locs ht9 hvm hw_9 hB hz1 hk1 hS => ?_)
      obtain ⟨hP, -, hD1⟩ := hB
      rw [ht9] at hP
      have hD := hD1.weaken (fun k q hk h => hFc q.1 h)
      rw [show mr_th 1 1 = 1 from by decide] at hP hD
      generalize H1 = H at hP hS ⊢
      have hP : va_P (dC, dI) vwCl (md ca ad 1 t k v n nw w kd ln hd so fq) H := hP
      have hD : va_D A (md ca ad 1 t k v n nw w kd ln hd so fq) := hD
      obtain rfl : r_8 = 1 := mk_yes hw_9 (by decide)
      refine lv_if_eq (tgt := 52) hx hb dX1_tuple_47 (by decide) (fun c_10 => ?_) (fun c_10 => ?_)
      · first | exact absurd rfl c_10 | exact absurd c_10 (by decide)
      · refine lv_iconst (v := 0) hx hb dX1_tuple_50 (by decide) ?_
        exact W.iret (v := 0) hx hb hr (fun t9 ht hW => ⟨⟨_, (1, t, k, v, n, nw), rfl, Or.inr (Or.inl ⟨(fun q => mk_z hr_2 c_3 q.1), rfl⟩), by rw [ht]; exact hP, va_K.moved hW.alike hK, hD⟩, hS.F ht⟩) hS.2.2 dX1_tuple_51
  · refine lv_iload_n hx hb dX1_tuple_14 rfl (lv_at hl 2 rfl) ?_
    refine lv_iconst (v := 0) hx hb dX1_tuple_15 (by decide) ?_
    refine lv_bipush (v := 7) hx hb dX1_tuple_16 (by decide) ?_
    refine vp_callSi (W.runS (As := [.int p2, .int 0, .int 7]) (rest := [.ref (ad 0)]) ⟨hx, hb, hml, hown, hts⟩ (m_in l p2 0 7) (va_cwS 3 hts (gg_S mlX1_41 stX1_in in_WindowMetersModel kwX1_in) rfl rfl rfl (by decide +kernel) ⟨Nat.le_of_ble_eq_true rfl, Nat.le_of_ble_eq_true rfl⟩) preEq rfl rfl hl.1 rfl (lv_room (Nat.le_of_ble_eq_true rfl)) dX1_tuple_18 ⟨Nat.le_of_ble_eq_true rfl, Nat.le_of_ble_eq_true rfl⟩) (fun r_11 hr_12 => ?_)
    refine lv_if_ne (tgt := 28) hx hb dX1_tuple_21 (by decide) (fun c_13 => ?_) (fun c_13 => ?_)
    · refine lv_iconst (v := 0) hx hb dX1_tuple_28 (by decide) ?_
      refine lv_aload_n hx hb dX1_tuple_29 rfl (lv_at hl 0 rfl) ?_
      refine va_get (D := (dC, dI)) (ci := 1) (v := .int (nI n)) (C := RX1) (T := TX1) (N := 12) hx hb hts hin0 hown hK hP 0 rfl rfl 1 (by decide) fl_32 (fun _ h9 => h9) rfl dX1_tuple_30 ?_
      refine lv_sipush (v := 300) hx hb dX1_tuple_33 (by decide) ?_
      refine yb_ne (tgt := 43) (n := 300) (by omega) (by decide) hx hb dX1_tuple_36 (by decide) (fun c_14 => ?_) (fun c_14 => ?_)
      · refine lv_iconst (v := 0) hx hb dX1_tuple_43 (by decide) ?_
        have hFc := va_free (wc := md ca ad th t k v n nw w kd ln hd so fq) hD hS hA [0, 1, 2, 3, 4, 5, 6] rfl
        refine va_calli (va_runV (As := [.int 0, .int 0]) (rest := []) ⟨hx, hb, hml, hown, hts⟩ (m_refuse l dC dI ca ad _ th t k v n nw w kd ln hd so fq 0 0) (cwV 2 hts (gg_V mlX1_46 imX1_refuse seX1_refuse in_WindowMetersModel kwX1_refuse) rfl rfl rfl (by decide +kernel) ⟨Nat.le_of_ble_eq_true rfl, Nat.le_of_ble_eq_true rfl⟩) (md_preV hK hP hD [.int 0, .int 0]) rfl rfl hl.1 rfl (lv_room (Nat.le_of_ble_eq_true rfl)) dX1_tuple_44 ⟨Nat.le_of_ble_eq_true rfl, Nat.le_of_ble_eq_true rfl⟩) hS (fun q _ h => hFc q h) hFc (fun r_15 uz9 t9 H1 locs ht9 hvm hw_16 hB hz1 hk1 hS => ?_)
        obtain ⟨hP, -, hD1⟩ := hB
        rw [ht9] at hP
        have hD := hD1.weaken (fun k q hk h => hFc q.1 h)
        rw [show mr_th 0 0 = 0 from by decide] at hP hD
        generalize H1 = H at hP hS ⊢
        have hP : va_P (dC, dI) vwCl (md ca ad 0 t k v n nw w kd ln hd so fq) H := hP
        have hD : va_D A (md ca ad 0 t k v n nw w kd ln hd so fq) := hD
        obtain rfl : r_15 = 0 := mk_no hw_16 (by decide)
        refine lv_if_eq (tgt := 52) hx hb dX1_tuple_47 (by decide) (fun c_17 => ?_) (fun c_17 => ?_)
        · have hn3 : n < 300 := by omega
          have hG : qx_in p1 nw 1000000 ∧ qx_in p2 0 7 := ⟨mk_nz hr_2 c_3, mk_nz hr_12 c_13⟩
          obtain ⟨kk, hkk, rfl⟩ := qx_win_yes (w := 8) (by decide) (qx_in7.mp hG.2).1 (qx_in7.mp hG.2).2
          have hl : lv_has ls 4 [(0, .ref (ad 0)), (1, .int p1), (2, .int (nI kk)), (3, .int p3)] := hl
          refine lv_aload_n hx hb dX1_tuple_52 rfl (lv_at hl 0 rfl) ?_
          refine va_get (D := (dC, dI)) (ci := 1) (v := .ref (ad 1)) (C := RX1) (T := TX1) (N := 12) hx hb hts hin0 hown hK hP 0 rfl rfl 2 (by decide) fl_7 (fun _ h9 => h9) rfl dX1_tuple_53 ?_
          refine lv_aload_n hx hb dX1_tuple_56 rfl (lv_at hl 0 rfl) ?_
          refine va_get (D := (dC, dI)) (ci := 1) (v := .int (nI n)) (C := RX1) (T := TX1) (N := 12) hx hb hts hin0 hown hK hP 0 rfl rfl 1 (by decide) fl_32 (fun _ h9 => h9) rfl dX1_tuple_57 ?_
          refine lv_iload_n hx hb dX1_tuple_60 rfl (lv_at hl 1 rfl) ?_
          refine ya_iast hx hb hK hP hD hS 1 0 rfl rfl (j := n) hn3 (by decide) dX1_tuple_61 (fun H locs hP hD hS => ?_)
          have hP : va_P (dC, dI) vwCl (md ca ad 0 (upd t n p1) k v n nw w kd ln hd so fq) H := hP
          have hD : va_D A (md ca ad 0 (upd t n p1) k v n nw w kd ln hd so fq) := hD
          refine lv_aload_n hx hb dX1_tuple_62 rfl (lv_at hl 0 rfl) ?_
          refine va_get (D := (dC, dI)) (ci := 1) (v := .ref (ad 2)) (C := RX1) (T := TX1) (N := 12) hx hb hts hin0 hown hK hP 0 rfl rfl 3 (by decide) fl_13 (fun _ h9 => h9) rfl dX1_tuple_63 ?_
          refine lv_aload_n hx hb dX1_tuple_66 rfl (lv_at hl 0 rfl) ?_
          refine va_get (D := (dC, dI)) (ci := 1) (v := .int (nI n)) (C := RX1) (T := TX1) (N := 12) hx hb hts hin0 hown hK hP 0 rfl rfl 1 (by decide) fl_32 (fun _ h9 => h9) rfl dX1_tuple_67 ?_
          refine lv_iload_n hx hb dX1_tuple_70 rfl (lv_at hl 2 rfl) ?_
          refine ya_iast hx hb hK hP hD hS 2 1 rfl rfl (j := n) hn3 (by decide) dX1_tuple_71 (fun H locs hP hD hS => ?_)
          rw [vu_upd] at hP hD
          have hD : va_D A (md ca ad 0 (upd t n p1) (vu k n kk) v n nw w kd ln hd so fq) := hD
          have hP : va_P (dC, dI) vwCl (md ca ad 0 (upd t n p1) (vu k n kk) v n nw w kd ln hd so fq) H := hP
          refine lv_aload_n hx hb dX1_tuple_72 rfl (lv_at hl 0 rfl) ?_
          refine va_get (D := (dC, dI)) (ci := 1) (v := .ref (ad 3)) (C := RX1) (T := TX1) (N := 12) hx hb hts hin0 hown hK hP 0 rfl rfl 4 (by decide) fl_16 (fun _ h9 => h9) rfl dX1_tuple_73 ?_
          refine lv_aload_n hx hb dX1_tuple_76 rfl (lv_at hl 0 rfl) ?_
          refine va_get (D := (dC, dI)) (ci := 1) (v := .int (nI n)) (C := RX1) (T := TX1) (N := 12) hx hb hts hin0 hown hK hP 0 rfl rfl 1 (by decide) fl_32 (fun _ h9 => h9) rfl dX1_tuple_77 ?_
          refine lv_iload_n hx hb dX1_tuple_80 rfl (lv_at hl 3 rfl) ?_
          refine ya_iast hx hb hK hP hD hS 3 2 rfl rfl (j := n) hn3 (by decide) dX1_tuple_81 (fun H locs hP hD hS => ?_)
          have hP : va_P (dC, dI) vwCl (md ca ad 0 (upd t n p1) (vu k n kk) (upd v n p3) n nw w kd ln hd so fq) H := hP
          have hD : va_D A (md ca ad 0 (upd t n p1) (vu k n kk) (upd v n p3) n nw w kd ln hd so fq) := hD
          refine lv_aload_n hx hb dX1_tuple_82 rfl (lv_at hl 0 rfl) ?_
          refine lv_dup hx hb dX1_tuple_83 rfl ?_
          refine va_get (D := (dC, dI)) (ci := 1) (v := .int (nI n)) (C := RX1) (T := TX1) (N := 12) hx hb hts hin0 hown hK hP 0 rfl rfl 1 (by decide) fl_32 (fun _ h9 => h9) rfl dX1_tuple_84 ?_
          refine lv_iconst (v := 1) hx hb dX1_tuple_87 (by decide) ?_
          refine lv_iadd hx hb dX1_tuple_88 ?_
          rw [nI_1 n]
          refine va_put (D := (dC, dI)) (ci := 1) (v := .int (nI (n + 1))) (ty := .int) (C := RX1) (T := TX1) (N := 12) hx hb hts hin0 tyX1 tyX1_ok nmX1 hown hK hP hD hS 0 rfl rfl 1 (by decide) fl_32 (fun _ h9 => h9) rfl (by decide +kernel) rfl rfl (Nat.le_of_ble_eq_true rfl) dX1_tuple_89 (fun H locs hP hD hS => ?_)
          have hP : va_P (dC, dI) vwCl (md ca ad 0 (upd t n p1) (vu k n kk) (upd v n p3) (n + 1) nw w kd ln hd so fq) H := hP
          have hD : va_D A (md ca ad 0 (upd t n p1) (vu k n kk) (upd v n p3) (n + 1) nw w kd ln hd so fq) := hD
          refine lv_aload_n hx hb dX1_tuple_92 rfl (lv_at hl 0 rfl) ?_
          refine lv_iload_n hx hb dX1_tuple_93 rfl (lv_at hl 1 rfl) ?_
          refine va_put (D := (dC, dI)) (ci := 1) (v := .int p1) (ty := .int) (C := RX1) (T := TX1) (N := 12) hx hb hts hin0 tyX1 tyX1_ok nmX1 hown hK hP hD hS 0 rfl rfl 5 (by decide) fl_35 (fun _ h9 => h9) rfl (by decide +kernel) rfl rfl (Nat.le_of_ble_eq_true rfl) dX1_tuple_94 (fun H locs hP hD hS => ?_)
          have hP : va_P (dC, dI) vwCl (md ca ad 0 (upd t n p1) (vu k n kk) (upd v n p3) (n + 1) p1 w kd ln hd so fq) H := hP
          have hD : va_D A (md ca ad 0 (upd t n p1) (vu k n kk) (upd v n p3) (n + 1) p1 w kd ln hd so fq) := hD
          refine lv_aload_n hx hb dX1_tuple_97 rfl (lv_at hl 0 rfl) ?_
          refine va_get (D := (dC, dI)) (ci := 1) (v := .int (nI (n + 1))) (C := RX1) (T := TX1) (N := 12) hx hb hts hin0 hown hK hP 0 rfl rfl 1 (by decide) fl_32 (fun _ h9 => h9) rfl dX1_tuple_98 ?_
          exact W.iret (v := (nI (n + 1))) hx hb hr (fun t9 ht hW => ⟨⟨_, (0, upd t n p1, vu k n kk, upd v n p3, n + 1, p1), rfl, Or.inl ⟨hG, hn3, ⟨kk, hkk, rfl, rfl⟩, rfl⟩, by rw [ht]; exact hP, va_K.moved hW.alike hK, hD⟩, hS.F ht⟩) hS.2.2 dX1_tuple_101
        · first | exact absurd rfl c_17 | exact absurd c_17 (by decide)
      · refine lv_iconst (v := 1) hx hb dX1_tuple_39 (by decide) ?_
        refine lv_goto (tgt := 44) hx hb dX1_tuple_40 (by decide) ?_
        have hFc := va_free (wc := md ca ad th t k v n nw w kd ln hd so fq) hD hS hA [0, 1, 2, 3, 4, 5, 6] rfl
        refine va_calli (va_runV (As := [.int 0, .int 1]) (rest := []) ⟨hx, hb, hml, hown, hts⟩ (m_refuse l dC dI ca ad _ th t k v n nw w kd ln hd so fq 0 1) (cwV 2 hts (gg_V mlX1_46 imX1_refuse seX1_refuse in_WindowMetersModel kwX1_refuse) rfl rfl rfl (by decide +kernel) ⟨Nat.le_of_ble_eq_true rfl, Nat.le_of_ble_eq_true rfl⟩) (md_preV hK hP hD [.int 0, .int 1]) rfl rfl hl.1 rfl (lv_room (Nat.le_of_ble_eq_true rfl)) dX1_tuple_44 ⟨Nat.le_of_ble_eq_true rfl, Nat.le_of_ble_eq_true rfl⟩) hS (fun q _ h => hFc q h) hFc (fun r_18 uz9 t9 H1 locs ht9 hvm hw_19 hB hz1 hk1 hS => ?_)
        obtain ⟨hP, -, hD1⟩ := hB
        rw [ht9] at hP
        have hD := hD1.weaken (fun k q hk h => hFc q.1 h)
        rw [show mr_th 0 1 = 2 from by decide] at hP hD
        generalize H1 = H at hP hS ⊢
        have hP : va_P (dC, dI) vwCl (md ca ad 2 t k v n nw w kd ln hd so fq) H := hP
        have hD : va_D A (md ca ad 2 t k v n nw w kd ln hd so fq) := hD
        obtain rfl : r_18 = 1 := mk_yes hw_19 (by decide)
        refine lv_if_eq (tgt := 52) hx hb dX1_tuple_47 (by decide) (fun c_20 => ?_) (fun c_20 => ?_)
        · first | exact absurd rfl c_20 | exact absurd c_20 (by decide)
        · refine lv_iconst (v := 0) hx hb dX1_tuple_50 (by decide) ?_
          exact W.iret (v := 0) hx hb hr (fun t9 ht hW => ⟨⟨_, (2, t, k, v, n, nw), rfl, Or.inr (Or.inr ⟨⟨mk_nz hr_2 c_3, mk_nz hr_12 c_13⟩, c_14, rfl⟩), by rw [ht]; exact hP, va_K.moved hW.alike hK, hD⟩, hS.F ht⟩) hS.2.2 dX1_tuple_51
    · refine lv_iconst (v := 1) hx hb dX1_tuple_24 (by decide) ?_
      refine lv_goto (tgt := 29) hx hb dX1_tuple_25 (by decide) ?_
      refine lv_aload_n hx hb dX1_tuple_29 rfl (lv_at hl 0 rfl) ?_
      refine va_get (D := (dC, dI)) (ci := 1) (v := .int (nI n)) (C := RX1) (T := TX1) (N := 12) hx hb hts hin0 hown hK hP 0 rfl rfl 1 (by decide) fl_32 (fun _ h9 => h9) rfl dX1_tuple_30 ?_
      refine lv_sipush (v := 300) hx hb dX1_tuple_33 (by decide) ?_
      refine yb_ne (tgt := 43) (n := 300) (by omega) (by decide) hx hb dX1_tuple_36 (by decide) (fun c_21 => ?_) (fun c_21 => ?_)
      · refine lv_iconst (v := 0) hx hb dX1_tuple_43 (by decide) ?_
        have hFc := va_free (wc := md ca ad th t k v n nw w kd ln hd so fq) hD hS hA [0, 1, 2, 3, 4, 5, 6] rfl
        refine va_calli (va_runV (As := [.int 1, .int 0]) (rest := []) ⟨hx, hb, hml, hown, hts⟩ (m_refuse l dC dI ca ad _ th t k v n nw w kd ln hd so fq 1 0) (cwV 2 hts (gg_V mlX1_46 imX1_refuse seX1_refuse in_WindowMetersModel kwX1_refuse) rfl rfl rfl (by decide +kernel) ⟨Nat.le_of_ble_eq_true rfl, Nat.le_of_ble_eq_true rfl⟩) (md_preV hK hP hD [.int 1, .int 0]) rfl rfl hl.1 rfl (lv_room (Nat.le_of_ble_eq_true rfl)) dX1_tuple_44 ⟨Nat.le_of_ble_eq_true rfl, Nat.le_of_ble_eq_true rfl⟩) hS (fun q _ h => hFc q h) hFc (fun r_22 uz9 t9 H1 locs ht9 hvm hw_23 hB hz1 hk1 hS => ?_)
        obtain ⟨hP, -, hD1⟩ := hB
        rw [ht9] at hP
        have hD := hD1.weaken (fun k q hk h => hFc q.1 h)
        rw [show mr_th 1 0 = 1 from by decide] at hP hD
        generalize H1 = H at hP hS ⊢
        have hP : va_P (dC, dI) vwCl (md ca ad 1 t k v n nw w kd ln hd so fq) H := hP
        have hD : va_D A (md ca ad 1 t k v n nw w kd ln hd so fq) := hD
        obtain rfl : r_22 = 1 := mk_yes hw_23 (by decide)
        refine lv_if_eq (tgt := 52) hx hb dX1_tuple_47 (by decide) (fun c_24 => ?_) (fun c_24 => ?_)
        · first | exact absurd rfl c_24 | exact absurd c_24 (by decide)
        · refine lv_iconst (v := 0) hx hb dX1_tuple_50 (by decide) ?_
          exact W.iret (v := 0) hx hb hr (fun t9 ht hW => ⟨⟨_, (1, t, k, v, n, nw), rfl, Or.inr (Or.inl ⟨(fun q => mk_z hr_12 c_13 q.2), rfl⟩), by rw [ht]; exact hP, va_K.moved hW.alike hK, hD⟩, hS.F ht⟩) hS.2.2 dX1_tuple_51
      · refine lv_iconst (v := 1) hx hb dX1_tuple_39 (by decide) ?_
        refine lv_goto (tgt := 44) hx hb dX1_tuple_40 (by decide) ?_
        have hFc := va_free (wc := md ca ad th t k v n nw w kd ln hd so fq) hD hS hA [0, 1, 2, 3, 4, 5, 6] rfl
        refine va_calli (va_runV (As := [.int 1, .int 1]) (rest := []) ⟨hx, hb, hml, hown, hts⟩ (m_refuse l dC dI ca ad _ th t k v n nw w kd ln hd so fq 1 1) (cwV 2 hts (gg_V mlX1_46 imX1_refuse seX1_refuse in_WindowMetersModel kwX1_refuse) rfl rfl rfl (by decide +kernel) ⟨Nat.le_of_ble_eq_true rfl, Nat.le_of_ble_eq_true rfl⟩) (md_preV hK hP hD [.int 1, .int 1]) rfl rfl hl.1 rfl (lv_room (Nat.le_of_ble_eq_true rfl)) dX1_tuple_44 ⟨Nat.le_of_ble_eq_true rfl, Nat.le_of_ble_eq_true rfl⟩) hS (fun q _ h => hFc q h) hFc (fun r_25 uz9 t9 H1 locs ht9 hvm hw_26 hB hz1 hk1 hS => ?_)
        obtain ⟨hP, -, hD1⟩ := hB
        rw [ht9] at hP
        have hD := hD1.weaken (fun k q hk h => hFc q.1 h)
        rw [show mr_th 1 1 = 1 from by decide] at hP hD
        generalize H1 = H at hP hS ⊢
        have hP : va_P (dC, dI) vwCl (md ca ad 1 t k v n nw w kd ln hd so fq) H := hP
        have hD : va_D A (md ca ad 1 t k v n nw w kd ln hd so fq) := hD
        obtain rfl : r_25 = 1 := mk_yes hw_26 (by decide)
        refine lv_if_eq (tgt := 52) hx hb dX1_tuple_47 (by decide) (fun c_27 => ?_) (fun c_27 => ?_)
        · first | exact absurd rfl c_27 | exact absurd c_27 (by decide)
        · refine lv_iconst (v := 0) hx hb dX1_tuple_50 (by decide) ?_
          exact W.iret (v := 0) hx hb hr (fun t9 ht hW => ⟨⟨_, (1, t, k, v, n, nw), rfl, Or.inr (Or.inl ⟨(fun q => mk_z hr_12 c_13 q.2), rfl⟩), by rw [ht]; exact hP, va_K.moved hW.alike hK, hD⟩, hS.F ht⟩) hS.2.2 dX1_tuple_51

set_option maxRecDepth 100000 in
set_option maxHeartbeats 4000000 in
/-- tick(time) -/
theorem m_tick (l : Launch) (dC : Nat → ClassId) (dI : Nat → Nat → Nat) (ca : Nat → ClassId) (ad : Nat → Nat) (sz : Nat) (th : Int32) (t : Nat → Int32) (k : Nat → Nat) (v : Nat → Int32) (n : Nat) (nw : Int32) (w : Nat) (kd : Nat → Int32) (ln : Nat → Int32) (hd : Nat) (so : Nat → Int32) (fq : Nat) (p1 : Int32)  : Met l yX1_tick wsX1_tick ({ frames := 1, cells := 0, slots := 0, locals := 22 }) (va_Pc [.ref (ad 0), .int p1] (mdPre dC dI ca ad sz th t k v n nw w kd ln hd so fq)) (va_Qv (fun (u : Int32 × Int32) => (qx_in p1 nw 1000000 ∧ u = (0, p1)) ∨ (¬ qx_in p1 nw 1000000 ∧ u = (1, nw))) (fun u t9 => mdAt dC dI ca ad (va_A (md ca ad th t k v n nw w kd ln hd so fq) sz) u.1 t k v n u.2 w kd ln hd so fq t9) (va_A (md ca ad th t k v n nw w kd ln hd so fq) sz)) 0 0 (va_A (md ca ad th t k v n nw w kd ln hd so fq) sz) := by
  refine Met.ofW (cc := cX1_tick) (maxL := 2) (ret := none) (by decide) rfl ?_
  intro p e s m args below meth c s₁ B hml hv
  obtain ⟨rfl, hsz, hP, hK, hD0⟩ := hv
  have hx := B.exec
  have hb := B.bytes
  have hr := B.returns
  have hts := atoms_spec (ws := wsX1_tick) B.pre
  have hown : s.vm.findClass RX1 = some m.cls := findClass_of_methodNamed B.named
  have hlocks := B.notSynchronized
  subst hsz
  have hin0 : ∀ w ∈ u_ws RX1 TX1 12, w ∈ wsX1_tick := fun w h => List.mem_cons_of_mem _ (wiX1 w h)
  have fl_35 := hts _ (List.mem_cons_of_mem _ flX1_35)
  have hD := hD0.self (sz := s.heap.size)
  generalize hAe : va_A (md ca ad th t k v n nw w kd ln hd so fq) s.heap.size = A at hD ⊢
  have hA : ∀ q : Nat, s.heap.size ≤ q → A q := fun q h => by rw [← hAe]; exact Or.inr h
  have hS : va_S A s.heap s.heap [] := va_S.rf
  have hl := lv_entry ([.ref (ad 0), .int p1]) (n := 2) (Nat.le_of_ble_eq_true rfl)
  rw [lg_entry_eq]
  generalize (lg_sl ([.ref (ad 0), .int p1]) ++ List.replicate (2 - (lg_sl ([.ref (ad 0), .int p1])).length) Slot.unset).toArray = ls at hl ⊢
  have hl : lv_has ls 2 [(0, .ref (ad 0)), (1, .int p1)] := hl
  refine lv_aload_n hx hb dX1_tick_0 rfl (lv_at hl 0 rfl) ?_
  refine lv_iload_n hx hb dX1_tick_1 rfl (lv_at hl 1 rfl) ?_
  refine lv_aload_n hx hb dX1_tick_2 rfl (lv_at hl 0 rfl) ?_
  refine va_get (D := (dC, dI)) (ci := 1) (v := .int nw) (C := RX1) (T := TX1) (N := 12) hx hb hts hin0 hown hK hP 0 rfl rfl 5 (by decide) fl_35 (fun _ h9 => h9) rfl dX1_tick_3 ?_
  refine lv_ldc (v := 1000000) hx hb hown (hts _ (List.mem_cons_of_mem _ cnX1_45)) dX1_tick_6 ?_
  refine vp_callSi (W.runS (As := [.int p1, .int nw, .int 1000000]) (rest := [.ref (ad 0)]) ⟨hx, hb, hml, hown, hts⟩ (m_in l p1 nw 1000000) (va_cwS 3 hts (gg_S mlX1_41 stX1_in in_WindowMetersModel kwX1_in) rfl rfl rfl (by decide +kernel) ⟨Nat.le_of_ble_eq_true rfl, Nat.le_of_ble_eq_true rfl⟩) preEq rfl rfl hl.1 rfl (lv_room (Nat.le_of_ble_eq_true rfl)) dX1_tick_8 ⟨Nat.le_of_ble_eq_true rfl, Nat.le_of_ble_eq_true rfl⟩) (fun r_1 hr_2 => ?_)
  refine lv_if_ne (tgt := 18) hx hb dX1_tick_11 (by decide) (fun c_3 => ?_) (fun c_3 => ?_)
  · refine lv_iconst (v := 0) hx hb dX1_tick_18 (by decide) ?_
    refine lv_iconst (v := 0) hx hb dX1_tick_19 (by decide) ?_
    have hFc := va_free (wc := md ca ad th t k v n nw w kd ln hd so fq) hD hS hA [0, 1, 2, 3, 4, 5, 6] rfl
    refine va_calli (va_runV (As := [.int 0, .int 0]) (rest := []) ⟨hx, hb, hml, hown, hts⟩ (m_refuse l dC dI ca ad _ th t k v n nw w kd ln hd so fq 0 0) (cwV 2 hts (gg_V mlX1_46 imX1_refuse seX1_refuse in_WindowMetersModel kwX1_refuse) rfl rfl rfl (by decide +kernel) ⟨Nat.le_of_ble_eq_true rfl, Nat.le_of_ble_eq_true rfl⟩) (md_preV hK hP hD [.int 0, .int 0]) rfl rfl hl.1 rfl (lv_room (Nat.le_of_ble_eq_true rfl)) dX1_tick_20 ⟨Nat.le_of_ble_eq_true rfl, Nat.le_of_ble_eq_true rfl⟩) hS (fun q _ h => hFc q h) hFc (fun r_4 uz9 t9 H1 locs ht9 hvm hw_5 hB hz1 hk1 hS => ?_)
    obtain ⟨hP, -, hD1⟩ := hB
    rw [ht9] at hP
    have hD := hD1.weaken (fun k q hk h => hFc q.1 h)
    rw [show mr_th 0 0 = 0 from by decide] at hP hD
    generalize H1 = H at hP hS ⊢
    have hP : va_P (dC, dI) vwCl (md ca ad 0 t k v n nw w kd ln hd so fq) H := hP
    have hD : va_D A (md ca ad 0 t k v n nw w kd ln hd so fq) := hD
    obtain rfl : r_4 = 0 := mk_no hw_5 (by decide)
    refine lv_if_ne (tgt := 31) hx hb dX1_tick_23 (by decide) (fun c_6 => ?_) (fun c_6 => ?_)
    · first | exact absurd rfl c_6 | exact absurd c_6 (by decide)
    · refine lv_aload_n hx hb dX1_tick_26 rfl (lv_at hl 0 rfl) ?_
      refine lv_iload_n hx hb dX1_tick_27 rfl (lv_at hl 1 rfl) ?_
      refine va_put (D := (dC, dI)) (ci := 1) (v := .int p1) (ty := .int) (C := RX1) (T := TX1) (N := 12) hx hb hts hin0 tyX1 tyX1_ok nmX1 hown hK hP hD hS 0 rfl rfl 5 (by decide) fl_35 (fun _ h9 => h9) rfl (by decide +kernel) rfl rfl (Nat.le_of_ble_eq_true rfl) dX1_tick_28 (fun H locs hP hD hS => ?_)
      have hP : va_P (dC, dI) vwCl (md ca ad 0 t k v n p1 w kd ln hd so fq) H := hP
      have hD : va_D A (md ca ad 0 t k v n p1 w kd ln hd so fq) := hD
      exact W.vret hx hb hr (fun t9 ht hW => ⟨⟨(0, p1), rfl, Or.inl ⟨mk_nz hr_2 c_3, rfl⟩, by rw [ht]; exact hP, va_K.moved hW.alike hK, hD⟩, hS.F ht⟩) hS.2.2 dX1_tick_31
  · refine lv_iconst (v := 1) hx hb dX1_tick_14 (by decide) ?_
    refine lv_goto (tgt := 19) hx hb dX1_tick_15 (by decide) ?_
    refine lv_iconst (v := 0) hx hb dX1_tick_19 (by decide) ?_
    have hFc := va_free (wc := md ca ad th t k v n nw w kd ln hd so fq) hD hS hA [0, 1, 2, 3, 4, 5, 6] rfl
    refine va_calli (va_runV (As := [.int 1, .int 0]) (rest := []) ⟨hx, hb, hml, hown, hts⟩ (m_refuse l dC dI ca ad _ th t k v n nw w kd ln hd so fq 1 0) (cwV 2 hts (gg_V mlX1_46 imX1_refuse seX1_refuse in_WindowMetersModel kwX1_refuse) rfl rfl rfl (by decide +kernel) ⟨Nat.le_of_ble_eq_true rfl, Nat.le_of_ble_eq_true rfl⟩) (md_preV hK hP hD [.int 1, .int 0]) rfl rfl hl.1 rfl (lv_room (Nat.le_of_ble_eq_true rfl)) dX1_tick_20 ⟨Nat.le_of_ble_eq_true rfl, Nat.le_of_ble_eq_true rfl⟩) hS (fun q _ h => hFc q h) hFc (fun r_7 uz9 t9 H1 locs ht9 hvm hw_8 hB hz1 hk1 hS => ?_)
    obtain ⟨hP, -, hD1⟩ := hB
    rw [ht9] at hP
    have hD := hD1.weaken (fun k q hk h => hFc q.1 h)
    rw [show mr_th 1 0 = 1 from by decide] at hP hD
    generalize H1 = H at hP hS ⊢
    have hP : va_P (dC, dI) vwCl (md ca ad 1 t k v n nw w kd ln hd so fq) H := hP
    have hD : va_D A (md ca ad 1 t k v n nw w kd ln hd so fq) := hD
    obtain rfl : r_7 = 1 := mk_yes hw_8 (by decide)
    refine lv_if_ne (tgt := 31) hx hb dX1_tick_23 (by decide) (fun c_9 => ?_) (fun c_9 => ?_)
    · exact W.vret hx hb hr (fun t9 ht hW => ⟨⟨(1, nw), rfl, Or.inr ⟨mk_z hr_2 c_3, rfl⟩, by rw [ht]; exact hP, va_K.moved hW.alike hK, hD⟩, hS.F ht⟩) hS.2.2 dX1_tick_31
    · first | exact absurd rfl c_9 | exact absurd c_9 (by decide)

set_option maxRecDepth 100000 in
set_option maxHeartbeats 4000000 in
/-- isWindow(w) -/
theorem m_isWindow (l : Launch) (dC : Nat → ClassId) (dI : Nat → Nat → Nat) (ca : Nat → ClassId) (ad : Nat → Nat) (sz : Nat) (th : Int32) (t : Nat → Int32) (k : Nat → Nat) (v : Nat → Int32) (n : Nat) (nw : Int32) (w : Nat) (kd : Nat → Int32) (ln : Nat → Int32) (hd : Nat) (so : Nat → Int32) (fq : Nat) (p1 : Int32) (hw6 : w ≤ 6) : Met l yX1_isWindow wsX1_isWindow ({ frames := 1, cells := 0, slots := 0, locals := 22 }) (va_Pc [.ref (ad 0), .int p1] (mdPre dC dI ca ad sz th t k v n nw w kd ln hd so fq)) (vp_Si (fun r => qc_mk r (qx_win w p1))) 0 0 (fun _ => False) := by
  refine Met.ofW (cc := cX1_isWindow) (maxL := 2) (ret := (some .boolean)) (by decide) rfl ?_
  intro p e s m args below meth c s₁ B hml hv
  obtain ⟨rfl, hsz, hP, hK, hD0⟩ := hv
  have hx := B.exec
  have hb := B.bytes
  have hr := B.returns
  have hts := atoms_spec (ws := wsX1_isWindow) B.pre
  have hown : s.vm.findClass RX1 = some m.cls := findClass_of_methodNamed B.named
  have hlocks := B.notSynchronized
  subst hsz
  have hin0 : ∀ w ∈ u_ws RX1 TX1 12, w ∈ wsX1_isWindow := fun w h => List.mem_cons_of_mem _ (wiX1 w h)
  have fl_38 := hts _ (List.mem_cons_of_mem _ flX1_38)
  have hD := hD0
  have hl := lv_entry ([.ref (ad 0), .int p1]) (n := 2) (Nat.le_of_ble_eq_true rfl)
  rw [lg_entry_eq]
  generalize (lg_sl ([.ref (ad 0), .int p1]) ++ List.replicate (2 - (lg_sl ([.ref (ad 0), .int p1])).length) Slot.unset).toArray = ls at hl ⊢
  have hl : lv_has ls 2 [(0, .ref (ad 0)), (1, .int p1)] := hl
  refine lv_iload_n hx hb dX1_isWindow_0 rfl (lv_at hl 1 rfl) ?_
  refine lv_iconst (v := 0) hx hb dX1_isWindow_1 (by decide) ?_
  refine lv_aload_n hx hb dX1_isWindow_2 rfl (lv_at hl 0 rfl) ?_
  refine va_get (D := (dC, dI)) (ci := 1) (v := .int (nI w)) (C := RX1) (T := TX1) (N := 12) hx hb hts hin0 hown hK hP 0 rfl rfl 6 (by decide) fl_38 (fun _ h9 => h9) rfl dX1_isWindow_3 ?_
  refine lv_iconst (v := 1) hx hb dX1_isWindow_6 (by decide) ?_
  refine lv_isub hx hb dX1_isWindow_7 ?_
  refine vp_callSi (W.runS (As := [.int p1, .int 0, .int ((nI w) - 1)]) (rest := []) ⟨hx, hb, hml, hown, hts⟩ (m_in l p1 0 ((nI w) - 1)) (va_cwS 3 hts (gg_S mlX1_41 stX1_in in_WindowMetersModel kwX1_in) rfl rfl rfl (by decide +kernel) ⟨Nat.le_of_ble_eq_true rfl, Nat.le_of_ble_eq_true rfl⟩) preEq rfl rfl hl.1 rfl (lv_room (Nat.le_of_ble_eq_true rfl)) dX1_isWindow_8 ⟨Nat.le_of_ble_eq_true rfl, Nat.le_of_ble_eq_true rfl⟩) (fun r_1 hr_2 => ?_)
  exact W.zret (v := r_1) hx hb hr (mk_bool hr_2) (fun t ht hW => ⟨_, rfl, mk_iff (qx_in_pred (by omega)) hr_2, ht⟩) (fun q h => by cases h) dX1_isWindow_11

set_option maxRecDepth 100000 in
set_option maxHeartbeats 4000000 in
/-- behindOfKey(i) -/
theorem m_behindOfKey (l : Launch) (dC : Nat → ClassId) (dI : Nat → Nat → Nat) (ca : Nat → ClassId) (ad : Nat → Nat) (sz : Nat) (th : Int32) (t : Nat → Int32) (k : Nat → Nat) (v : Nat → Int32) (n : Nat) (nw : Int32) (w : Nat) (kd : Nat → Int32) (ln : Nat → Int32) (hd : Nat) (so : Nat → Int32) (fq : Nat) (i0 : Nat) (hn : n ≤ 300) (hk8 : ∀ j, j < n → k j < 8) (hi0 : i0 < n) : Met l yX1_behindOfKey wsX1_behindOfKey ({ frames := 0, cells := 0, slots := 0, locals := 0 }) (va_Pc [.ref (ad 0), .int (nI i0)] (mdPre dC dI ca ad sz th t k v n nw w kd ln hd so fq)) (vp_Si (fun r => r = nI (qc_oc k (k i0) (i0 + 1) n))) 0 0 (fun _ => False) := by
  refine Met.ofW (cc := cX1_behindOfKey) (maxL := 4) (ret := (some .int)) (by decide) rfl ?_
  intro p e s m args below meth c s₁ B hml hv
  obtain ⟨rfl, hsz, hP, hK, hD0⟩ := hv
  have hx := B.exec
  have hb := B.bytes
  have hr := B.returns
  have hts := atoms_spec (ws := wsX1_behindOfKey) B.pre
  have hown : s.vm.findClass RX1 = some m.cls := findClass_of_methodNamed B.named
  have hlocks := B.notSynchronized
  subst hsz
  have hin0 : ∀ w ∈ u_ws RX1 TX1 12, w ∈ wsX1_behindOfKey := fun w h => List.mem_cons_of_mem _ (wiX1 w h)
  have fl_13 := hts _ (List.mem_cons_of_mem _ flX1_13)
  have fl_32 := hts _ (List.mem_cons_of_mem _ flX1_32)
  have hD := hD0
  have hl := lv_entry ([.ref (ad 0), .int (nI i0)]) (n := 4) (Nat.le_of_ble_eq_true rfl)
  rw [lg_entry_eq]
  generalize (lg_sl ([.ref (ad 0), .int (nI i0)]) ++ List.replicate (4 - (lg_sl ([.ref (ad 0), .int (nI i0)])).length) Slot.unset).toArray = ls at hl ⊢
  have hl : lv_has ls 4 [(0, .ref (ad 0)), (1, .int (nI i0))] := hl
  refine lv_iconst (v := 0) hx hb dX1_behindOfKey_0 (by decide) ?_
  refine lv_istore_n (lv' := [(2, .int 0), (0, .ref (ad 0)), (1, .int (nI i0))]) hx hb dX1_behindOfKey_1 rfl hl (by decide) rfl (fun ls hl => ?_)
  refine lv_iload_n hx hb dX1_behindOfKey_2 rfl (lv_at hl 2 rfl) ?_
  refine lv_iconst (v := 1) hx hb dX1_behindOfKey_3 (by decide) ?_
  refine lv_iadd hx hb dX1_behindOfKey_4 ?_
  rw [nI_1 i0]
  refine lv_istore_n (lv' := [(3, .int (nI (i0 + 1))), (2, .int 0), (0, .ref (ad 0)), (1, .int (nI i0))]) hx hb dX1_behindOfKey_5 rfl hl (by decide) rfl (fun ls hl => ?_)
  have loop : ∀ (d i : Nat), i ≤ n → n + 1 ≤ i + d → (i0 + 1 ≤ i) → ∀ (ls : Array Slot), lv_has ls 4 [(0, .ref (ad 0)), (1, .int (nI i0)), (2, .int (nI (qc_oc k (k i0) (i0 + 1) i))), (3, .int (nI i))] → W p l e (headSpec wsX1_behindOfKey ({ frames := 0, cells := 0, slots := 0, locals := 0 })).room s m ([.ref (ad 0), .int (nI i0)] : List Value).toArray below meth c s.heap [] 0 0 (MQ below (vp_Si (fun r => r = nI (qc_oc k (k i0) (i0 + 1) n))) ([.ref (ad 0), .int (nI i0)] : List Value).toArray s 0 0 (fun _ => False)) (F0 m 6 ls []) := by
    intro d
    induction d with
    | zero =>
      intro i hi hfu
      exact absurd hfu (by omega)
    | succ d ih =>
      intro i hi hfu hlo ls hl
      refine lv_iload_n hx hb dX1_behindOfKey_6 rfl (lv_at hl 3 rfl) ?_
      refine lv_aload_n hx hb dX1_behindOfKey_7 rfl (lv_at hl 0 rfl) ?_
      refine va_get (D := (dC, dI)) (ci := 1) (v := .int (nI n)) (C := RX1) (T := TX1) (N := 12) hx hb hts hin0 hown hK hP 0 rfl rfl 1 (by decide) fl_32 (fun _ h9 => h9) rfl dX1_behindOfKey_8 ?_
      refine yb_ge (tgt := 43) (by omega) (by omega) hx hb dX1_behindOfKey_11 (by decide) (fun c_1 => ?_) (fun c_1 => ?_)
      · refine lv_iload_n hx hb dX1_behindOfKey_43 rfl (lv_at hl 2 rfl) ?_
        exact W.iret (v := (nI (qc_oc k (k i0) (i0 + 1) i))) hx hb hr (fun t ht hW => ⟨_, rfl, by rw [show n = i from by omega], ht⟩) (fun q h => by cases h) dX1_behindOfKey_44
      · refine lv_aload_n hx hb dX1_behindOfKey_14 rfl (lv_at hl 0 rfl) ?_
        refine va_get (D := (dC, dI)) (ci := 1) (v := .ref (ad 2)) (C := RX1) (T := TX1) (N := 12) hx hb hts hin0 hown hK hP 0 rfl rfl 3 (by decide) fl_13 (fun _ h9 => h9) rfl dX1_behindOfKey_15 ?_
        refine lv_iload_n hx hb dX1_behindOfKey_18 rfl (lv_at hl 3 rfl) ?_
        refine ya_iald hx hb hK hP 2 1 rfl rfl (j := i) (by omega) (by decide) dX1_behindOfKey_19 ?_
        refine lv_aload_n hx hb dX1_behindOfKey_20 rfl (lv_at hl 0 rfl) ?_
        refine va_get (D := (dC, dI)) (ci := 1) (v := .ref (ad 2)) (C := RX1) (T := TX1) (N := 12) hx hb hts hin0 hown hK hP 0 rfl rfl 3 (by decide) fl_13 (fun _ h9 => h9) rfl dX1_behindOfKey_21 ?_
        refine lv_iload_n hx hb dX1_behindOfKey_24 rfl (lv_at hl 1 rfl) ?_
        refine ya_iald hx hb hK hP 2 1 rfl rfl (j := i0) (by omega) (by decide) dX1_behindOfKey_25 ?_
        refine yb_ne (tgt := 35) (Nat.lt_trans (hk8 i c_1) (by decide)) (Nat.lt_trans (hk8 i0 hi0) (by decide)) hx hb dX1_behindOfKey_26 (by decide) (fun c_2 => ?_) (fun c_2 => ?_)
        · refine lv_iload_n hx hb dX1_behindOfKey_35 rfl (lv_at hl 2 rfl) ?_
          refine lv_istore_n (lv' := [(2, .int (nI (qc_oc k (k i0) (i0 + 1) i))), (0, .ref (ad 0)), (1, .int (nI i0)), (3, .int (nI i))]) hx hb dX1_behindOfKey_36 rfl hl (by decide) rfl (fun ls hl => ?_)
          refine lv_iinc (v := (nI (i + 1))) (lv' := [(3, .int (nI (i + 1))), (2, .int (nI (qc_oc k (k i0) (i0 + 1) i))), (0, .ref (ad 0)), (1, .int (nI i0))]) hx hb dX1_behindOfKey_37 hl (k := 3) rfl (yn_inc _) (by decide) rfl (fun ls hl => ?_)
          refine lv_goto (tgt := 6) hx hb dX1_behindOfKey_40 (by decide) ?_
          exact ih (i + 1) (by omega) (by omega) (by omega) ls (by rw [qc_oc, if_neg (fun q => c_2 q.2)]; exact (lv_sub hl [2, 3, 1, 0] rfl))
        · refine lv_iload_n hx hb dX1_behindOfKey_29 rfl (lv_at hl 2 rfl) ?_
          refine lv_iconst (v := 1) hx hb dX1_behindOfKey_30 (by decide) ?_
          refine lv_iadd hx hb dX1_behindOfKey_31 ?_
          rw [nI_1 (qc_oc k (k i0) (i0 + 1) i)]
          refine lv_goto (tgt := 36) hx hb dX1_behindOfKey_32 (by decide) ?_
          refine lv_istore_n (lv' := [(2, .int (nI (qc_oc k (k i0) (i0 + 1) i + 1))), (0, .ref (ad 0)), (1, .int (nI i0)), (3, .int (nI i))]) hx hb dX1_behindOfKey_36 rfl hl (by decide) rfl (fun ls hl => ?_)
          refine lv_iinc (v := (nI (i + 1))) (lv' := [(3, .int (nI (i + 1))), (2, .int (nI (qc_oc k (k i0) (i0 + 1) i + 1))), (0, .ref (ad 0)), (1, .int (nI i0))]) hx hb dX1_behindOfKey_37 hl (k := 3) rfl (yn_inc _) (by decide) rfl (fun ls hl => ?_)
          refine lv_goto (tgt := 6) hx hb dX1_behindOfKey_40 (by decide) ?_
          exact ih (i + 1) (by omega) (by omega) (by omega) ls (by rw [qc_oc, if_pos ⟨by omega, c_2⟩]; exact (lv_sub hl [2, 3, 1, 0] rfl))
  exact loop (n + 1) (i0 + 1) hi0 (by omega) (Nat.le_refl _) ls (by rw [qc_oc_none k (k i0) (i0 + 1) (i0 + 1) (Nat.le_refl _)]; exact (lv_sub hl [2, 3, 1, 0] rfl))

set_option maxRecDepth 100000 in
set_option maxHeartbeats 4000000 in
/-- runs(i, n) -/
theorem m_runs (l : Launch) (dC : Nat → ClassId) (dI : Nat → Nat → Nat) (ca : Nat → ClassId) (ad : Nat → Nat) (sz : Nat) (th : Int32) (t : Nat → Int32) (k : Nat → Nat) (v : Nat → Int32) (n : Nat) (nw : Int32) (w : Nat) (kd : Nat → Int32) (ln : Nat → Int32) (hd : Nat) (so : Nat → Int32) (fq : Nat) (i0 : Nat) (p2 : Int32) (hn : n < 300) (hi0 : i0 ≤ n) : Met l yX1_runs wsX1_runs ({ frames := 0, cells := 0, slots := 0, locals := 0 }) (va_Pc [.ref (ad 0), .int (nI i0), .int p2] (mdPre dC dI ca ad sz th t k v (n + 1) nw w kd ln hd so fq)) (vp_Si (fun r => qc_mk r (mr_run t nw p2 (n + 1) i0))) 0 0 (fun _ => False) := by
  refine Met.ofW (cc := cX1_runs) (maxL := 5) (ret := (some .boolean)) (by decide) rfl ?_
  intro p e s m args below meth c s₁ B hml hv
  obtain ⟨rfl, hsz, hP, hK, hD0⟩ := hv
  have hx := B.exec
  have hb := B.bytes
  have hr := B.returns
  have hts := atoms_spec (ws := wsX1_runs) B.pre
  have hown : s.vm.findClass RX1 = some m.cls := findClass_of_methodNamed B.named
  have hlocks := B.notSynchronized
  subst hsz
  have hin0 : ∀ w ∈ u_ws RX1 TX1 12, w ∈ wsX1_runs := fun w h => List.mem_cons_of_mem _ (wiX1 w h)
  have fl_7 := hts _ (List.mem_cons_of_mem _ flX1_7)
  have fl_32 := hts _ (List.mem_cons_of_mem _ flX1_32)
  have fl_35 := hts _ (List.mem_cons_of_mem _ flX1_35)
  have hD := hD0
  have hl := lv_entry ([.ref (ad 0), .int (nI i0), .int p2]) (n := 5) (Nat.le_of_ble_eq_true rfl)
  rw [lg_entry_eq]
  generalize (lg_sl ([.ref (ad 0), .int (nI i0), .int p2]) ++ List.replicate (5 - (lg_sl ([.ref (ad 0), .int (nI i0), .int p2])).length) Slot.unset).toArray = ls at hl ⊢
  have hl : lv_has ls 5 [(0, .ref (ad 0)), (1, .int (nI i0)), (2, .int p2)] := hl
  refine lv_aload_n hx hb dX1_runs_0 rfl (lv_at hl 0 rfl) ?_
  refine va_get (D := (dC, dI)) (ci := 1) (v := .ref (ad 1)) (C := RX1) (T := TX1) (N := 12) hx hb hts hin0 hown hK hP 0 rfl rfl 2 (by decide) fl_7 (fun _ h9 => h9) rfl dX1_runs_1 ?_
  refine lv_aload_n hx hb dX1_runs_4 rfl (lv_at hl 0 rfl) ?_
  refine va_get (D := (dC, dI)) (ci := 1) (v := .int (nI (n + 1))) (C := RX1) (T := TX1) (N := 12) hx hb hts hin0 hown hK hP 0 rfl rfl 1 (by decide) fl_32 (fun _ h9 => h9) rfl dX1_runs_5 ?_
  refine lv_iconst (v := 1) hx hb dX1_runs_8 (by decide) ?_
  refine lv_isub hx hb dX1_runs_9 ?_
  rw [nI_pred n]
  refine ya_iald hx hb hK hP 1 0 rfl rfl (j := n) hn (by decide) dX1_runs_10 ?_
  refine lv_aload_n hx hb dX1_runs_11 rfl (lv_at hl 0 rfl) ?_
  refine va_get (D := (dC, dI)) (ci := 1) (v := .int nw) (C := RX1) (T := TX1) (N := 12) hx hb hts hin0 hown hK hP 0 rfl rfl 5 (by decide) fl_35 (fun _ h9 => h9) rfl dX1_runs_12 ?_
  refine lv_iload_n hx hb dX1_runs_15 rfl (lv_at hl 2 rfl) ?_
  refine lv_isub hx hb dX1_runs_16 ?_
  have loop : ∀ (d i : Nat) (x3 : Int32), i ≤ n → n + 1 ≤ i + d → (i0 ≤ i) → (qc_mk x3 (¬ t n < nw - p2 ∧ ∀ j, i0 ≤ j → j < i → ¬ p2 < t (j + 1) - t j)) → ∀ (ls : Array Slot), lv_has ls 5 [(0, .ref (ad 0)), (1, .int (nI i0)), (2, .int p2), (3, .int x3), (4, .int (nI i))] → W p l e (headSpec wsX1_runs ({ frames := 0, cells := 0, slots := 0, locals := 0 })).room s m ([.ref (ad 0), .int (nI i0), .int p2] : List Value).toArray below meth c s.heap [] 0 0 (MQ below (vp_Si (fun r => qc_mk r (mr_run t nw p2 (n + 1) i0))) ([.ref (ad 0), .int (nI i0), .int p2] : List Value).toArray s 0 0 (fun _ => False)) (F0 m 29 ls []) := by
    intro d
    induction d with
    | zero =>
      intro i x3 hi hfu
      exact absurd hfu (by omega)
    | succ d ih =>
      intro i x3 hi hfu hlo hx3 ls hl
      refine lv_iload hx hb dX1_runs_29 (lv_at hl 4 rfl) ?_
      refine lv_iconst (v := 1) hx hb dX1_runs_31 (by decide) ?_
      refine lv_iadd hx hb dX1_runs_32 ?_
      rw [nI_1 i]
      refine lv_aload_n hx hb dX1_runs_33 rfl (lv_at hl 0 rfl) ?_
      refine va_get (D := (dC, dI)) (ci := 1) (v := .int (nI (n + 1))) (C := RX1) (T := TX1) (N := 12) hx hb hts hin0 hown hK hP 0 rfl rfl 1 (by decide) fl_32 (fun _ h9 => h9) rfl dX1_runs_34 ?_
      refine yb_ge (tgt := 77) (by omega) (by omega) hx hb dX1_runs_37 (by decide) (fun c_1 => ?_) (fun c_1 => ?_)
      · refine lv_iload_n hx hb dX1_runs_77 rfl (lv_at hl 3 rfl) ?_
        exact W.zret (v := x3) hx hb hr (mk_bool hx3) (fun t9 ht hW => ⟨_, rfl, mk_iff ⟨fun q => ⟨q.1, fun j g1 g2 => q.2 j g1 (by omega)⟩, fun q => ⟨q.1, fun j g1 g2 => q.2 j g1 (by omega)⟩⟩ hx3, ht⟩) (fun q h => by cases h) dX1_runs_78
      · refine lv_iload_n hx hb dX1_runs_40 rfl (lv_at hl 3 rfl) ?_
        refine lv_if_eq (tgt := 69) hx hb dX1_runs_41 (by decide) (fun c_2 => ?_) (fun c_2 => ?_)
        · refine lv_iconst (v := 0) hx hb dX1_runs_69 (by decide) ?_
          have hmk : qc_mk 0 (¬ t n < nw - p2 ∧ ∀ j, i0 ≤ j → j < i + 1 → ¬ p2 < t (j + 1) - t j) := qc_mk0 (fun q => mk_z hx3 c_2 ⟨q.1, fun j g1 g2 => q.2 j g1 (by omega)⟩)
          refine lv_istore_n (lv' := [(3, .int 0), (0, .ref (ad 0)), (1, .int (nI i0)), (2, .int p2), (4, .int (nI i))]) hx hb dX1_runs_70 rfl hl (by decide) rfl (fun ls hl => ?_)
          refine lv_iinc (v := (nI (i + 1))) (lv' := [(4, .int (nI (i + 1))), (3, .int 0), (0, .ref (ad 0)), (1, .int (nI i0)), (2, .int p2)]) hx hb dX1_runs_71 hl (k := 4) rfl (yn_inc _) (by decide) rfl (fun ls hl => ?_)
          refine lv_goto (tgt := 29) hx hb dX1_runs_74 (by decide) ?_
          exact ih (i + 1) 0 (by omega) (by omega) (by omega) hmk ls (lv_sub hl [2, 3, 4, 1, 0] rfl)
        · refine lv_aload_n hx hb dX1_runs_44 rfl (lv_at hl 0 rfl) ?_
          refine va_get (D := (dC, dI)) (ci := 1) (v := .ref (ad 1)) (C := RX1) (T := TX1) (N := 12) hx hb hts hin0 hown hK hP 0 rfl rfl 2 (by decide) fl_7 (fun _ h9 => h9) rfl dX1_runs_45 ?_
          refine lv_iload hx hb dX1_runs_48 (lv_at hl 4 rfl) ?_
          refine lv_iconst (v := 1) hx hb dX1_runs_50 (by decide) ?_
          refine lv_iadd hx hb dX1_runs_51 ?_
          rw [nI_1 i]
          refine ya_iald hx hb hK hP 1 0 rfl rfl (j := (i + 1)) (by omega) (by decide) dX1_runs_52 ?_
          refine lv_aload_n hx hb dX1_runs_53 rfl (lv_at hl 0 rfl) ?_
          refine va_get (D := (dC, dI)) (ci := 1) (v := .ref (ad 1)) (C := RX1) (T := TX1) (N := 12) hx hb hts hin0 hown hK hP 0 rfl rfl 2 (by decide) fl_7 (fun _ h9 => h9) rfl dX1_runs_54 ?_
          refine lv_iload hx hb dX1_runs_57 (lv_at hl 4 rfl) ?_
          refine ya_iald hx hb hK hP 1 0 rfl rfl (j := i) (by omega) (by decide) dX1_runs_59 ?_
          refine lv_isub hx hb dX1_runs_60 ?_
          refine lv_iload_n hx hb dX1_runs_61 rfl (lv_at hl 2 rfl) ?_
          refine lv_icmp_gt (tgt := 69) hx hb dX1_runs_62 (by decide) (fun c_3 => ?_) (fun c_3 => ?_)
          · refine lv_iconst (v := 0) hx hb dX1_runs_69 (by decide) ?_
            have hmk : qc_mk 0 (¬ t n < nw - p2 ∧ ∀ j, i0 ≤ j → j < i + 1 → ¬ p2 < t (j + 1) - t j) := qc_mk0 (fun q => q.2 i hlo (by omega) c_3)
            refine lv_istore_n (lv' := [(3, .int 0), (0, .ref (ad 0)), (1, .int (nI i0)), (2, .int p2), (4, .int (nI i))]) hx hb dX1_runs_70 rfl hl (by decide) rfl (fun ls hl => ?_)
            refine lv_iinc (v := (nI (i + 1))) (lv' := [(4, .int (nI (i + 1))), (3, .int 0), (0, .ref (ad 0)), (1, .int (nI i0)), (2, .int p2)]) hx hb dX1_runs_71 hl (k := 4) rfl (yn_inc _) (by decide) rfl (fun ls hl => ?_)
            refine lv_goto (tgt := 29) hx hb dX1_runs_74 (by decide) ?_
            exact ih (i + 1) 0 (by omega) (by omega) (by omega) hmk ls (lv_sub hl [2, 3, 4, 1, 0] rfl)
          · refine lv_iconst (v := 1) hx hb dX1_runs_65 (by decide) ?_
            refine lv_goto (tgt := 70) hx hb dX1_runs_66 (by decide) ?_
            have hmk : qc_mk 1 (¬ t n < nw - p2 ∧ ∀ j, i0 ≤ j → j < i + 1 → ¬ p2 < t (j + 1) - t j) := qc_mk1 ⟨(mk_nz hx3 c_2).1, fun j g1 g2 => (Nat.lt_or_ge j i).elim (fun g => (mk_nz hx3 c_2).2 j g1 g) (fun g => by have e9 : j = i := (by omega); subst e9; exact c_3)⟩
            refine lv_istore_n (lv' := [(3, .int 1), (0, .ref (ad 0)), (1, .int (nI i0)), (2, .int p2), (4, .int (nI i))]) hx hb dX1_runs_70 rfl hl (by decide) rfl (fun ls hl => ?_)
            refine lv_iinc (v := (nI (i + 1))) (lv' := [(4, .int (nI (i + 1))), (3, .int 1), (0, .ref (ad 0)), (1, .int (nI i0)), (2, .int p2)]) hx hb dX1_runs_71 hl (k := 4) rfl (yn_inc _) (by decide) rfl (fun ls hl => ?_)
            refine lv_goto (tgt := 29) hx hb dX1_runs_74 (by decide) ?_
            exact ih (i + 1) 1 (by omega) (by omega) (by omega) hmk ls (lv_sub hl [2, 3, 4, 1, 0] rfl)
  refine lv_icmp_lt (tgt := 24) hx hb dX1_runs_17 (by decide) (fun c_4 => ?_) (fun c_4 => ?_)
  · refine lv_iconst (v := 0) hx hb dX1_runs_24 (by decide) ?_
    refine lv_istore_n (lv' := [(3, .int 0), (0, .ref (ad 0)), (1, .int (nI i0)), (2, .int p2)]) hx hb dX1_runs_25 rfl hl (by decide) rfl (fun ls hl => ?_)
    refine lv_iload_n hx hb dX1_runs_26 rfl (lv_at hl 2 rfl) ?_
    refine lv_istore (lv' := [(4, .int (nI i0)), (3, .int 0), (0, .ref (ad 0)), (1, .int (nI i0)), (2, .int p2)]) hx hb dX1_runs_27 hl (by decide) rfl (fun ls hl => ?_)
    exact loop (n + 1) i0 0 hi0 (by omega) (Nat.le_refl _) (qc_mk0 (fun q => q.1 c_4)) ls (lv_sub hl [2, 3, 4, 1, 0] rfl)
  · refine lv_iconst (v := 1) hx hb dX1_runs_20 (by decide) ?_
    refine lv_goto (tgt := 25) hx hb dX1_runs_21 (by decide) ?_
    refine lv_istore_n (lv' := [(3, .int 1), (0, .ref (ad 0)), (1, .int (nI i0)), (2, .int p2)]) hx hb dX1_runs_25 rfl hl (by decide) rfl (fun ls hl => ?_)
    refine lv_iload_n hx hb dX1_runs_26 rfl (lv_at hl 2 rfl) ?_
    refine lv_istore (lv' := [(4, .int (nI i0)), (3, .int 1), (0, .ref (ad 0)), (1, .int (nI i0)), (2, .int p2)]) hx hb dX1_runs_27 hl (by decide) rfl (fun ls hl => ?_)
    exact loop (n + 1) i0 1 hi0 (by omega) (Nat.le_refl _) (qc_mk1 ⟨c_4, fun j g1 g2 => absurd g2 (by omega)⟩) ls (lv_sub hl [2, 3, 4, 1, 0] rfl)
end
section
/-! the model's sorted row as a list -/
def ml (so : Nat → Int32) (hd : Nat) : List Int32 := (List.range hd).map so
def ms_so (so : Nat → Int32) (hd : Nat) : Prop := ∀ i j, i ≤ j → j < hd → so i ≤ so j
def qi_ins (so : Nat → Int32) (hd : Nat) (x : Int32) (u : Nat → Int32) : Prop := ∃ p, p ≤ hd ∧ (p = 0 ∨ so (p - 1) ≤ x) ∧ (∀ j, p ≤ j → j < hd → ¬ so j ≤ x) ∧ (∀ j, j < p → u j = so j) ∧ u p = x ∧ ∀ j, p < j → j ≤ hd → u j = so (j - 1)
theorem qi_end {so g : Nat → Int32} {hd p : Nat} {x : Int32} (h1 : p ≤ hd) (h2 : p = 0 ∨ so (p - 1) ≤ x) (h3 : ∀ j, p ≤ j → j < hd → ¬ so j ≤ x) (h4 : ∀ j, j < p → g j = so j) (h5 : ∀ j, p < j → j ≤ hd → g j = so (j - 1)) : qi_ins so hd x (upd g p x) :=
  ⟨p, h1, h2, h3, fun j hj => by rw [pk_un (by omega)]; exact h4 j hj, pk_us, fun j g1 g2 => by rw [pk_un (by omega)]; exact h5 j g1 g2⟩
theorem ml_s (so : Nat → Int32) (hd : Nat) : ml so (hd + 1) = ml so hd ++ [so hd] := by
  unfold ml
  rw [List.range_succ, List.map_append]
  rfl
theorem qi_perm {so u : Nat → Int32} {hd : Nat} {x : Int32} (h : qi_ins so hd x u) : (ml u (hd + 1)).Perm (ml so hd ++ [x]) := by
  obtain ⟨p, hp, -, -, h4, h5, h6⟩ := h
  obtain ⟨d, rfl⟩ : ∃ d, hd = p + d := ⟨hd - p, by omega⟩
  have e1 : ml so (p + d) = (List.range p).map so ++ (List.range d).map (fun y => so (p + y)) := by
    unfold ml
    rw [List.range_add, List.map_append, List.map_map]; rfl
  have e2 : ml u (p + d + 1) = (List.range p).map so ++ x :: (List.range d).map (fun y => so (p + y)) := by
    unfold ml
    rw [Nat.add_assoc, List.range_add, List.map_append, List.map_map, List.range_succ_eq_map, List.map_cons, List.map_map]
    congr 1
    · exact List.map_congr_left (fun y hy => h4 y (List.mem_range.mp hy))
    · congr 1
      exact List.map_congr_left (fun y hy => by
        have hy := List.mem_range.mp hy
        show u (p + (y + 1)) = so (p + y)
        rw [h6 (p + (y + 1)) (by omega) (by omega)]
        congr 1)
  rw [e1, e2]
  exact List.perm_middle.trans (List.perm_append_singleton _ _).symm
theorem qi_sorted {so u : Nat → Int32} {hd : Nat} {x : Int32} (hs : ms_so so hd) (h : qi_ins so hd x u) : ms_so u (hd + 1) := by
  obtain ⟨p, hp, h2, h3, h4, h5, h6⟩ := h
  have low : ∀ i, i < p → u i ≤ x := fun i hi => by
    rw [h4 i hi]
    rcases h2 with h2 | h2
    · omega
    · exact Int32.le_trans (hs i (p - 1) (by omega) (by omega)) h2
  have high : ∀ i, p < i → i ≤ hd → x ≤ u i := fun i g1 g2 => by
    rw [h6 i g1 g2]
    exact Int32.le_of_lt (Int32.not_le.mp (h3 (i - 1) (by omega) (by omega)))
  intro i j hij hj
  rcases Nat.lt_trichotomy i p with a | a | a
  · rcases Nat.lt_trichotomy j p with c | c | c
    · rw [h4 i a, h4 j c]; exact hs i j hij (by omega)
    · subst c; rw [h5]; exact low i a
    · exact Int32.le_trans (low i a) (high j c (by omega))
  · subst a
    rcases Nat.lt_or_ge i j with c | c
    · rw [h5]; exact high j c (by omega)
    · obtain rfl : j = i := by omega
      exact Int32.le_refl _
  · rw [h6 i a (by omega), h6 j (by omega) (by omega)]
    exact hs (i - 1) (j - 1) (by omega) (by omega)
def mh_ok (v : Nat → Int32) (P : Nat → Prop) (i hd : Nat) (so : Nat → Int32) : Prop := hd ≤ i ∧ ms_so so hd ∧ ∃ f : Nat → Int32, (∀ j, j < i → qc_mk (f j) (P j)) ∧ (ml so hd).Perm (wl v f i)
theorem wl_congr {v f f' : Nat → Int32} : ∀ n, (∀ j, j < n → f j = f' j) → wl v f n = wl v f' n
  | 0, _ => rfl
  | n + 1, h => by rw [wl_s, wl_s, h n (by omega), wl_congr n (fun j hj => h j (by omega))]
theorem mh_0 (v : Nat → Int32) (P : Nat → Prop) (so : Nat → Int32) : mh_ok v P 0 0 so := ⟨Nat.le_refl 0, fun i j _ h => absurd h (Nat.not_lt_zero j), fun _ => 0, fun j h => absurd h (Nat.not_lt_zero j), List.Perm.refl _⟩
theorem mh_no {v : Nat → Int32} {P : Nat → Prop} {i hd : Nat} {so : Nat → Int32} (h : mh_ok v P i hd so) (hp : ¬ P i) : mh_ok v P (i + 1) hd so := by
  obtain ⟨h1, h2, f, h3, h4⟩ := h
  refine ⟨by omega, h2, upd f i 0, qm_step (P := P) h3 (qc_mk0 hp), ?_⟩
  rw [wl_s, if_pos pk_us, wl_congr i (fun j hj => pk_un (by omega))]
  exact h4
theorem mh_yes {v : Nat → Int32} {P : Nat → Prop} {i hd : Nat} {so u : Nat → Int32} (h : mh_ok v P i hd so) (hp : P i) (hu : qi_ins so hd (v i) u) : mh_ok v P (i + 1) (hd + 1) u := by
  obtain ⟨h1, h2, f, h3, h4⟩ := h
  refine ⟨by omega, qi_sorted h2 hu, upd f i 1, qm_step (P := P) h3 (qc_mk1 hp), ?_⟩
  rw [wl_s, if_neg (by rw [pk_us]; decide), wl_congr i (fun j hj => pk_un (by omega))]
  exact (qi_perm hu).trans (List.Perm.append_right _ h4)
/-- most(): (best, often, from) -/
def mo_f (so : Nat → Int32) : Nat → Option Nat × Nat × Nat
  | 0 => (none, 0, 0)
  | k + 1 =>
    let fr := if 0 < k ∧ ¬ so k = so (k - 1) then k else (mo_f so k).2.2
    if (mo_f so k).2.1 < k - fr + 1 then (some fr, k - fr + 1, fr) else ((mo_f so k).1, (mo_f so k).2.1, fr)
theorem mo_st {so : Nat → Int32} {i f9 fr F : Nat} {bo : Option Nat} (hq : mo_f so i = (bo, f9, fr)) (hF : (if 0 < i ∧ ¬ so i = so (i - 1) then i else fr) = F) : mo_f so (i + 1) = if f9 < i - F + 1 then (some F, i - F + 1, F) else (bo, f9, F) := by
  rw [mo_f, hq, ← hF]
theorem mo_in (so : Nat → Int32) : ∀ k, (∀ j, (mo_f so k).1 = some j → j < k) ∧ (mo_f so k).2.1 ≤ k ∧ (mo_f so k).2.2 ≤ k := by
  intro k
  induction k with
  | zero => exact ⟨fun j h => (by cases h), Nat.le_refl 0, Nat.le_refl 0⟩
  | succ k ih =>
    obtain ⟨h1, h2, h3⟩ := ih
    obtain ⟨fr, hfr⟩ : ∃ fr, fr = if 0 < k ∧ ¬ so k = so (k - 1) then k else (mo_f so k).2.2 := ⟨_, rfl⟩
    have hle : fr ≤ k := by
      rw [hfr]
      by_cases c : 0 < k ∧ ¬ so k = so (k - 1)
      · rw [if_pos c]; exact Nat.le_refl k
      · rw [if_neg c]; exact h3
    rw [mo_f, ← hfr]
    by_cases c : (mo_f so k).2.1 < k - fr + 1
    · rw [if_pos c]; exact ⟨fun j h => (by cases h; omega), Nat.succ_le_succ (Nat.sub_le k fr), Nat.le_succ_of_le hle⟩
    · rw [if_neg c]; exact ⟨fun j h => Nat.lt_succ_of_lt (h1 j h), Nat.le_succ_of_le h2, Nat.le_succ_of_le hle⟩
set_option maxRecDepth 100000 in
set_option maxHeartbeats 4000000 in
/-- isIn(w, i) -/
theorem m_isIn (l : Launch) (dC : Nat → ClassId) (dI : Nat → Nat → Nat) (ca : Nat → ClassId) (ad : Nat → Nat) (sz : Nat) (th : Int32) (t : Nat → Int32) (k : Nat → Nat) (v : Nat → Int32) (n : Nat) (nw : Int32) (w : Nat) (kd : Nat → Int32) (ln : Nat → Int32) (hd : Nat) (so : Nat → Int32) (fq : Nat) (wi i0 : Nat) (hn : n ≤ 300) (hk8 : ∀ j, j < n → k j < 8) (hwi : wi < 6) (hi0 : i0 < n) : Met l yX1_isIn wsX1_isIn ({ frames := 1, cells := 0, slots := 0, locals := 24 }) (va_Pc [.ref (ad 0), .int (nI wi), .int (nI i0)] (mdPre dC dI ca ad sz th t k v n nw w kd ln hd so fq)) (vp_Si (fun r => qc_mk r (mi_in t k n nw (kd wi) (ln wi) i0))) 0 0 (fun _ => False) := by
  refine Met.ofW (cc := cX1_isIn) (maxL := 5) (ret := (some .boolean)) (by decide) rfl ?_
  intro p e s m args below meth c s₁ B hml hv
  obtain ⟨rfl, hsz, hP, hK, hD0⟩ := hv
  have hx := B.exec
  have hb := B.bytes
  have hr := B.returns
  have hts := atoms_spec (ws := wsX1_isIn) B.pre
  have hown : s.vm.findClass RX1 = some m.cls := findClass_of_methodNamed B.named
  have hlocks := B.notSynchronized
  subst hsz
  have hin0 : ∀ w ∈ u_ws RX1 TX1 12, w ∈ wsX1_isIn := fun w h => List.mem_cons_of_mem _ (wiX1 w h)
  have fl_7 := hts _ (List.mem_cons_of_mem _ flX1_7)
  have fl_19 := hts _ (List.mem_cons_of_mem _ flX1_19)
  have fl_22 := hts _ (List.mem_cons_of_mem _ flX1_22)
  have fl_32 := hts _ (List.mem_cons_of_mem _ flX1_32)
  have fl_35 := hts _ (List.mem_cons_of_mem _ flX1_35)
  have hD := hD0
  have hl := lv_entry ([.ref (ad 0), .int (nI wi), .int (nI i0)]) (n := 5) (Nat.le_of_ble_eq_true rfl)
  rw [lg_entry_eq]
  generalize (lg_sl ([.ref (ad 0), .int (nI wi), .int (nI i0)]) ++ List.replicate (5 - (lg_sl ([.ref (ad 0), .int (nI wi), .int (nI i0)])).length) Slot.unset).toArray = ls at hl ⊢
  have hl : lv_has ls 5 [(0, .ref (ad 0)), (1, .int (nI wi)), (2, .int (nI i0))] := hl
  refine lv_aload_n hx hb dX1_isIn_0 rfl (lv_at hl 0 rfl) ?_
  refine va_get (D := (dC, dI)) (ci := 1) (v := .ref (ad 5)) (C := RX1) (T := TX1) (N := 12) hx hb hts hin0 hown hK hP 0 rfl rfl 8 (by decide) fl_22 (fun _ h9 => h9) rfl dX1_isIn_1 ?_
  refine lv_iload_n hx hb dX1_isIn_4 rfl (lv_at hl 1 rfl) ?_
  refine ya_iald hx hb hK hP 5 4 rfl rfl (j := wi) hwi (by decide) dX1_isIn_5 ?_
  refine lv_istore_n (lv' := [(3, .int (ln wi)), (0, .ref (ad 0)), (1, .int (nI wi)), (2, .int (nI i0))]) hx hb dX1_isIn_6 rfl hl (by decide) rfl (fun ls hl => ?_)
  refine lv_iload_n hx hb dX1_isIn_7 rfl (lv_at hl 0 rfl) ?_
  have tail : ∀ (ls : Array Slot), lv_has ls 5 [(0, .ref (ad 0)), (1, .int (nI wi)), (2, .int (nI i0)), (3, .int (ln wi)), (4, .int (mr_part (ln wi)))] → W p l e (headSpec wsX1_isIn ({ frames := 1, cells := 0, slots := 0, locals := 24 })).room s m ([.ref (ad 0), .int (nI wi), .int (nI i0)] : List Value).toArray below meth c s.heap [] 0 0 (MQ below (vp_Si (fun r => qc_mk r (mi_in t k n nw (kd wi) (ln wi) i0))) ([.ref (ad 0), .int (nI wi), .int (nI i0)] : List Value).toArray s 0 0 (fun _ => False)) (F0 m 18 ls []) := by
    intro ls hl
    refine lv_aload_n hx hb dX1_isIn_18 rfl (lv_at hl 0 rfl) ?_
    refine va_get (D := (dC, dI)) (ci := 1) (v := .ref (ad 4)) (C := RX1) (T := TX1) (N := 12) hx hb hts hin0 hown hK hP 0 rfl rfl 7 (by decide) fl_19 (fun _ h9 => h9) rfl dX1_isIn_19 ?_
    refine lv_iload_n hx hb dX1_isIn_22 rfl (lv_at hl 1 rfl) ?_
    refine ya_iald hx hb hK hP 4 3 rfl rfl (j := wi) hwi (by decide) dX1_isIn_23 ?_
    by_cases g0 : kd wi = 0
    · refine lv_tableIn (off := 36) (tgt := 60) hx hb dX1_isIn_24 (by rw [g0]; decide) (by rw [g0]; decide) (by rw [g0]; decide) (by decide) ?_
      refine lv_aload_n hx hb dX1_isIn_60 rfl (lv_at hl 0 rfl) ?_
      refine va_get (D := (dC, dI)) (ci := 1) (v := .ref (ad 1)) (C := RX1) (T := TX1) (N := 12) hx hb hts hin0 hown hK hP 0 rfl rfl 2 (by decide) fl_7 (fun _ h9 => h9) rfl dX1_isIn_61 ?_
      refine lv_iload_n hx hb dX1_isIn_64 rfl (lv_at hl 2 rfl) ?_
      refine ya_iald hx hb hK hP 1 0 rfl rfl (j := i0) (by omega) (by decide) dX1_isIn_65 ?_
      refine lv_aload_n hx hb dX1_isIn_66 rfl (lv_at hl 0 rfl) ?_
      refine va_get (D := (dC, dI)) (ci := 1) (v := .int nw) (C := RX1) (T := TX1) (N := 12) hx hb hts hin0 hown hK hP 0 rfl rfl 5 (by decide) fl_35 (fun _ h9 => h9) rfl dX1_isIn_67 ?_
      refine lv_iload_n hx hb dX1_isIn_70 rfl (lv_at hl 3 rfl) ?_
      refine lv_isub hx hb dX1_isIn_71 ?_
      refine lv_icmp_lt (tgt := 79) hx hb dX1_isIn_72 (by decide) (fun c_1 => ?_) (fun c_1 => ?_)
      · refine lv_iconst (v := 0) hx hb dX1_isIn_79 (by decide) ?_
        exact W.zret (v := 0) hx hb hr (by decide) (fun t9 ht hW => ⟨_, rfl, by rw [mi_in, if_pos g0]; exact qc_mk0 (fun q => q c_1), ht⟩) (fun q h => by cases h) dX1_isIn_80
      · refine lv_iconst (v := 1) hx hb dX1_isIn_75 (by decide) ?_
        refine lv_goto (tgt := 80) hx hb dX1_isIn_76 (by decide) ?_
        exact W.zret (v := 1) hx hb hr (by decide) (fun t9 ht hW => ⟨_, rfl, by rw [mi_in, if_pos g0]; exact qc_mk1 c_1, ht⟩) (fun q h => by cases h) dX1_isIn_80
    · skip
      by_cases g1 : kd wi = 1
      · refine lv_tableIn (off := 57) (tgt := 81) hx hb dX1_isIn_24 (by rw [g1]; decide) (by rw [g1]; decide) (by rw [g1]; decide) (by decide) ?_
        refine lv_iload_n hx hb dX1_isIn_81 rfl (lv_at hl 2 rfl) ?_
        refine lv_aload_n hx hb dX1_isIn_82 rfl (lv_at hl 0 rfl) ?_
        refine va_get (D := (dC, dI)) (ci := 1) (v := .int (nI n)) (C := RX1) (T := TX1) (N := 12) hx hb hts hin0 hown hK hP 0 rfl rfl 1 (by decide) fl_32 (fun _ h9 => h9) rfl dX1_isIn_83 ?_
        refine lv_iload_n hx hb dX1_isIn_86 rfl (lv_at hl 3 rfl) ?_
        refine lv_isub hx hb dX1_isIn_87 ?_
        refine lv_icmp_lt (tgt := 95) hx hb dX1_isIn_88 (by decide) (fun c_2 => ?_) (fun c_2 => ?_)
        · refine lv_iconst (v := 0) hx hb dX1_isIn_95 (by decide) ?_
          exact W.zret (v := 0) hx hb hr (by decide) (fun t9 ht hW => ⟨_, rfl, by rw [mi_in, if_neg g0, if_pos g1]; exact qc_mk0 (fun q => q c_2), ht⟩) (fun q h => by cases h) dX1_isIn_96
        · refine lv_iconst (v := 1) hx hb dX1_isIn_91 (by decide) ?_
          refine lv_goto (tgt := 96) hx hb dX1_isIn_92 (by decide) ?_
          exact W.zret (v := 1) hx hb hr (by decide) (fun t9 ht hW => ⟨_, rfl, by rw [mi_in, if_neg g0, if_pos g1]; exact qc_mk1 c_2, ht⟩) (fun q h => by cases h) dX1_isIn_96
      · skip
        by_cases g2 : kd wi = 2
        · refine lv_tableIn (off := 73) (tgt := 97) hx hb dX1_isIn_24 (by rw [g2]; decide) (by rw [g2]; decide) (by rw [g2]; decide) (by decide) ?_
          refine lv_aload_n hx hb dX1_isIn_97 rfl (lv_at hl 0 rfl) ?_
          refine lv_iload_n hx hb dX1_isIn_98 rfl (lv_at hl 2 rfl) ?_
          refine vp_callSi (W.runV (As := [.int (nI i0)]) (rest := []) ⟨hx, hb, hml, hown, hts⟩ (m_behindOfKey l dC dI ca ad _ th t k v n nw w kd ln hd so fq i0  hn hk8 hi0) (cwV 1 hts (gg_V mlX1_50 imX1_behindOfKey seX1_behindOfKey in_WindowMetersModel kwX1_behindOfKey) rfl rfl rfl (by decide +kernel) ⟨Nat.le_of_ble_eq_true rfl, Nat.le_of_ble_eq_true rfl⟩) (md_preV hK hP hD [.int (nI i0)]) rfl rfl hl.1 rfl (lv_room (Nat.le_of_ble_eq_true rfl)) dX1_isIn_99 ⟨Nat.le_of_ble_eq_true rfl, Nat.le_of_ble_eq_true rfl⟩) (fun r_3 hr_4 => ?_)
          subst hr_4
          refine lv_iload_n hx hb dX1_isIn_102 rfl (lv_at hl 3 rfl) ?_
          refine lv_icmp_ge (tgt := 110) hx hb dX1_isIn_103 (by decide) (fun c_5 => ?_) (fun c_5 => ?_)
          · refine lv_iconst (v := 0) hx hb dX1_isIn_110 (by decide) ?_
            exact W.zret (v := 0) hx hb hr (by decide) (fun t9 ht hW => ⟨_, rfl, by rw [mi_in, if_neg g0, if_neg g1, if_pos g2]; exact qc_mk0 (Int32.not_lt.mpr c_5), ht⟩) (fun q h => by cases h) dX1_isIn_111
          · refine lv_iconst (v := 1) hx hb dX1_isIn_106 (by decide) ?_
            refine lv_goto (tgt := 111) hx hb dX1_isIn_107 (by decide) ?_
            exact W.zret (v := 1) hx hb hr (by decide) (fun t9 ht hW => ⟨_, rfl, by rw [mi_in, if_neg g0, if_neg g1, if_pos g2]; exact qc_mk1 (Int32.not_le.mp c_5), ht⟩) (fun q h => by cases h) dX1_isIn_111
        · skip
          by_cases g3 : kd wi = 3
          · refine lv_tableIn (off := 88) (tgt := 112) hx hb dX1_isIn_24 (by rw [g3]; decide) (by rw [g3]; decide) (by rw [g3]; decide) (by decide) ?_
            refine lv_aload_n hx hb dX1_isIn_112 rfl (lv_at hl 0 rfl) ?_
            refine va_get (D := (dC, dI)) (ci := 1) (v := .ref (ad 1)) (C := RX1) (T := TX1) (N := 12) hx hb hts hin0 hown hK hP 0 rfl rfl 2 (by decide) fl_7 (fun _ h9 => h9) rfl dX1_isIn_113 ?_
            refine lv_iload_n hx hb dX1_isIn_116 rfl (lv_at hl 2 rfl) ?_
            refine ya_iald hx hb hK hP 1 0 rfl rfl (j := i0) (by omega) (by decide) dX1_isIn_117 ?_
            refine lv_iload hx hb dX1_isIn_118 (lv_at hl 4 rfl) ?_
            refine lv_idiv hx hb dX1_isIn_120 (mr_part_ne _) ?_
            refine lv_aload_n hx hb dX1_isIn_121 rfl (lv_at hl 0 rfl) ?_
            refine va_get (D := (dC, dI)) (ci := 1) (v := .int nw) (C := RX1) (T := TX1) (N := 12) hx hb hts hin0 hown hK hP 0 rfl rfl 5 (by decide) fl_35 (fun _ h9 => h9) rfl dX1_isIn_122 ?_
            refine lv_iload hx hb dX1_isIn_125 (lv_at hl 4 rfl) ?_
            refine lv_idiv hx hb dX1_isIn_127 (mr_part_ne _) ?_
            refine lv_icmp_ne (tgt := 135) hx hb dX1_isIn_128 (by decide) (fun c_6 => ?_) (fun c_6 => ?_)
            · refine lv_iconst (v := 0) hx hb dX1_isIn_135 (by decide) ?_
              exact W.zret (v := 0) hx hb hr (by decide) (fun t9 ht hW => ⟨_, rfl, by rw [mi_in, if_neg g0, if_neg g1, if_neg g2, if_pos g3]; exact qc_mk0 c_6, ht⟩) (fun q h => by cases h) dX1_isIn_136
            · refine lv_iconst (v := 1) hx hb dX1_isIn_131 (by decide) ?_
              refine lv_goto (tgt := 136) hx hb dX1_isIn_132 (by decide) ?_
              exact W.zret (v := 1) hx hb hr (by decide) (fun t9 ht hW => ⟨_, rfl, by rw [mi_in, if_neg g0, if_neg g1, if_neg g2, if_pos g3]; exact qc_mk1 c_6, ht⟩) (fun q h => by cases h) dX1_isIn_136
          · skip
            by_cases g4 : kd wi = 4
            · refine lv_tableIn (off := 113) (tgt := 137) hx hb dX1_isIn_24 (by rw [g4]; decide) (by rw [g4]; decide) (by rw [g4]; decide) (by decide) ?_
              refine lv_aload_n hx hb dX1_isIn_137 rfl (lv_at hl 0 rfl) ?_
              refine lv_iload_n hx hb dX1_isIn_138 rfl (lv_at hl 2 rfl) ?_
              refine lv_iload_n hx hb dX1_isIn_139 rfl (lv_at hl 3 rfl) ?_
              obtain ⟨n1, rfl⟩ : ∃ n1, n = n1 + 1 := ⟨n - 1, by omega⟩
              refine vp_callSi (W.runV (As := [.int (nI i0), .int (ln wi)]) (rest := []) ⟨hx, hb, hml, hown, hts⟩ (m_runs l dC dI ca ad _ th t k v n1 nw w kd ln hd so fq i0 (ln wi) (by omega) (by omega)) (cwV 2 hts (gg_V mlX1_54 imX1_runs seX1_runs in_WindowMetersModel kwX1_runs) rfl rfl rfl (by decide +kernel) ⟨Nat.le_of_ble_eq_true rfl, Nat.le_of_ble_eq_true rfl⟩) (md_preV hK hP hD [.int (nI i0), .int (ln wi)]) rfl rfl hl.1 rfl (lv_room (Nat.le_of_ble_eq_true rfl)) dX1_isIn_140 ⟨Nat.le_of_ble_eq_true rfl, Nat.le_of_ble_eq_true rfl⟩) (fun r9 hr9 => ?_)
              exact W.zret (v := r9) hx hb hr (mk_bool hr9) (fun t9 ht hW => ⟨_, rfl, by rw [mi_in, if_neg g0, if_neg g1, if_neg g2, if_neg g3, if_pos g4]; exact hr9, ht⟩) (fun q h => by cases h) dX1_isIn_143
            · skip
              refine lv_tableOut (tgt := 144) hx hb dX1_isIn_24 (yt_out g0 g1 g2 g3 g4) (by decide) ?_
              refine lv_aload_n hx hb dX1_isIn_144 rfl (lv_at hl 0 rfl) ?_
              refine va_get (D := (dC, dI)) (ci := 1) (v := .ref (ad 1)) (C := RX1) (T := TX1) (N := 12) hx hb hts hin0 hown hK hP 0 rfl rfl 2 (by decide) fl_7 (fun _ h9 => h9) rfl dX1_isIn_145 ?_
              refine lv_iload_n hx hb dX1_isIn_148 rfl (lv_at hl 2 rfl) ?_
              refine ya_iald hx hb hK hP 1 0 rfl rfl (j := i0) (by omega) (by decide) dX1_isIn_149 ?_
              refine lv_aload_n hx hb dX1_isIn_150 rfl (lv_at hl 0 rfl) ?_
              refine va_get (D := (dC, dI)) (ci := 1) (v := .int nw) (C := RX1) (T := TX1) (N := 12) hx hb hts hin0 hown hK hP 0 rfl rfl 5 (by decide) fl_35 (fun _ h9 => h9) rfl dX1_isIn_151 ?_
              refine lv_iload_n hx hb dX1_isIn_154 rfl (lv_at hl 3 rfl) ?_
              refine lv_isub hx hb dX1_isIn_155 ?_
              refine lv_icmp_ge (tgt := 163) hx hb dX1_isIn_156 (by decide) (fun c_7 => ?_) (fun c_7 => ?_)
              · refine lv_iconst (v := 0) hx hb dX1_isIn_163 (by decide) ?_
                exact W.zret (v := 0) hx hb hr (by decide) (fun t9 ht hW => ⟨_, rfl, by rw [mi_in, if_neg g0, if_neg g1, if_neg g2, if_neg g3, if_neg g4]; exact qc_mk0 (Int32.not_lt.mpr c_7), ht⟩) (fun q h => by cases h) dX1_isIn_164
              · refine lv_iconst (v := 1) hx hb dX1_isIn_159 (by decide) ?_
                refine lv_goto (tgt := 164) hx hb dX1_isIn_160 (by decide) ?_
                exact W.zret (v := 1) hx hb hr (by decide) (fun t9 ht hW => ⟨_, rfl, by rw [mi_in, if_neg g0, if_neg g1, if_neg g2, if_neg g3, if_neg g4]; exact qc_mk1 (Int32.not_le.mp c_7), ht⟩) (fun q h => by cases h) dX1_isIn_164
  refine lv_if_ne (tgt := 15) hx hb dX1_isIn_8 (by decide) (fun c_8 => ?_) (fun c_8 => ?_)
  · refine lv_iload_n hx hb dX1_isIn_15 rfl (lv_at hl 0 rfl) ?_
    refine W.eq (g2 := F0 m 16 ls [.int (mr_part (ln wi))]) (by rw [mr_part, if_neg c_8]) ?_
    refine lv_istore (lv' := [(4, .int (mr_part (ln wi))), (3, .int (ln wi)), (0, .ref (ad 0)), (1, .int (nI wi)), (2, .int (nI i0))]) hx hb dX1_isIn_16 hl (by decide) rfl (fun ls hl => ?_)
    exact tail ls (lv_sub hl [2, 3, 4, 1, 0] rfl)
  · refine lv_iconst (v := 1) hx hb dX1_isIn_11 (by decide) ?_
    refine lv_goto (tgt := 16) hx hb dX1_isIn_12 (by decide) ?_
    refine W.eq (g2 := F0 m 16 ls [.int (mr_part (ln wi))]) (by rw [mr_part, if_pos c_8]) ?_
    refine lv_istore (lv' := [(4, .int (mr_part (ln wi))), (3, .int (ln wi)), (0, .ref (ad 0)), (1, .int (nI wi)), (2, .int (nI i0))]) hx hb dX1_isIn_16 hl (by decide) rfl (fun ls hl => ?_)
    exact tail ls (lv_sub hl [2, 3, 4, 1, 0] rfl)

set_option maxRecDepth 100000 in
set_option maxHeartbeats 4000000 in
/-- hold(w) -/
theorem m_hold (l : Launch) (dC : Nat → ClassId) (dI : Nat → Nat → Nat) (ca : Nat → ClassId) (ad : Nat → Nat) (sz : Nat) (th : Int32) (t : Nat → Int32) (k : Nat → Nat) (v : Nat → Int32) (n : Nat) (nw : Int32) (w : Nat) (kd : Nat → Int32) (ln : Nat → Int32) (hd : Nat) (so : Nat → Int32) (fq : Nat) (wi : Nat) (hn : n ≤ 300) (hk8 : ∀ j, j < n → k j < 8) (hwi : wi < 6) : Met l yX1_hold wsX1_hold ({ frames := 2, cells := 0, slots := 0, locals := 48 }) (va_Pc [.ref (ad 0), .int (nI wi)] (mdPre dC dI ca ad sz th t k v n nw w kd ln hd so fq)) (va_Qv (fun u : Nat × (Nat → Int32) => mh_ok v (fun j => mi_in t k n nw (kd wi) (ln wi) j) n u.1 u.2) (fun u t9 => mdAt dC dI ca ad (va_A (md ca ad th t k v n nw w kd ln hd so fq) sz) th t k v n nw w kd ln u.1 u.2 fq t9) (va_A (md ca ad th t k v n nw w kd ln hd so fq) sz)) 0 0 (va_A (md ca ad th t k v n nw w kd ln hd so fq) sz) := by
  refine Met.ofW (cc := cX1_hold) (maxL := 4) (ret := none) (by decide) rfl ?_
  intro p e s m args below meth c s₁ B hml hv
  obtain ⟨rfl, hsz, hP, hK, hD0⟩ := hv
  have hx := B.exec
  have hb := B.bytes
  have hr := B.returns
  have hts := atoms_spec (ws := wsX1_hold) B.pre
  have hown : s.vm.findClass RX1 = some m.cls := findClass_of_methodNamed B.named
  have hlocks := B.notSynchronized
  subst hsz
  have hin0 : ∀ w ∈ u_ws RX1 TX1 12, w ∈ wsX1_hold := fun w h => List.mem_cons_of_mem _ (wiX1 w h)
  have fl_16 := hts _ (List.mem_cons_of_mem _ flX1_16)
  have fl_25 := hts _ (List.mem_cons_of_mem _ flX1_25)
  have fl_32 := hts _ (List.mem_cons_of_mem _ flX1_32)
  have fl_58 := hts _ (List.mem_cons_of_mem _ flX1_58)
  have hD := hD0.self (sz := s.heap.size)
  generalize hAe : va_A (md ca ad th t k v n nw w kd ln hd so fq) s.heap.size = A at hD ⊢
  have hA : ∀ q : Nat, s.heap.size ≤ q → A q := fun q h => by rw [← hAe]; exact Or.inr h
  have hS : va_S A s.heap s.heap [] := va_S.rf
  have hl := lv_entry ([.ref (ad 0), .int (nI wi)]) (n := 4) (Nat.le_of_ble_eq_true rfl)
  rw [lg_entry_eq]
  generalize (lg_sl ([.ref (ad 0), .int (nI wi)]) ++ List.replicate (4 - (lg_sl ([.ref (ad 0), .int (nI wi)])).length) Slot.unset).toArray = ls at hl ⊢
  have hl : lv_has ls 4 [(0, .ref (ad 0)), (1, .int (nI wi))] := hl
  refine lv_aload_n hx hb dX1_hold_0 rfl (lv_at hl 0 rfl) ?_
  refine lv_iconst (v := 0) hx hb dX1_hold_1 (by decide) ?_
  refine va_put (D := (dC, dI)) (ci := 1) (v := .int 0) (ty := .int) (C := RX1) (T := TX1) (N := 12) hx hb hts hin0 tyX1 tyX1_ok nmX1 hown hK hP hD hS 0 rfl rfl 9 (by decide) fl_58 (fun _ h9 => h9) rfl (by decide +kernel) rfl rfl (Nat.le_of_ble_eq_true rfl) dX1_hold_2 (fun H locs hP hD hS => ?_)
  have hP : va_P (dC, dI) vwCl (md ca ad th t k v n nw w kd ln 0 so fq) H := hP
  have hD : va_D A (md ca ad th t k v n nw w kd ln 0 so fq) := hD
  refine lv_iconst (v := 0) hx hb dX1_hold_5 (by decide) ?_
  refine lv_istore_n (lv' := [(2, .int 0), (0, .ref (ad 0)), (1, .int (nI wi))]) hx hb dX1_hold_6 rfl hl (by decide) rfl (fun ls hl => ?_)
  have loop : ∀ (d i : Nat), i ≤ n → n + 1 ≤ i + d → ∀ (h9 : Nat) (g : Nat → Int32) (H : Heap) (locs : List Loc), va_P (dC, dI) vwCl (md ca ad th t k v n nw w kd ln h9 g fq) H → va_D A (md ca ad th t k v n nw w kd ln h9 g fq) → va_S A s.heap H locs → (mh_ok v (fun j => mi_in t k n nw (kd wi) (ln wi) j) i h9 g) → ∀ (ls : Array Slot), lv_has ls 4 [(0, .ref (ad 0)), (1, .int (nI wi)), (2, .int (nI i))] → W p l e (headSpec wsX1_hold ({ frames := 2, cells := 0, slots := 0, locals := 48 })).room s m ([.ref (ad 0), .int (nI wi)] : List Value).toArray below meth c H locs 0 0 (MQ below (va_Qv (fun u : Nat × (Nat → Int32) => mh_ok v (fun j => mi_in t k n nw (kd wi) (ln wi) j) n u.1 u.2) (fun u t9 => mdAt dC dI ca ad A th t k v n nw w kd ln u.1 u.2 fq t9) A) ([.ref (ad 0), .int (nI wi)] : List Value).toArray s 0 0 A) (F0 m 7 ls []) := by
    intro d
    induction d with
    | zero =>
      intro i hi hfu
      exact absurd hfu (by omega)
    | succ d ih =>
      intro i hi hfu h9 g H locs hP hD hS hok ls hl
      have hh9 : h9 ≤ i := hok.1
      refine lv_iload_n hx hb dX1_hold_7 rfl (lv_at hl 2 rfl) ?_
      refine lv_aload_n hx hb dX1_hold_8 rfl (lv_at hl 0 rfl) ?_
      refine va_get (D := (dC, dI)) (ci := 1) (v := .int (nI n)) (C := RX1) (T := TX1) (N := 12) hx hb hts hin0 hown hK hP 0 rfl rfl 1 (by decide) fl_32 (fun _ h9 => h9) rfl dX1_hold_9 ?_
      refine yb_ge (tgt := 98) (by omega) (by omega) hx hb dX1_hold_12 (by decide) (fun c_1 => ?_) (fun c_1 => ?_)
      · obtain rfl : i = n := by omega
        exact W.vret hx hb hr (fun t9 ht hW => ⟨⟨(h9, g), rfl, hok, by rw [ht]; exact hP, va_K.moved hW.alike hK, hD⟩, hS.F ht⟩) hS.2.2 dX1_hold_98
      · refine lv_aload_n hx hb dX1_hold_15 rfl (lv_at hl 0 rfl) ?_
        refine lv_iload_n hx hb dX1_hold_16 rfl (lv_at hl 1 rfl) ?_
        refine lv_iload_n hx hb dX1_hold_17 rfl (lv_at hl 2 rfl) ?_
        refine vp_callSi (W.runV (As := [.int (nI wi), .int (nI i)]) (rest := []) ⟨hx, hb, hml, hown, hts⟩ (m_isIn l dC dI ca ad _ th t k v n nw w kd ln h9 g fq wi i  hn hk8 hwi c_1) (cwV 2 hts (gg_V mlX1_61 imX1_isIn seX1_isIn in_WindowMetersModel kwX1_isIn) rfl rfl rfl (by decide +kernel) ⟨Nat.le_of_ble_eq_true rfl, Nat.le_of_ble_eq_true rfl⟩) (md_preV hK hP hD [.int (nI wi), .int (nI i)]) rfl rfl hl.1 rfl (lv_room (Nat.le_of_ble_eq_true rfl)) dX1_hold_18 ⟨Nat.le_of_ble_eq_true rfl, Nat.le_of_ble_eq_true rfl⟩) (fun r_2 hr_3 => ?_)
        refine lv_if_eq (tgt := 92) hx hb dX1_hold_21 (by decide) (fun c_4 => ?_) (fun c_4 => ?_)
        · refine lv_iinc (v := (nI (i + 1))) (lv' := [(2, .int (nI (i + 1))), (0, .ref (ad 0)), (1, .int (nI wi))]) hx hb dX1_hold_92 hl (k := 2) rfl (yn_inc _) (by decide) rfl (fun ls hl => ?_)
          refine lv_goto (tgt := 7) hx hb dX1_hold_95 (by decide) ?_
          exact ih (i + 1) (by omega) (by omega) _ _ _ _ hP hD hS (mh_no hok (mk_z hr_3 c_4)) ls (lv_sub hl [1, 2, 0] rfl)
        · refine lv_aload_n hx hb dX1_hold_24 rfl (lv_at hl 0 rfl) ?_
          refine va_get (D := (dC, dI)) (ci := 1) (v := .int (nI h9)) (C := RX1) (T := TX1) (N := 12) hx hb hts hin0 hown hK hP 0 rfl rfl 9 (by decide) fl_58 (fun _ h9 => h9) rfl dX1_hold_25 ?_
          refine lv_istore_n (lv' := [(3, .int (nI h9)), (0, .ref (ad 0)), (1, .int (nI wi)), (2, .int (nI i))]) hx hb dX1_hold_28 rfl hl (by decide) rfl (fun ls hl => ?_)
          have inner : ∀ (p0 : Nat), p0 ≤ h9 → ∀ (g2 : Nat → Int32) (H : Heap) (locs : List Loc), va_P (dC, dI) vwCl (md ca ad th t k v n nw w kd ln h9 g2 fq) H → va_D A (md ca ad th t k v n nw w kd ln h9 g2 fq) → va_S A s.heap H locs → (∀ j, p0 ≤ j → j < h9 → ¬ g j ≤ v i) → (∀ j, j < p0 → g2 j = g j) → (∀ j, p0 < j → j ≤ h9 → g2 j = g (j - 1)) → ∀ (ls : Array Slot), lv_has ls 4 [(0, .ref (ad 0)), (1, .int (nI wi)), (2, .int (nI i)), (3, .int (nI p0))] → W p l e (headSpec wsX1_hold ({ frames := 2, cells := 0, slots := 0, locals := 48 })).room s m ([.ref (ad 0), .int (nI wi)] : List Value).toArray below meth c H locs 0 0 (MQ below (va_Qv (fun u : Nat × (Nat → Int32) => mh_ok v (fun j => mi_in t k n nw (kd wi) (ln wi) j) n u.1 u.2) (fun u t9 => mdAt dC dI ca ad A th t k v n nw w kd ln u.1 u.2 fq t9) A) ([.ref (ad 0), .int (nI wi)] : List Value).toArray s 0 0 A) (F0 m 29 ls []) := by
            intro p0
            induction p0 with
            | zero =>
              intro hi2 g2 H locs hP hD hS h3 h4 h5 ls hl
              refine lv_iload_n hx hb dX1_hold_29 rfl (lv_at hl 3 rfl) ?_
              refine lv_if_le (tgt := 70) hx hb dX1_hold_30 (by decide) (fun c_5 => ?_) (fun c_5 => ?_)
              · refine lv_aload_n hx hb dX1_hold_70 rfl (lv_at hl 0 rfl) ?_
                refine va_get (D := (dC, dI)) (ci := 1) (v := .ref (ad 6)) (C := RX1) (T := TX1) (N := 12) hx hb hts hin0 hown hK hP 0 rfl rfl 10 (by decide) fl_25 (fun _ h9 => h9) rfl dX1_hold_71 ?_
                refine lv_iload_n hx hb dX1_hold_74 rfl (lv_at hl 3 rfl) ?_
                refine lv_aload_n hx hb dX1_hold_75 rfl (lv_at hl 0 rfl) ?_
                refine va_get (D := (dC, dI)) (ci := 1) (v := .ref (ad 3)) (C := RX1) (T := TX1) (N := 12) hx hb hts hin0 hown hK hP 0 rfl rfl 4 (by decide) fl_16 (fun _ h9 => h9) rfl dX1_hold_76 ?_
                refine lv_iload_n hx hb dX1_hold_79 rfl (lv_at hl 2 rfl) ?_
                refine ya_iald hx hb hK hP 3 2 rfl rfl (j := i) (by omega) (by decide) dX1_hold_80 ?_
                refine ya_iast hx hb hK hP hD hS 6 5 rfl rfl (j := 0) (by decide) (by decide) dX1_hold_81 (fun H locs hP hD hS => ?_)
                have hP : va_P (dC, dI) vwCl (md ca ad th t k v n nw w kd ln h9 (upd g2 0 (v i)) fq) H := hP
                have hD : va_D A (md ca ad th t k v n nw w kd ln h9 (upd g2 0 (v i)) fq) := hD
                refine lv_aload_n hx hb dX1_hold_82 rfl (lv_at hl 0 rfl) ?_
                refine lv_dup hx hb dX1_hold_83 rfl ?_
                refine va_get (D := (dC, dI)) (ci := 1) (v := .int (nI h9)) (C := RX1) (T := TX1) (N := 12) hx hb hts hin0 hown hK hP 0 rfl rfl 9 (by decide) fl_58 (fun _ h9 => h9) rfl dX1_hold_84 ?_
                refine lv_iconst (v := 1) hx hb dX1_hold_87 (by decide) ?_
                refine lv_iadd hx hb dX1_hold_88 ?_
                rw [nI_1 h9]
                refine va_put (D := (dC, dI)) (ci := 1) (v := .int (nI (h9 + 1))) (ty := .int) (C := RX1) (T := TX1) (N := 12) hx hb hts hin0 tyX1 tyX1_ok nmX1 hown hK hP hD hS 0 rfl rfl 9 (by decide) fl_58 (fun _ h9 => h9) rfl (by decide +kernel) rfl rfl (Nat.le_of_ble_eq_true rfl) dX1_hold_89 (fun H locs hP hD hS => ?_)
                have hP : va_P (dC, dI) vwCl (md ca ad th t k v n nw w kd ln (h9 + 1) (upd g2 0 (v i)) fq) H := hP
                have hD : va_D A (md ca ad th t k v n nw w kd ln (h9 + 1) (upd g2 0 (v i)) fq) := hD
                refine lv_iinc (v := (nI (i + 1))) (lv' := [(2, .int (nI (i + 1))), (0, .ref (ad 0)), (1, .int (nI wi)), (3, .int (nI 0))]) hx hb dX1_hold_92 hl (k := 2) rfl (yn_inc _) (by decide) rfl (fun ls hl => ?_)
                refine lv_goto (tgt := 7) hx hb dX1_hold_95 (by decide) ?_
                exact ih (i + 1) (by omega) (by omega) _ _ _ _ hP hD hS (mh_yes hok (mk_nz hr_3 c_4) (qi_end (by omega) (Or.inl rfl) h3 h4 h5)) ls (lv_sub hl [1, 2, 0] rfl)
              · exact absurd (by decide) c_5
            | succ p0 ih2 =>
              intro hi2 g2 H locs hP hD hS h3 h4 h5 ls hl
              have hg : g2 p0 = g p0 := h4 p0 (by omega)
              refine lv_iload_n hx hb dX1_hold_29 rfl (lv_at hl 3 rfl) ?_
              refine lv_if_le (tgt := 70) hx hb dX1_hold_30 (by decide) (fun c_6 => ?_) (fun c_6 => ?_)
              · exact absurd c_6 (nI_nle (by omega) (by omega))
              · refine lv_aload_n hx hb dX1_hold_33 rfl (lv_at hl 0 rfl) ?_
                refine va_get (D := (dC, dI)) (ci := 1) (v := .ref (ad 6)) (C := RX1) (T := TX1) (N := 12) hx hb hts hin0 hown hK hP 0 rfl rfl 10 (by decide) fl_25 (fun _ h9 => h9) rfl dX1_hold_34 ?_
                refine lv_iload_n hx hb dX1_hold_37 rfl (lv_at hl 3 rfl) ?_
                refine lv_iconst (v := 1) hx hb dX1_hold_38 (by decide) ?_
                refine lv_isub hx hb dX1_hold_39 ?_
                rw [nI_pred p0]
                refine ya_iald hx hb hK hP 6 5 rfl rfl (j := p0) (by omega) (by decide) dX1_hold_40 ?_
                refine lv_aload_n hx hb dX1_hold_41 rfl (lv_at hl 0 rfl) ?_
                refine va_get (D := (dC, dI)) (ci := 1) (v := .ref (ad 3)) (C := RX1) (T := TX1) (N := 12) hx hb hts hin0 hown hK hP 0 rfl rfl 4 (by decide) fl_16 (fun _ h9 => h9) rfl dX1_hold_42 ?_
                refine lv_iload_n hx hb dX1_hold_45 rfl (lv_at hl 2 rfl) ?_
                refine ya_iald hx hb hK hP 3 2 rfl rfl (j := i) (by omega) (by decide) dX1_hold_46 ?_
                refine lv_icmp_le (tgt := 70) hx hb dX1_hold_47 (by decide) (fun c_7 => ?_) (fun c_7 => ?_)
                · refine lv_aload_n hx hb dX1_hold_70 rfl (lv_at hl 0 rfl) ?_
                  refine va_get (D := (dC, dI)) (ci := 1) (v := .ref (ad 6)) (C := RX1) (T := TX1) (N := 12) hx hb hts hin0 hown hK hP 0 rfl rfl 10 (by decide) fl_25 (fun _ h9 => h9) rfl dX1_hold_71 ?_
                  refine lv_iload_n hx hb dX1_hold_74 rfl (lv_at hl 3 rfl) ?_
                  refine lv_aload_n hx hb dX1_hold_75 rfl (lv_at hl 0 rfl) ?_
                  refine va_get (D := (dC, dI)) (ci := 1) (v := .ref (ad 3)) (C := RX1) (T := TX1) (N := 12) hx hb hts hin0 hown hK hP 0 rfl rfl 4 (by decide) fl_16 (fun _ h9 => h9) rfl dX1_hold_76 ?_
                  refine lv_iload_n hx hb dX1_hold_79 rfl (lv_at hl 2 rfl) ?_
                  refine ya_iald hx hb hK hP 3 2 rfl rfl (j := i) (by omega) (by decide) dX1_hold_80 ?_
                  refine ya_iast hx hb hK hP hD hS 6 5 rfl rfl (j := (p0 + 1)) (by omega) (by decide) dX1_hold_81 (fun H locs hP hD hS => ?_)
                  have hP : va_P (dC, dI) vwCl (md ca ad th t k v n nw w kd ln h9 (upd g2 (p0 + 1) (v i)) fq) H := hP
                  have hD : va_D A (md ca ad th t k v n nw w kd ln h9 (upd g2 (p0 + 1) (v i)) fq) := hD
                  refine lv_aload_n hx hb dX1_hold_82 rfl (lv_at hl 0 rfl) ?_
                  refine lv_dup hx hb dX1_hold_83 rfl ?_
                  refine va_get (D := (dC, dI)) (ci := 1) (v := .int (nI h9)) (C := RX1) (T := TX1) (N := 12) hx hb hts hin0 hown hK hP 0 rfl rfl 9 (by decide) fl_58 (fun _ h9 => h9) rfl dX1_hold_84 ?_
                  refine lv_iconst (v := 1) hx hb dX1_hold_87 (by decide) ?_
                  refine lv_iadd hx hb dX1_hold_88 ?_
                  rw [nI_1 h9]
                  refine va_put (D := (dC, dI)) (ci := 1) (v := .int (nI (h9 + 1))) (ty := .int) (C := RX1) (T := TX1) (N := 12) hx hb hts hin0 tyX1 tyX1_ok nmX1 hown hK hP hD hS 0 rfl rfl 9 (by decide) fl_58 (fun _ h9 => h9) rfl (by decide +kernel) rfl rfl (Nat.le_of_ble_eq_true rfl) dX1_hold_89 (fun H locs hP hD hS => ?_)
                  have hP : va_P (dC, dI) vwCl (md ca ad th t k v n nw w kd ln (h9 + 1) (upd g2 (p0 + 1) (v i)) fq) H := hP
                  have hD : va_D A (md ca ad th t k v n nw w kd ln (h9 + 1) (upd g2 (p0 + 1) (v i)) fq) := hD
                  refine lv_iinc (v := (nI (i + 1))) (lv' := [(2, .int (nI (i + 1))), (0, .ref (ad 0)), (1, .int (nI wi)), (3, .int (nI (p0 + 1)))]) hx hb dX1_hold_92 hl (k := 2) rfl (yn_inc _) (by decide) rfl (fun ls hl => ?_)
                  refine lv_goto (tgt := 7) hx hb dX1_hold_95 (by decide) ?_
                  exact ih (i + 1) (by omega) (by omega) _ _ _ _ hP hD hS (mh_yes hok (mk_nz hr_3 c_4) (qi_end (by omega) (Or.inr (by rw [show p0 + 1 - 1 = p0 from rfl, ← hg]; exact c_7)) h3 h4 h5)) ls (lv_sub hl [1, 2, 0] rfl)
                · refine lv_aload_n hx hb dX1_hold_50 rfl (lv_at hl 0 rfl) ?_
                  refine va_get (D := (dC, dI)) (ci := 1) (v := .ref (ad 6)) (C := RX1) (T := TX1) (N := 12) hx hb hts hin0 hown hK hP 0 rfl rfl 10 (by decide) fl_25 (fun _ h9 => h9) rfl dX1_hold_51 ?_
                  refine lv_iload_n hx hb dX1_hold_54 rfl (lv_at hl 3 rfl) ?_
                  refine lv_aload_n hx hb dX1_hold_55 rfl (lv_at hl 0 rfl) ?_
                  refine va_get (D := (dC, dI)) (ci := 1) (v := .ref (ad 6)) (C := RX1) (T := TX1) (N := 12) hx hb hts hin0 hown hK hP 0 rfl rfl 10 (by decide) fl_25 (fun _ h9 => h9) rfl dX1_hold_56 ?_
                  refine lv_iload_n hx hb dX1_hold_59 rfl (lv_at hl 3 rfl) ?_
                  refine lv_iconst (v := 1) hx hb dX1_hold_60 (by decide) ?_
                  refine lv_isub hx hb dX1_hold_61 ?_
                  rw [nI_pred p0]
                  refine ya_iald hx hb hK hP 6 5 rfl rfl (j := p0) (by omega) (by decide) dX1_hold_62 ?_
                  refine ya_iast hx hb hK hP hD hS 6 5 rfl rfl (j := (p0 + 1)) (by omega) (by decide) dX1_hold_63 (fun H locs hP hD hS => ?_)
                  have hP : va_P (dC, dI) vwCl (md ca ad th t k v n nw w kd ln h9 (upd g2 (p0 + 1) (g2 p0)) fq) H := hP
                  have hD : va_D A (md ca ad th t k v n nw w kd ln h9 (upd g2 (p0 + 1) (g2 p0)) fq) := hD
                  refine lv_iinc (v := (nI p0)) (lv' := [(3, .int (nI p0)), (0, .ref (ad 0)), (1, .int (nI wi)), (2, .int (nI i))]) hx hb dX1_hold_64 hl (k := 3) rfl (yn_dec _) (by decide) rfl (fun ls hl => ?_)
                  refine lv_goto (tgt := 29) hx hb dX1_hold_67 (by decide) ?_
                  exact ih2 (by omega) _ _ _ hP hD hS (fun j g1 g2 => by
                    rcases Nat.lt_or_ge p0 j with g3 | g3
                    · exact h3 j g3 g2
                    · obtain rfl : j = p0 := by omega
                      rw [← hg]; exact c_7) (fun j g1 => by rw [pk_un (by omega)]; exact h4 j (by omega)) (fun j g1 g2 => by
                    by_cases g3 : j = p0 + 1
                    · subst g3; rw [pk_us, hg]; rfl
                    · rw [pk_un g3]; exact h5 j (by omega) g2) ls (lv_sub hl [1, 2, 3, 0] rfl)
          exact inner h9 (Nat.le_refl h9) _ _ _ hP hD hS (fun j g1 g2 => absurd g2 (by omega)) (fun j _ => rfl) (fun j g1 g2 => absurd g2 (by omega)) ls (lv_sub hl [1, 2, 3, 0] rfl)
  exact loop (n + 1) 0 (Nat.zero_le n) (by omega) _ _ _ _ hP hD hS (mh_0 v _ so) ls (lv_sub hl [1, 2, 0] rfl)

set_option maxRecDepth 100000 in
set_option maxHeartbeats 4000000 in
/-- most() -/
theorem m_most (l : Launch) (dC : Nat → ClassId) (dI : Nat → Nat → Nat) (ca : Nat → ClassId) (ad : Nat → Nat) (sz : Nat) (th : Int32) (t : Nat → Int32) (k : Nat → Nat) (v : Nat → Int32) (n : Nat) (nw : Int32) (w : Nat) (kd : Nat → Int32) (ln : Nat → Int32) (hd : Nat) (so : Nat → Int32) (fq : Nat) (hhd : hd ≤ 300) : Met l yX1_most wsX1_most ({ frames := 0, cells := 0, slots := 0, locals := 0 }) (va_Pc [.ref (ad 0)] (mdPre dC dI ca ad sz th t k v n nw w kd ln hd so fq)) (va_Qi (fun (r : Int32) (u : Nat) => r = qc_o (mo_f so hd).1 ∧ u = (mo_f so hd).2.1) (fun u t9 => mdAt dC dI ca ad (va_A (md ca ad th t k v n nw w kd ln hd so fq) sz) th t k v n nw w kd ln hd so u t9) (va_A (md ca ad th t k v n nw w kd ln hd so fq) sz)) 0 0 (va_A (md ca ad th t k v n nw w kd ln hd so fq) sz) := by
  refine Met.ofW (cc := cX1_most) (maxL := 5) (ret := (some .int)) (by decide) rfl ?_
  intro p e s m args below meth c s₁ B hml hv
  obtain ⟨rfl, hsz, hP, hK, hD0⟩ := hv
  have hx := B.exec
  have hb := B.bytes
  have hr := B.returns
  have hts := atoms_spec (ws := wsX1_most) B.pre
  have hown : s.vm.findClass RX1 = some m.cls := findClass_of_methodNamed B.named
  have hlocks := B.notSynchronized
  subst hsz
  have hin0 : ∀ w ∈ u_ws RX1 TX1 12, w ∈ wsX1_most := fun w h => List.mem_cons_of_mem _ (wiX1 w h)
  have fl_25 := hts _ (List.mem_cons_of_mem _ flX1_25)
  have fl_58 := hts _ (List.mem_cons_of_mem _ flX1_58)
  have fl_64 := hts _ (List.mem_cons_of_mem _ flX1_64)
  have hD := hD0.self (sz := s.heap.size)
  generalize hAe : va_A (md ca ad th t k v n nw w kd ln hd so fq) s.heap.size = A at hD ⊢
  have hA : ∀ q : Nat, s.heap.size ≤ q → A q := fun q h => by rw [← hAe]; exact Or.inr h
  have hS : va_S A s.heap s.heap [] := va_S.rf
  have hl := lv_entry ([.ref (ad 0)]) (n := 5) (Nat.le_of_ble_eq_true rfl)
  rw [lg_entry_eq]
  generalize (lg_sl ([.ref (ad 0)]) ++ List.replicate (5 - (lg_sl ([.ref (ad 0)])).length) Slot.unset).toArray = ls at hl ⊢
  have hl : lv_has ls 5 [(0, .ref (ad 0))] := hl
  refine lv_iconst (v := (-1)) hx hb dX1_most_0 (by decide) ?_
  refine lv_istore_n (lv' := [(1, .int (-1)), (0, .ref (ad 0))]) hx hb dX1_most_1 rfl hl (by decide) rfl (fun ls hl => ?_)
  refine lv_aload_n hx hb dX1_most_2 rfl (lv_at hl 1 rfl) ?_
  refine lv_iconst (v := 0) hx hb dX1_most_3 (by decide) ?_
  refine va_put (D := (dC, dI)) (ci := 1) (v := .int 0) (ty := .int) (C := RX1) (T := TX1) (N := 12) hx hb hts hin0 tyX1 tyX1_ok nmX1 hown hK hP hD hS 0 rfl rfl 11 (by decide) fl_64 (fun _ h9 => h9) rfl (by decide +kernel) rfl rfl (Nat.le_of_ble_eq_true rfl) dX1_most_4 (fun H locs hP hD hS => ?_)
  have hP : va_P (dC, dI) vwCl (md ca ad th t k v n nw w kd ln hd so 0) H := hP
  have hD : va_D A (md ca ad th t k v n nw w kd ln hd so 0) := hD
  refine lv_iconst (v := 0) hx hb dX1_most_7 (by decide) ?_
  refine lv_istore_n (lv' := [(2, .int 0), (1, .int (-1)), (0, .ref (ad 0))]) hx hb dX1_most_8 rfl hl (by decide) rfl (fun ls hl => ?_)
  refine lv_iconst (v := 0) hx hb dX1_most_9 (by decide) ?_
  refine lv_istore_n (lv' := [(3, .int 0), (2, .int 0), (1, .int (-1)), (0, .ref (ad 0))]) hx hb dX1_most_10 rfl hl (by decide) rfl (fun ls hl => ?_)
  have loop : ∀ (d i : Nat) (bo : Option Nat) (fr : Nat), i ≤ hd → hd + 1 ≤ i + d → ∀ (f9 : Nat) (H : Heap) (locs : List Loc), va_P (dC, dI) vwCl (md ca ad th t k v n nw w kd ln hd so f9) H → va_D A (md ca ad th t k v n nw w kd ln hd so f9) → va_S A s.heap H locs → (mo_f so i = (bo, f9, fr)) → ∀ (ls : Array Slot), lv_has ls 5 [(0, .ref (ad 0)), (1, .int (qc_o bo)), (2, .int (nI fr)), (3, .int (nI i))] → W p l e (headSpec wsX1_most ({ frames := 0, cells := 0, slots := 0, locals := 0 })).room s m ([.ref (ad 0)] : List Value).toArray below meth c H locs 0 0 (MQ below (va_Qi (fun (r : Int32) (u : Nat) => r = qc_o (mo_f so hd).1 ∧ u = (mo_f so hd).2.1) (fun u t9 => mdAt dC dI ca ad A th t k v n nw w kd ln hd so u t9) A) ([.ref (ad 0)] : List Value).toArray s 0 0 A) (F0 m 11 ls []) := by
    intro d
    induction d with
    | zero =>
      intro i bo fr hi hfu
      exact absurd hfu (by omega)
    | succ d ih =>
      intro i bo fr hi hfu f9 H locs hP hD hS hq ls hl
      have hin := mo_in so i
      rw [hq] at hin
      obtain ⟨hb1, hb2, hb3⟩ := hin
      dsimp only at hb1 hb2 hb3
      refine lv_iload_n hx hb dX1_most_11 rfl (lv_at hl 3 rfl) ?_
      refine lv_aload_n hx hb dX1_most_12 rfl (lv_at hl 0 rfl) ?_
      refine va_get (D := (dC, dI)) (ci := 1) (v := .int (nI hd)) (C := RX1) (T := TX1) (N := 12) hx hb hts hin0 hown hK hP 0 rfl rfl 9 (by decide) fl_58 (fun _ h9 => h9) rfl dX1_most_13 ?_
      refine yb_ge (tgt := 96) (by omega) (by omega) hx hb dX1_most_16 (by decide) (fun c_1 => ?_) (fun c_1 => ?_)
      · refine lv_iload_n hx hb dX1_most_96 rfl (lv_at hl 1 rfl) ?_
        exact W.iret (v := (qc_o bo)) hx hb hr (fun t9 ht hW => ⟨⟨_, f9, rfl, ⟨by rw [show hd = i from by omega, hq], by rw [show hd = i from by omega, hq]⟩, by rw [ht]; exact hP, va_K.moved hW.alike hK, hD⟩, hS.F ht⟩) hS.2.2 dX1_most_97
      · refine lv_iload_n hx hb dX1_most_19 rfl (lv_at hl 3 rfl) ?_
        refine lv_if_le (tgt := 44) hx hb dX1_most_20 (by decide) (fun c_2 => ?_) (fun c_2 => ?_)
        · have hi0 : i = 0 := by
            rcases Nat.eq_zero_or_pos i with g | g
            · exact g
            · exact absurd c_2 (nI_nle g (by omega))
          refine lv_iload_n hx hb dX1_most_44 rfl (lv_at hl 2 rfl) ?_
          refine lv_istore_n (lv' := [(2, .int (nI fr)), (0, .ref (ad 0)), (1, .int (qc_o bo)), (3, .int (nI i))]) hx hb dX1_most_45 rfl hl (by decide) rfl (fun ls hl => ?_)
          refine lv_iload_n hx hb dX1_most_46 rfl (lv_at hl 3 rfl) ?_
          refine lv_iload_n hx hb dX1_most_47 rfl (lv_at hl 0 rfl) ?_
          have hle9 : fr ≤ i := by omega
          refine lv_isub hx hb dX1_most_48 ?_
          rw [pk_sub hle9]
          refine lv_iconst (v := 1) hx hb dX1_most_49 (by decide) ?_
          refine lv_iadd hx hb dX1_most_50 ?_
          rw [nI_1 (i - fr)]
          refine lv_istore (lv' := [(4, .int (nI (i - fr + 1))), (2, .int (nI fr)), (0, .ref (ad 0)), (1, .int (qc_o bo)), (3, .int (nI i))]) hx hb dX1_most_51 hl (by decide) rfl (fun ls hl => ?_)
          refine lv_iload hx hb dX1_most_53 (lv_at hl 0 rfl) ?_
          refine lv_aload_n hx hb dX1_most_55 rfl (lv_at hl 2 rfl) ?_
          refine va_get (D := (dC, dI)) (ci := 1) (v := .int (nI f9)) (C := RX1) (T := TX1) (N := 12) hx hb hts hin0 hown hK hP 0 rfl rfl 11 (by decide) fl_64 (fun _ h9 => h9) rfl dX1_most_56 ?_
          refine yb_le (tgt := 66) (by omega) (by omega) hx hb dX1_most_59 (by decide) (fun c_3 => ?_) (fun c_3 => ?_)
          · refine lv_iload_n hx hb dX1_most_66 rfl (lv_at hl 3 rfl) ?_
            refine lv_istore_n (lv' := [(1, .int (qc_o bo)), (4, .int (nI (i - fr + 1))), (2, .int (nI fr)), (0, .ref (ad 0)), (3, .int (nI i))]) hx hb dX1_most_67 rfl hl (by decide) rfl (fun ls hl => ?_)
            refine lv_aload_n hx hb dX1_most_68 rfl (lv_at hl 3 rfl) ?_
            refine lv_iload hx hb dX1_most_69 (lv_at hl 1 rfl) ?_
            refine lv_aload_n hx hb dX1_most_71 rfl (lv_at hl 3 rfl) ?_
            refine va_get (D := (dC, dI)) (ci := 1) (v := .int (nI f9)) (C := RX1) (T := TX1) (N := 12) hx hb hts hin0 hown hK hP 0 rfl rfl 11 (by decide) fl_64 (fun _ h9 => h9) rfl dX1_most_72 ?_
            refine yb_le (tgt := 83) (by omega) (by omega) hx hb dX1_most_75 (by decide) (fun c_4 => ?_) (fun c_4 => ?_)
            · refine lv_aload_n hx hb dX1_most_83 rfl (lv_at hl 3 rfl) ?_
              refine va_get (D := (dC, dI)) (ci := 1) (v := .int (nI f9)) (C := RX1) (T := TX1) (N := 12) hx hb hts hin0 hown hK hP 0 rfl rfl 11 (by decide) fl_64 (fun _ h9 => h9) rfl dX1_most_84 ?_
              refine va_put (D := (dC, dI)) (ci := 1) (v := .int (nI f9)) (ty := .int) (C := RX1) (T := TX1) (N := 12) hx hb hts hin0 tyX1 tyX1_ok nmX1 hown hK hP hD hS 0 rfl rfl 11 (by decide) fl_64 (fun _ h9 => h9) rfl (by decide +kernel) rfl rfl (Nat.le_of_ble_eq_true rfl) dX1_most_87 (fun H locs hP hD hS => ?_)
              have hP : va_P (dC, dI) vwCl (md ca ad th t k v n nw w kd ln hd so f9) H := hP
              have hD : va_D A (md ca ad th t k v n nw w kd ln hd so f9) := hD
              refine lv_iinc (v := (nI (i + 1))) (lv' := [(3, .int (nI (i + 1))), (1, .int (qc_o bo)), (4, .int (nI (i - fr + 1))), (2, .int (nI fr)), (0, .ref (ad 0))]) hx hb dX1_most_90 hl (k := 4) rfl (yn_inc _) (by decide) rfl (fun ls hl => ?_)
              refine lv_goto (tgt := 11) hx hb dX1_most_93 (by decide) ?_
              exact ih (i + 1) bo fr (by omega) (by omega) f9 _ _ hP hD hS ((mo_st hq (if_neg (fun q => absurd q.1 (by omega)))).trans (if_neg (by omega))) ls (lv_sub hl [4, 1, 3, 0] rfl)
            · exact absurd c_4 (by omega)
          · refine lv_iload_n hx hb dX1_most_62 rfl (lv_at hl 1 rfl) ?_
            refine lv_goto (tgt := 67) hx hb dX1_most_63 (by decide) ?_
            refine W.eq (g2 := F0 m 67 ls [.int (qc_o (some fr))]) rfl ?_
            refine lv_istore_n (lv' := [(1, .int (qc_o (some fr))), (4, .int (nI (i - fr + 1))), (2, .int (nI fr)), (0, .ref (ad 0)), (3, .int (nI i))]) hx hb dX1_most_67 rfl hl (by decide) rfl (fun ls hl => ?_)
            refine lv_aload_n hx hb dX1_most_68 rfl (lv_at hl 3 rfl) ?_
            refine lv_iload hx hb dX1_most_69 (lv_at hl 1 rfl) ?_
            refine lv_aload_n hx hb dX1_most_71 rfl (lv_at hl 3 rfl) ?_
            refine va_get (D := (dC, dI)) (ci := 1) (v := .int (nI f9)) (C := RX1) (T := TX1) (N := 12) hx hb hts hin0 hown hK hP 0 rfl rfl 11 (by decide) fl_64 (fun _ h9 => h9) rfl dX1_most_72 ?_
            refine yb_le (tgt := 83) (by omega) (by omega) hx hb dX1_most_75 (by decide) (fun c_5 => ?_) (fun c_5 => ?_)
            · exact absurd c_5 (by omega)
            · refine lv_iload hx hb dX1_most_78 (lv_at hl 1 rfl) ?_
              refine lv_goto (tgt := 87) hx hb dX1_most_80 (by decide) ?_
              refine va_put (D := (dC, dI)) (ci := 1) (v := .int (nI (i - fr + 1))) (ty := .int) (C := RX1) (T := TX1) (N := 12) hx hb hts hin0 tyX1 tyX1_ok nmX1 hown hK hP hD hS 0 rfl rfl 11 (by decide) fl_64 (fun _ h9 => h9) rfl (by decide +kernel) rfl rfl (Nat.le_of_ble_eq_true rfl) dX1_most_87 (fun H locs hP hD hS => ?_)
              have hP : va_P (dC, dI) vwCl (md ca ad th t k v n nw w kd ln hd so (i - fr + 1)) H := hP
              have hD : va_D A (md ca ad th t k v n nw w kd ln hd so (i - fr + 1)) := hD
              refine lv_iinc (v := (nI (i + 1))) (lv' := [(3, .int (nI (i + 1))), (1, .int (qc_o (some fr))), (4, .int (nI (i - fr + 1))), (2, .int (nI fr)), (0, .ref (ad 0))]) hx hb dX1_most_90 hl (k := 4) rfl (yn_inc _) (by decide) rfl (fun ls hl => ?_)
              refine lv_goto (tgt := 11) hx hb dX1_most_93 (by decide) ?_
              exact ih (i + 1) (some fr) fr (by omega) (by omega) (i - fr + 1) _ _ hP hD hS ((mo_st hq (if_neg (fun q => absurd q.1 (by omega)))).trans (if_pos (by omega))) ls (lv_sub hl [4, 1, 3, 0] rfl)
        · obtain ⟨i1, rfl⟩ : ∃ i1, i = i1 + 1 := ⟨i - 1, by
            rcases Nat.eq_zero_or_pos i with g | g
            · subst g; exact absurd (by decide) c_2
            · omega⟩
          refine lv_aload_n hx hb dX1_most_23 rfl (lv_at hl 0 rfl) ?_
          refine va_get (D := (dC, dI)) (ci := 1) (v := .ref (ad 6)) (C := RX1) (T := TX1) (N := 12) hx hb hts hin0 hown hK hP 0 rfl rfl 10 (by decide) fl_25 (fun _ h9 => h9) rfl dX1_most_24 ?_
          refine lv_iload_n hx hb dX1_most_27 rfl (lv_at hl 3 rfl) ?_
          refine ya_iald hx hb hK hP 6 5 rfl rfl (j := (i1 + 1)) (by omega) (by decide) dX1_most_28 ?_
          refine lv_aload_n hx hb dX1_most_29 rfl (lv_at hl 0 rfl) ?_
          refine va_get (D := (dC, dI)) (ci := 1) (v := .ref (ad 6)) (C := RX1) (T := TX1) (N := 12) hx hb hts hin0 hown hK hP 0 rfl rfl 10 (by decide) fl_25 (fun _ h9 => h9) rfl dX1_most_30 ?_
          refine lv_iload_n hx hb dX1_most_33 rfl (lv_at hl 3 rfl) ?_
          refine lv_iconst (v := 1) hx hb dX1_most_34 (by decide) ?_
          refine lv_isub hx hb dX1_most_35 ?_
          rw [nI_pred i1]
          refine ya_iald hx hb hK hP 6 5 rfl rfl (j := i1) (by omega) (by decide) dX1_most_36 ?_
          refine lv_icmp_eq (tgt := 44) hx hb dX1_most_37 (by decide) (fun c_6 => ?_) (fun c_6 => ?_)
          · refine lv_iload_n hx hb dX1_most_44 rfl (lv_at hl 2 rfl) ?_
            refine lv_istore_n (lv' := [(2, .int (nI fr)), (0, .ref (ad 0)), (1, .int (qc_o bo)), (3, .int (nI (i1 + 1)))]) hx hb dX1_most_45 rfl hl (by decide) rfl (fun ls hl => ?_)
            refine lv_iload_n hx hb dX1_most_46 rfl (lv_at hl 3 rfl) ?_
            refine lv_iload_n hx hb dX1_most_47 rfl (lv_at hl 0 rfl) ?_
            have hle9 : fr ≤ i1 + 1 := by omega
            refine lv_isub hx hb dX1_most_48 ?_
            rw [pk_sub hle9]
            refine lv_iconst (v := 1) hx hb dX1_most_49 (by decide) ?_
            refine lv_iadd hx hb dX1_most_50 ?_
            rw [nI_1 ((i1 + 1) - fr)]
            refine lv_istore (lv' := [(4, .int (nI ((i1 + 1) - fr + 1))), (2, .int (nI fr)), (0, .ref (ad 0)), (1, .int (qc_o bo)), (3, .int (nI (i1 + 1)))]) hx hb dX1_most_51 hl (by decide) rfl (fun ls hl => ?_)
            refine lv_iload hx hb dX1_most_53 (lv_at hl 0 rfl) ?_
            refine lv_aload_n hx hb dX1_most_55 rfl (lv_at hl 2 rfl) ?_
            refine va_get (D := (dC, dI)) (ci := 1) (v := .int (nI f9)) (C := RX1) (T := TX1) (N := 12) hx hb hts hin0 hown hK hP 0 rfl rfl 11 (by decide) fl_64 (fun _ h9 => h9) rfl dX1_most_56 ?_
            refine yb_le (tgt := 66) (by omega) (by omega) hx hb dX1_most_59 (by decide) (fun c_7 => ?_) (fun c_7 => ?_)
            · refine lv_iload_n hx hb dX1_most_66 rfl (lv_at hl 3 rfl) ?_
              refine lv_istore_n (lv' := [(1, .int (qc_o bo)), (4, .int (nI ((i1 + 1) - fr + 1))), (2, .int (nI fr)), (0, .ref (ad 0)), (3, .int (nI (i1 + 1)))]) hx hb dX1_most_67 rfl hl (by decide) rfl (fun ls hl => ?_)
              refine lv_aload_n hx hb dX1_most_68 rfl (lv_at hl 3 rfl) ?_
              refine lv_iload hx hb dX1_most_69 (lv_at hl 1 rfl) ?_
              refine lv_aload_n hx hb dX1_most_71 rfl (lv_at hl 3 rfl) ?_
              refine va_get (D := (dC, dI)) (ci := 1) (v := .int (nI f9)) (C := RX1) (T := TX1) (N := 12) hx hb hts hin0 hown hK hP 0 rfl rfl 11 (by decide) fl_64 (fun _ h9 => h9) rfl dX1_most_72 ?_
              refine yb_le (tgt := 83) (by omega) (by omega) hx hb dX1_most_75 (by decide) (fun c_8 => ?_) (fun c_8 => ?_)
              · refine lv_aload_n hx hb dX1_most_83 rfl (lv_at hl 3 rfl) ?_
                refine va_get (D := (dC, dI)) (ci := 1) (v := .int (nI f9)) (C := RX1) (T := TX1) (N := 12) hx hb hts hin0 hown hK hP 0 rfl rfl 11 (by decide) fl_64 (fun _ h9 => h9) rfl dX1_most_84 ?_
                refine va_put (D := (dC, dI)) (ci := 1) (v := .int (nI f9)) (ty := .int) (C := RX1) (T := TX1) (N := 12) hx hb hts hin0 tyX1 tyX1_ok nmX1 hown hK hP hD hS 0 rfl rfl 11 (by decide) fl_64 (fun _ h9 => h9) rfl (by decide +kernel) rfl rfl (Nat.le_of_ble_eq_true rfl) dX1_most_87 (fun H locs hP hD hS => ?_)
                have hP : va_P (dC, dI) vwCl (md ca ad th t k v n nw w kd ln hd so f9) H := hP
                have hD : va_D A (md ca ad th t k v n nw w kd ln hd so f9) := hD
                refine lv_iinc (v := (nI ((i1 + 1) + 1))) (lv' := [(3, .int (nI ((i1 + 1) + 1))), (1, .int (qc_o bo)), (4, .int (nI ((i1 + 1) - fr + 1))), (2, .int (nI fr)), (0, .ref (ad 0))]) hx hb dX1_most_90 hl (k := 4) rfl (yn_inc _) (by decide) rfl (fun ls hl => ?_)
                refine lv_goto (tgt := 11) hx hb dX1_most_93 (by decide) ?_
                exact ih (i1 + 1 + 1) bo fr (by omega) (by omega) f9 _ _ hP hD hS ((mo_st hq (if_neg (fun q => q.2 c_6))).trans (if_neg (by omega))) ls (lv_sub hl [4, 1, 3, 0] rfl)
              · exact absurd c_8 (by omega)
            · refine lv_iload_n hx hb dX1_most_62 rfl (lv_at hl 1 rfl) ?_
              refine lv_goto (tgt := 67) hx hb dX1_most_63 (by decide) ?_
              refine W.eq (g2 := F0 m 67 ls [.int (qc_o (some fr))]) rfl ?_
              refine lv_istore_n (lv' := [(1, .int (qc_o (some fr))), (4, .int (nI ((i1 + 1) - fr + 1))), (2, .int (nI fr)), (0, .ref (ad 0)), (3, .int (nI (i1 + 1)))]) hx hb dX1_most_67 rfl hl (by decide) rfl (fun ls hl => ?_)
              refine lv_aload_n hx hb dX1_most_68 rfl (lv_at hl 3 rfl) ?_
              refine lv_iload hx hb dX1_most_69 (lv_at hl 1 rfl) ?_
              refine lv_aload_n hx hb dX1_most_71 rfl (lv_at hl 3 rfl) ?_
              refine va_get (D := (dC, dI)) (ci := 1) (v := .int (nI f9)) (C := RX1) (T := TX1) (N := 12) hx hb hts hin0 hown hK hP 0 rfl rfl 11 (by decide) fl_64 (fun _ h9 => h9) rfl dX1_most_72 ?_
              refine yb_le (tgt := 83) (by omega) (by omega) hx hb dX1_most_75 (by decide) (fun c_9 => ?_) (fun c_9 => ?_)
              · exact absurd c_9 (by omega)
              · refine lv_iload hx hb dX1_most_78 (lv_at hl 1 rfl) ?_
                refine lv_goto (tgt := 87) hx hb dX1_most_80 (by decide) ?_
                refine va_put (D := (dC, dI)) (ci := 1) (v := .int (nI ((i1 + 1) - fr + 1))) (ty := .int) (C := RX1) (T := TX1) (N := 12) hx hb hts hin0 tyX1 tyX1_ok nmX1 hown hK hP hD hS 0 rfl rfl 11 (by decide) fl_64 (fun _ h9 => h9) rfl (by decide +kernel) rfl rfl (Nat.le_of_ble_eq_true rfl) dX1_most_87 (fun H locs hP hD hS => ?_)
                have hP : va_P (dC, dI) vwCl (md ca ad th t k v n nw w kd ln hd so ((i1 + 1) - fr + 1)) H := hP
                have hD : va_D A (md ca ad th t k v n nw w kd ln hd so ((i1 + 1) - fr + 1)) := hD
                refine lv_iinc (v := (nI ((i1 + 1) + 1))) (lv' := [(3, .int (nI ((i1 + 1) + 1))), (1, .int (qc_o (some fr))), (4, .int (nI ((i1 + 1) - fr + 1))), (2, .int (nI fr)), (0, .ref (ad 0))]) hx hb dX1_most_90 hl (k := 4) rfl (yn_inc _) (by decide) rfl (fun ls hl => ?_)
                refine lv_goto (tgt := 11) hx hb dX1_most_93 (by decide) ?_
                exact ih (i1 + 1 + 1) (some fr) fr (by omega) (by omega) ((i1 + 1) - fr + 1) _ _ hP hD hS ((mo_st hq (if_neg (fun q => q.2 c_6))).trans (if_pos (by omega))) ls (lv_sub hl [4, 1, 3, 0] rfl)
          · refine lv_iload_n hx hb dX1_most_40 rfl (lv_at hl 3 rfl) ?_
            refine lv_goto (tgt := 45) hx hb dX1_most_41 (by decide) ?_
            refine lv_istore_n (lv' := [(2, .int (nI (i1 + 1))), (0, .ref (ad 0)), (1, .int (qc_o bo)), (3, .int (nI (i1 + 1)))]) hx hb dX1_most_45 rfl hl (by decide) rfl (fun ls hl => ?_)
            refine lv_iload_n hx hb dX1_most_46 rfl (lv_at hl 3 rfl) ?_
            refine lv_iload_n hx hb dX1_most_47 rfl (lv_at hl 0 rfl) ?_
            have hle9 : (i1 + 1) ≤ i1 + 1 := by omega
            refine lv_isub hx hb dX1_most_48 ?_
            rw [pk_sub hle9]
            refine lv_iconst (v := 1) hx hb dX1_most_49 (by decide) ?_
            refine lv_iadd hx hb dX1_most_50 ?_
            rw [nI_1 ((i1 + 1) - (i1 + 1))]
            refine lv_istore (lv' := [(4, .int (nI ((i1 + 1) - (i1 + 1) + 1))), (2, .int (nI (i1 + 1))), (0, .ref (ad 0)), (1, .int (qc_o bo)), (3, .int (nI (i1 + 1)))]) hx hb dX1_most_51 hl (by decide) rfl (fun ls hl => ?_)
            refine lv_iload hx hb dX1_most_53 (lv_at hl 0 rfl) ?_
            refine lv_aload_n hx hb dX1_most_55 rfl (lv_at hl 2 rfl) ?_
            refine va_get (D := (dC, dI)) (ci := 1) (v := .int (nI f9)) (C := RX1) (T := TX1) (N := 12) hx hb hts hin0 hown hK hP 0 rfl rfl 11 (by decide) fl_64 (fun _ h9 => h9) rfl dX1_most_56 ?_
            refine yb_le (tgt := 66) (by omega) (by omega) hx hb dX1_most_59 (by decide) (fun c_10 => ?_) (fun c_10 => ?_)
            · refine lv_iload_n hx hb dX1_most_66 rfl (lv_at hl 3 rfl) ?_
              refine lv_istore_n (lv' := [(1, .int (qc_o bo)), (4, .int (nI ((i1 + 1) - (i1 + 1) + 1))), (2, .int (nI (i1 + 1))), (0, .ref (ad 0)), (3, .int (nI (i1 + 1)))]) hx hb dX1_most_67 rfl hl (by decide) rfl (fun ls hl => ?_)
              refine lv_aload_n hx hb dX1_most_68 rfl (lv_at hl 3 rfl) ?_
              refine lv_iload hx hb dX1_most_69 (lv_at hl 1 rfl) ?_
              refine lv_aload_n hx hb dX1_most_71 rfl (lv_at hl 3 rfl) ?_
              refine va_get (D := (dC, dI)) (ci := 1) (v := .int (nI f9)) (C := RX1) (T := TX1) (N := 12) hx hb hts hin0 hown hK hP 0 rfl rfl 11 (by decide) fl_64 (fun _ h9 => h9) rfl dX1_most_72 ?_
              refine yb_le (tgt := 83) (by omega) (by omega) hx hb dX1_most_75 (by decide) (fun c_11 => ?_) (fun c_11 => ?_)
              · refine lv_aload_n hx hb dX1_most_83 rfl (lv_at hl 3 rfl) ?_
                refine va_get (D := (dC, dI)) (ci := 1) (v := .int (nI f9)) (C := RX1) (T := TX1) (N := 12) hx hb hts hin0 hown hK hP 0 rfl rfl 11 (by decide) fl_64 (fun _ h9 => h9) rfl dX1_most_84 ?_
                refine va_put (D := (dC, dI)) (ci := 1) (v := .int (nI f9)) (ty := .int) (C := RX1) (T := TX1) (N := 12) hx hb hts hin0 tyX1 tyX1_ok nmX1 hown hK hP hD hS 0 rfl rfl 11 (by decide) fl_64 (fun _ h9 => h9) rfl (by decide +kernel) rfl rfl (Nat.le_of_ble_eq_true rfl) dX1_most_87 (fun H locs hP hD hS => ?_)
                have hP : va_P (dC, dI) vwCl (md ca ad th t k v n nw w kd ln hd so f9) H := hP
                have hD : va_D A (md ca ad th t k v n nw w kd ln hd so f9) := hD
                refine lv_iinc (v := (nI ((i1 + 1) + 1))) (lv' := [(3, .int (nI ((i1 + 1) + 1))), (1, .int (qc_o bo)), (4, .int (nI ((i1 + 1) - (i1 + 1) + 1))), (2, .int (nI (i1 + 1))), (0, .ref (ad 0))]) hx hb dX1_most_90 hl (k := 4) rfl (yn_inc _) (by decide) rfl (fun ls hl => ?_)
                refine lv_goto (tgt := 11) hx hb dX1_most_93 (by decide) ?_
                exact ih (i1 + 1 + 1) bo (i1 + 1) (by omega) (by omega) f9 _ _ hP hD hS ((mo_st hq (if_pos ⟨Nat.succ_pos i1, c_6⟩)).trans (if_neg (by omega))) ls (lv_sub hl [4, 1, 3, 0] rfl)
              · exact absurd c_11 (by omega)
            · refine lv_iload_n hx hb dX1_most_62 rfl (lv_at hl 1 rfl) ?_
              refine lv_goto (tgt := 67) hx hb dX1_most_63 (by decide) ?_
              refine W.eq (g2 := F0 m 67 ls [.int (qc_o (some (i1 + 1)))]) rfl ?_
              refine lv_istore_n (lv' := [(1, .int (qc_o (some (i1 + 1)))), (4, .int (nI ((i1 + 1) - (i1 + 1) + 1))), (2, .int (nI (i1 + 1))), (0, .ref (ad 0)), (3, .int (nI (i1 + 1)))]) hx hb dX1_most_67 rfl hl (by decide) rfl (fun ls hl => ?_)
              refine lv_aload_n hx hb dX1_most_68 rfl (lv_at hl 3 rfl) ?_
              refine lv_iload hx hb dX1_most_69 (lv_at hl 1 rfl) ?_
              refine lv_aload_n hx hb dX1_most_71 rfl (lv_at hl 3 rfl) ?_
              refine va_get (D := (dC, dI)) (ci := 1) (v := .int (nI f9)) (C := RX1) (T := TX1) (N := 12) hx hb hts hin0 hown hK hP 0 rfl rfl 11 (by decide) fl_64 (fun _ h9 => h9) rfl dX1_most_72 ?_
              refine yb_le (tgt := 83) (by omega) (by omega) hx hb dX1_most_75 (by decide) (fun c_12 => ?_) (fun c_12 => ?_)
              · exact absurd c_12 (by omega)
              · refine lv_iload hx hb dX1_most_78 (lv_at hl 1 rfl) ?_
                refine lv_goto (tgt := 87) hx hb dX1_most_80 (by decide) ?_
                refine va_put (D := (dC, dI)) (ci := 1) (v := .int (nI ((i1 + 1) - (i1 + 1) + 1))) (ty := .int) (C := RX1) (T := TX1) (N := 12) hx hb hts hin0 tyX1 tyX1_ok nmX1 hown hK hP hD hS 0 rfl rfl 11 (by decide) fl_64 (fun _ h9 => h9) rfl (by decide +kernel) rfl rfl (Nat.le_of_ble_eq_true rfl) dX1_most_87 (fun H locs hP hD hS => ?_)
                have hP : va_P (dC, dI) vwCl (md ca ad th t k v n nw w kd ln hd so ((i1 + 1) - (i1 + 1) + 1)) H := hP
                have hD : va_D A (md ca ad th t k v n nw w kd ln hd so ((i1 + 1) - (i1 + 1) + 1)) := hD
                refine lv_iinc (v := (nI ((i1 + 1) + 1))) (lv' := [(3, .int (nI ((i1 + 1) + 1))), (1, .int (qc_o (some (i1 + 1)))), (4, .int (nI ((i1 + 1) - (i1 + 1) + 1))), (2, .int (nI (i1 + 1))), (0, .ref (ad 0))]) hx hb dX1_most_90 hl (k := 4) rfl (yn_inc _) (by decide) rfl (fun ls hl => ?_)
                refine lv_goto (tgt := 11) hx hb dX1_most_93 (by decide) ?_
                exact ih (i1 + 1 + 1) (some (i1 + 1)) (i1 + 1) (by omega) (by omega) ((i1 + 1) - (i1 + 1) + 1) _ _ hP hD hS ((mo_st hq (if_pos ⟨Nat.succ_pos i1, c_6⟩)).trans (if_pos (by omega))) ls (lv_sub hl [4, 1, 3, 0] rfl)
  exact loop (hd + 1) 0 none 0 (Nat.zero_le hd) (by omega) 0 _ _ hP hD hS rfl ls (lv_sub hl [3, 2, 1, 0] rfl)
end
section
/-! the model's loops over its sorted row -/
theorem yn_n0 {k : Nat} (h : 0 < k) (h2 : k < 1000) : ¬ nI k = 0 := fun q => by
  have e := congrArg Int32.toInt q
  rw [nI_toInt (by omega), show (0 : Int32).toInt = 0 from by decide] at e
  omega
def ms_f (so : Nat → Int32) : Nat → Int32
  | 0 => 0
  | k + 1 => ms_f so k + so k
def mu_f (so : Nat → Int32) : Nat → Nat
  | 0 => 0
  | k + 1 => if k = 0 ∨ ¬ so k = so (k - 1) then mu_f so k + 1 else mu_f so k
def mb_f (so : Nat → Int32) (x : Int32) : Nat → Nat
  | 0 => 0
  | k + 1 => if x ≤ so k then mb_f so x k else mb_f so x k + 1
def mm_f (so : Nat → Int32) (hd : Nat) (p2 : Int32) : Int32 := if p2 = 0 then nI hd else if p2 = 1 then ms_f so hd else if p2 = 2 then nI (mu_f so hd) else nI (mo_f so hd).2.1
theorem mu_le (so : Nat → Int32) : ∀ k, mu_f so k ≤ k
  | 0 => Nat.le_refl 0
  | k + 1 => by have := mu_le so k; unfold mu_f; split <;> omega
theorem mo_some (so : Nat → Int32) : ∀ k, 0 < k → 0 < (mo_f so k).2.1 ∧ ∃ j, (mo_f so k).1 = some j := by
  intro k
  induction k with
  | zero => intro h; exact absurd h (Nat.lt_irrefl 0)
  | succ k ih =>
    intro _
    obtain ⟨bo, f9, fr, hq⟩ : ∃ bo f9 fr, mo_f so k = (bo, f9, fr) := ⟨_, _, _, rfl⟩
    rw [mo_st hq rfl]
    generalize (if 0 < k ∧ ¬ so k = so (k - 1) then k else fr) = F
    by_cases c : f9 < k - F + 1
    · rw [if_pos c]; exact ⟨Nat.succ_pos _, F, rfl⟩
    · rw [if_neg c]
      rcases Nat.eq_zero_or_pos k with z | z
      · subst z
        have e : f9 = 0 := (congrArg (fun x => x.2.1) hq).symm
        exact absurd (by rw [e]; exact Nat.succ_pos _) c
      · have := ih z
        rw [hq] at this
        exact this
set_option maxRecDepth 100000 in
set_option maxHeartbeats 4000000 in
/-- below(w, v) -/
theorem m_below (l : Launch) (dC : Nat → ClassId) (dI : Nat → Nat → Nat) (ca : Nat → ClassId) (ad : Nat → Nat) (sz : Nat) (th : Int32) (t : Nat → Int32) (k : Nat → Nat) (v : Nat → Int32) (n : Nat) (nw : Int32) (w : Nat) (kd : Nat → Int32) (ln : Nat → Int32) (hd : Nat) (so : Nat → Int32) (fq : Nat) (p1 p2 : Int32) (hn : n ≤ 300) (hk8 : ∀ j, j < n → k j < 8) (hw6 : w ≤ 6) : Met l yX1_below wsX1_below ({ frames := 3, cells := 0, slots := 0, locals := 71 }) (va_Pc [.ref (ad 0), .int p1, .int p2] (mdPre dC dI ca ad sz th t k v n nw w kd ln hd so fq)) (va_Qi (fun (r : Int32) (u : Int32 × Nat × (Nat → Int32) × Nat) => (∃ wi, wi < w ∧ p1 = nI wi ∧ u.1 = 0 ∧ mh_ok v (fun j => mi_in t k n nw (kd wi) (ln wi) j) n u.2.1 u.2.2.1 ∧ r = nI (mb_f u.2.2.1 p2 u.2.1)) ∨ (¬ qx_win w p1 ∧ u.1 = 1)) (fun u t9 => mdAt dC dI ca ad (va_A (md ca ad th t k v n nw w kd ln hd so fq) sz) u.1 t k v n nw w kd ln u.2.1 u.2.2.1 u.2.2.2 t9) (va_A (md ca ad th t k v n nw w kd ln hd so fq) sz)) 0 0 (va_A (md ca ad th t k v n nw w kd ln hd so fq) sz) := by
  refine Met.ofW (cc := cX1_below) (maxL := 5) (ret := (some .int)) (by decide) rfl ?_
  intro p e s m args below meth c s₁ B hml hv
  obtain ⟨rfl, hsz, hP, hK, hD0⟩ := hv
  have hx := B.exec
  have hb := B.bytes
  have hr := B.returns
  have hts := atoms_spec (ws := wsX1_below) B.pre
  have hown : s.vm.findClass RX1 = some m.cls := findClass_of_methodNamed B.named
  have hlocks := B.notSynchronized
  subst hsz
  have hin0 : ∀ w ∈ u_ws RX1 TX1 12, w ∈ wsX1_below := fun w h => List.mem_cons_of_mem _ (wiX1 w h)
  have fl_25 := hts _ (List.mem_cons_of_mem _ flX1_25)
  have fl_58 := hts _ (List.mem_cons_of_mem _ flX1_58)
  have hD := hD0.self (sz := s.heap.size)
  generalize hAe : va_A (md ca ad th t k v n nw w kd ln hd so fq) s.heap.size = A at hD ⊢
  have hA : ∀ q : Nat, s.heap.size ≤ q → A q := fun q h => by rw [← hAe]; exact Or.inr h
  have hS : va_S A s.heap s.heap [] := va_S.rf
  have hl := lv_entry ([.ref (ad 0), .int p1, .int p2]) (n := 5) (Nat.le_of_ble_eq_true rfl)
  rw [lg_entry_eq]
  generalize (lg_sl ([.ref (ad 0), .int p1, .int p2]) ++ List.replicate (5 - (lg_sl ([.ref (ad 0), .int p1, .int p2])).length) Slot.unset).toArray = ls at hl ⊢
  have hl : lv_has ls 5 [(0, .ref (ad 0)), (1, .int p1), (2, .int p2)] := hl
  refine lv_aload_n hx hb dX1_below_0 rfl (lv_at hl 0 rfl) ?_
  refine lv_aload_n hx hb dX1_below_1 rfl (lv_at hl 0 rfl) ?_
  refine lv_iload_n hx hb dX1_below_2 rfl (lv_at hl 1 rfl) ?_
  refine vp_callSi (W.runV (As := [.int p1]) (rest := [.ref (ad 0)]) ⟨hx, hb, hml, hown, hts⟩ (m_isWindow l dC dI ca ad _ th t k v n nw w kd ln hd so fq  p1 hw6) (cwV 1 hts (gg_V mlX1_67 imX1_isWindow seX1_isWindow in_WindowMetersModel kwX1_isWindow) rfl rfl rfl (by decide +kernel) ⟨Nat.le_of_ble_eq_true rfl, Nat.le_of_ble_eq_true rfl⟩) (md_preV hK hP hD [.int p1]) rfl rfl hl.1 rfl (lv_room (Nat.le_of_ble_eq_true rfl)) dX1_below_3 ⟨Nat.le_of_ble_eq_true rfl, Nat.le_of_ble_eq_true rfl⟩) (fun r_1 hr_2 => ?_)
  refine lv_if_ne (tgt := 13) hx hb dX1_below_6 (by decide) (fun c_3 => ?_) (fun c_3 => ?_)
  · refine lv_iconst (v := 0) hx hb dX1_below_13 (by decide) ?_
    refine lv_iconst (v := 0) hx hb dX1_below_14 (by decide) ?_
    have hFc := va_free (wc := md ca ad th t k v n nw w kd ln hd so fq) hD hS hA [0, 1, 2, 3, 4, 5, 6] rfl
    refine va_calli (va_runV (As := [.int 0, .int 0]) (rest := []) ⟨hx, hb, hml, hown, hts⟩ (m_refuse l dC dI ca ad _ th t k v n nw w kd ln hd so fq 0 0) (cwV 2 hts (gg_V mlX1_46 imX1_refuse seX1_refuse in_WindowMetersModel kwX1_refuse) rfl rfl rfl (by decide +kernel) ⟨Nat.le_of_ble_eq_true rfl, Nat.le_of_ble_eq_true rfl⟩) (md_preV hK hP hD [.int 0, .int 0]) rfl rfl hl.1 rfl (lv_room (Nat.le_of_ble_eq_true rfl)) dX1_below_15 ⟨Nat.le_of_ble_eq_true rfl, Nat.le_of_ble_eq_true rfl⟩) hS (fun q _ h => hFc q h) hFc (fun r_4 uz9 t9 H1 locs ht9 hvm hw_5 hB hz1 hk1 hS => ?_)
    obtain ⟨hP, -, hD1⟩ := hB
    rw [ht9] at hP
    have hD := hD1.weaken (fun k q hk h => hFc q.1 h)
    rw [show mr_th 0 0 = 0 from by decide] at hP hD
    generalize H1 = H at hP hS ⊢
    have hP : va_P (dC, dI) vwCl (md ca ad 0 t k v n nw w kd ln hd so fq) H := hP
    have hD : va_D A (md ca ad 0 t k v n nw w kd ln hd so fq) := hD
    obtain rfl : r_4 = 0 := mk_no hw_5 (by decide)
    refine lv_if_eq (tgt := 23) hx hb dX1_below_18 (by decide) (fun c_6 => ?_) (fun c_6 => ?_)
    · obtain ⟨wi, hwi, hpw⟩ := mk_nz hr_2 c_3
      rw [hpw] at hl
      have hl : lv_has ls 5 [(0, .ref (ad 0)), (1, .int (nI wi)), (2, .int p2)] := hl
      refine lv_aload_n hx hb dX1_below_23 rfl (lv_at hl 0 rfl) ?_
      refine lv_iload_n hx hb dX1_below_24 rfl (lv_at hl 1 rfl) ?_
      have hFc := va_free (wc := md ca ad 0 t k v n nw w kd ln hd so fq) hD hS hA [0, 1, 2, 3, 4, 5, 6] rfl
      refine va_callv (va_runV (As := [.int (nI wi)]) (rest := []) ⟨hx, hb, hml, hown, hts⟩ (m_hold l dC dI ca ad _ 0 t k v n nw w kd ln hd so fq wi  hn hk8 (by omega)) (cwV 1 hts (gg_V mlX1_71 imX1_hold seX1_hold in_WindowMetersModel kwX1_hold) rfl rfl rfl (by decide +kernel) ⟨Nat.le_of_ble_eq_true rfl, Nat.le_of_ble_eq_true rfl⟩) (md_preV hK hP hD [.int (nI wi)]) rfl rfl hl.1 rfl (lv_room (Nat.le_of_ble_eq_true rfl)) dX1_below_25 ⟨Nat.le_of_ble_eq_true rfl, Nat.le_of_ble_eq_true rfl⟩) hS (fun q _ h => hFc q h) hFc (fun u9 t9 H1 locs ht9 hvm hw_7 hB hz1 hk1 hS => ?_)
      obtain ⟨hP, -, hD1⟩ := hB
      rw [ht9] at hP
      have hD := hD1.weaken (fun k q hk h => hFc q.1 h)
      generalize H1 = H at hP hS ⊢
      have hP : va_P (dC, dI) vwCl (md ca ad 0 t k v n nw w kd ln u9.1 u9.2 fq) H := hP
      have hD : va_D A (md ca ad 0 t k v n nw w kd ln u9.1 u9.2 fq) := hD
      have hh9 : u9.1 ≤ 300 := Nat.le_trans hw_7.1 hn
      refine lv_iconst (v := 0) hx hb dX1_below_28 (by decide) ?_
      refine lv_istore_n (lv' := [(3, .int 0), (0, .ref (ad 0)), (1, .int (nI wi)), (2, .int p2)]) hx hb dX1_below_29 rfl hl (by decide) rfl (fun ls hl => ?_)
      refine lv_iconst (v := 0) hx hb dX1_below_30 (by decide) ?_
      refine lv_istore (lv' := [(4, .int 0), (3, .int 0), (0, .ref (ad 0)), (1, .int (nI wi)), (2, .int p2)]) hx hb dX1_below_31 hl (by decide) rfl (fun ls hl => ?_)
      have loop : ∀ (d i : Nat), i ≤ u9.1 → u9.1 + 1 ≤ i + d → ∀ (ls : Array Slot), lv_has ls 5 [(0, .ref (ad 0)), (1, .int (nI wi)), (2, .int p2), (3, .int (nI (mb_f u9.2 p2 i))), (4, .int (nI i))] → W p l e (headSpec wsX1_below ({ frames := 3, cells := 0, slots := 0, locals := 71 })).room s m ([.ref (ad 0), .int p1, .int p2] : List Value).toArray below meth c H locs 0 0 (MQ below (va_Qi (fun (r : Int32) (u : Int32 × Nat × (Nat → Int32) × Nat) => (∃ wi, wi < w ∧ p1 = nI wi ∧ u.1 = 0 ∧ mh_ok v (fun j => mi_in t k n nw (kd wi) (ln wi) j) n u.2.1 u.2.2.1 ∧ r = nI (mb_f u.2.2.1 p2 u.2.1)) ∨ (¬ qx_win w p1 ∧ u.1 = 1)) (fun u t9 => mdAt dC dI ca ad A u.1 t k v n nw w kd ln u.2.1 u.2.2.1 u.2.2.2 t9) A) ([.ref (ad 0), .int p1, .int p2] : List Value).toArray s 0 0 A) (F0 m 33 ls []) := by
        intro d
        induction d with
        | zero =>
          intro i hi hfu
          exact absurd hfu (by omega)
        | succ d ih =>
          intro i hi hfu  ls hl
          refine lv_iload hx hb dX1_below_33 (lv_at hl 4 rfl) ?_
          refine lv_aload_n hx hb dX1_below_35 rfl (lv_at hl 0 rfl) ?_
          refine va_get (D := (dC, dI)) (ci := 1) (v := .int (nI u9.1)) (C := RX1) (T := TX1) (N := 12) hx hb hts hin0 hown hK hP 0 rfl rfl 9 (by decide) fl_58 (fun _ h9 => h9) rfl dX1_below_36 ?_
          refine yb_ge (tgt := 67) (by omega) (by omega) hx hb dX1_below_39 (by decide) (fun c_8 => ?_) (fun c_8 => ?_)
          · refine lv_iload_n hx hb dX1_below_67 rfl (lv_at hl 3 rfl) ?_
            have hie : i = u9.1 := by omega
            exact W.iret (v := (nI (mb_f u9.2 p2 i))) hx hb hr (fun t9 ht hW => ⟨⟨_, (0, u9.1, u9.2, fq), rfl, Or.inl ⟨wi, hwi, hpw, rfl, hw_7, by rw [hie]⟩, by rw [ht]; exact hP, va_K.moved hW.alike hK, hD⟩, hS.F ht⟩) hS.2.2 dX1_below_68
          · refine lv_aload_n hx hb dX1_below_42 rfl (lv_at hl 0 rfl) ?_
            refine va_get (D := (dC, dI)) (ci := 1) (v := .ref (ad 6)) (C := RX1) (T := TX1) (N := 12) hx hb hts hin0 hown hK hP 0 rfl rfl 10 (by decide) fl_25 (fun _ h9 => h9) rfl dX1_below_43 ?_
            refine lv_iload hx hb dX1_below_46 (lv_at hl 4 rfl) ?_
            refine ya_iald hx hb hK hP 6 5 rfl rfl (j := i) (by omega) (by decide) dX1_below_48 ?_
            refine lv_iload_n hx hb dX1_below_49 rfl (lv_at hl 2 rfl) ?_
            refine lv_icmp_ge (tgt := 59) hx hb dX1_below_50 (by decide) (fun c_9 => ?_) (fun c_9 => ?_)
            · refine lv_iload_n hx hb dX1_below_59 rfl (lv_at hl 3 rfl) ?_
              refine lv_istore_n (lv' := [(3, .int (nI (mb_f u9.2 p2 i))), (0, .ref (ad 0)), (1, .int (nI wi)), (2, .int p2), (4, .int (nI i))]) hx hb dX1_below_60 rfl hl (by decide) rfl (fun ls hl => ?_)
              refine lv_iinc (v := (nI (i + 1))) (lv' := [(4, .int (nI (i + 1))), (3, .int (nI (mb_f u9.2 p2 i))), (0, .ref (ad 0)), (1, .int (nI wi)), (2, .int p2)]) hx hb dX1_below_61 hl (k := 4) rfl (yn_inc _) (by decide) rfl (fun ls hl => ?_)
              refine lv_goto (tgt := 33) hx hb dX1_below_64 (by decide) ?_
              exact ih (i + 1) (by omega) (by omega) ls (by rw [mb_f, if_pos c_9]; exact (lv_sub hl [2, 3, 4, 1, 0] rfl))
            · refine lv_iload_n hx hb dX1_below_53 rfl (lv_at hl 3 rfl) ?_
              refine lv_iconst (v := 1) hx hb dX1_below_54 (by decide) ?_
              refine lv_iadd hx hb dX1_below_55 ?_
              rw [nI_1 (mb_f u9.2 p2 i)]
              refine lv_goto (tgt := 60) hx hb dX1_below_56 (by decide) ?_
              refine lv_istore_n (lv' := [(3, .int (nI (mb_f u9.2 p2 i + 1))), (0, .ref (ad 0)), (1, .int (nI wi)), (2, .int p2), (4, .int (nI i))]) hx hb dX1_below_60 rfl hl (by decide) rfl (fun ls hl => ?_)
              refine lv_iinc (v := (nI (i + 1))) (lv' := [(4, .int (nI (i + 1))), (3, .int (nI (mb_f u9.2 p2 i + 1))), (0, .ref (ad 0)), (1, .int (nI wi)), (2, .int p2)]) hx hb dX1_below_61 hl (k := 4) rfl (yn_inc _) (by decide) rfl (fun ls hl => ?_)
              refine lv_goto (tgt := 33) hx hb dX1_below_64 (by decide) ?_
              exact ih (i + 1) (by omega) (by omega) ls (by rw [mb_f, if_neg c_9]; exact (lv_sub hl [2, 3, 4, 1, 0] rfl))
      exact loop (u9.1 + 1) 0 (Nat.zero_le _) (by omega) ls (lv_sub hl [2, 3, 4, 1, 0] rfl)
    · first | exact absurd rfl c_6 | exact absurd c_6 (by decide)
  · refine lv_iconst (v := 1) hx hb dX1_below_9 (by decide) ?_
    refine lv_goto (tgt := 14) hx hb dX1_below_10 (by decide) ?_
    refine lv_iconst (v := 0) hx hb dX1_below_14 (by decide) ?_
    have hFc := va_free (wc := md ca ad th t k v n nw w kd ln hd so fq) hD hS hA [0, 1, 2, 3, 4, 5, 6] rfl
    refine va_calli (va_runV (As := [.int 1, .int 0]) (rest := []) ⟨hx, hb, hml, hown, hts⟩ (m_refuse l dC dI ca ad _ th t k v n nw w kd ln hd so fq 1 0) (cwV 2 hts (gg_V mlX1_46 imX1_refuse seX1_refuse in_WindowMetersModel kwX1_refuse) rfl rfl rfl (by decide +kernel) ⟨Nat.le_of_ble_eq_true rfl, Nat.le_of_ble_eq_true rfl⟩) (md_preV hK hP hD [.int 1, .int 0]) rfl rfl hl.1 rfl (lv_room (Nat.le_of_ble_eq_true rfl)) dX1_below_15 ⟨Nat.le_of_ble_eq_true rfl, Nat.le_of_ble_eq_true rfl⟩) hS (fun q _ h => hFc q h) hFc (fun r_10 uz9 t9 H1 locs ht9 hvm hw_11 hB hz1 hk1 hS => ?_)
    obtain ⟨hP, -, hD1⟩ := hB
    rw [ht9] at hP
    have hD := hD1.weaken (fun k q hk h => hFc q.1 h)
    rw [show mr_th 1 0 = 1 from by decide] at hP hD
    generalize H1 = H at hP hS ⊢
    have hP : va_P (dC, dI) vwCl (md ca ad 1 t k v n nw w kd ln hd so fq) H := hP
    have hD : va_D A (md ca ad 1 t k v n nw w kd ln hd so fq) := hD
    obtain rfl : r_10 = 1 := mk_yes hw_11 (by decide)
    refine lv_if_eq (tgt := 23) hx hb dX1_below_18 (by decide) (fun c_12 => ?_) (fun c_12 => ?_)
    · first | exact absurd rfl c_12 | exact absurd c_12 (by decide)
    · refine lv_iconst (v := 0) hx hb dX1_below_21 (by decide) ?_
      exact W.iret (v := 0) hx hb hr (fun t9 ht hW => ⟨⟨_, (1, hd, so, fq), rfl, Or.inr ⟨mk_z hr_2 c_3, rfl⟩, by rw [ht]; exact hP, va_K.moved hW.alike hK, hD⟩, hS.F ht⟩) hS.2.2 dX1_below_22

set_option maxRecDepth 100000 in
set_option maxHeartbeats 4000000 in
/-- has(w, i) -/
theorem m_has (l : Launch) (dC : Nat → ClassId) (dI : Nat → Nat → Nat) (ca : Nat → ClassId) (ad : Nat → Nat) (sz : Nat) (th : Int32) (t : Nat → Int32) (k : Nat → Nat) (v : Nat → Int32) (n : Nat) (nw : Int32) (w : Nat) (kd : Nat → Int32) (ln : Nat → Int32) (hd : Nat) (so : Nat → Int32) (fq : Nat) (p1 p2 : Int32) (hn : n ≤ 300) (hk8 : ∀ j, j < n → k j < 8) (hw6 : w ≤ 6) : Met l yX1_has wsX1_has ({ frames := 2, cells := 0, slots := 0, locals := 48 }) (va_Pc [.ref (ad 0), .int p1, .int p2] (mdPre dC dI ca ad sz th t k v n nw w kd ln hd so fq)) (va_Qi (fun (r : Int32) (u : Int32) => (∃ wi i9, wi < w ∧ p1 = nI wi ∧ i9 < n ∧ p2 = nI i9 ∧ u = 0 ∧ qc_mk r (mi_in t k n nw (kd wi) (ln wi) i9)) ∨ (¬ (qx_win w p1 ∧ qx_win n p2) ∧ u = 1)) (fun u t9 => mdAt dC dI ca ad (va_A (md ca ad th t k v n nw w kd ln hd so fq) sz) u t k v n nw w kd ln hd so fq t9) (va_A (md ca ad th t k v n nw w kd ln hd so fq) sz)) 0 0 (va_A (md ca ad th t k v n nw w kd ln hd so fq) sz) := by
  refine Met.ofW (cc := cX1_has) (maxL := 3) (ret := (some .boolean)) (by decide) rfl ?_
  intro p e s m args below meth c s₁ B hml hv
  obtain ⟨rfl, hsz, hP, hK, hD0⟩ := hv
  have hx := B.exec
  have hb := B.bytes
  have hr := B.returns
  have hts := atoms_spec (ws := wsX1_has) B.pre
  have hown : s.vm.findClass RX1 = some m.cls := findClass_of_methodNamed B.named
  have hlocks := B.notSynchronized
  subst hsz
  have hin0 : ∀ w ∈ u_ws RX1 TX1 12, w ∈ wsX1_has := fun w h => List.mem_cons_of_mem _ (wiX1 w h)
  have fl_32 := hts _ (List.mem_cons_of_mem _ flX1_32)
  have hD := hD0.self (sz := s.heap.size)
  generalize hAe : va_A (md ca ad th t k v n nw w kd ln hd so fq) s.heap.size = A at hD ⊢
  have hA : ∀ q : Nat, s.heap.size ≤ q → A q := fun q h => by rw [← hAe]; exact Or.inr h
  have hS : va_S A s.heap s.heap [] := va_S.rf
  have hl := lv_entry ([.ref (ad 0), .int p1, .int p2]) (n := 3) (Nat.le_of_ble_eq_true rfl)
  rw [lg_entry_eq]
  generalize (lg_sl ([.ref (ad 0), .int p1, .int p2]) ++ List.replicate (3 - (lg_sl ([.ref (ad 0), .int p1, .int p2])).length) Slot.unset).toArray = ls at hl ⊢
  have hl : lv_has ls 3 [(0, .ref (ad 0)), (1, .int p1), (2, .int p2)] := hl
  refine lv_aload_n hx hb dX1_has_0 rfl (lv_at hl 0 rfl) ?_
  refine lv_aload_n hx hb dX1_has_1 rfl (lv_at hl 0 rfl) ?_
  refine lv_iload_n hx hb dX1_has_2 rfl (lv_at hl 1 rfl) ?_
  refine vp_callSi (W.runV (As := [.int p1]) (rest := [.ref (ad 0)]) ⟨hx, hb, hml, hown, hts⟩ (m_isWindow l dC dI ca ad _ th t k v n nw w kd ln hd so fq  p1 hw6) (cwV 1 hts (gg_V mlX1_67 imX1_isWindow seX1_isWindow in_WindowMetersModel kwX1_isWindow) rfl rfl rfl (by decide +kernel) ⟨Nat.le_of_ble_eq_true rfl, Nat.le_of_ble_eq_true rfl⟩) (md_preV hK hP hD [.int p1]) rfl rfl hl.1 rfl (lv_room (Nat.le_of_ble_eq_true rfl)) dX1_has_3 ⟨Nat.le_of_ble_eq_true rfl, Nat.le_of_ble_eq_true rfl⟩) (fun r_1 hr_2 => ?_)
  refine lv_if_eq (tgt := 23) hx hb dX1_has_6 (by decide) (fun c_3 => ?_) (fun c_3 => ?_)
  · refine lv_iconst (v := 1) hx hb dX1_has_23 (by decide) ?_
    refine lv_goto (tgt := 28) hx hb dX1_has_24 (by decide) ?_
    refine lv_iconst (v := 0) hx hb dX1_has_28 (by decide) ?_
    have hFc := va_free (wc := md ca ad th t k v n nw w kd ln hd so fq) hD hS hA [0, 1, 2, 3, 4, 5, 6] rfl
    refine va_calli (va_runV (As := [.int 1, .int 0]) (rest := []) ⟨hx, hb, hml, hown, hts⟩ (m_refuse l dC dI ca ad _ th t k v n nw w kd ln hd so fq 1 0) (cwV 2 hts (gg_V mlX1_46 imX1_refuse seX1_refuse in_WindowMetersModel kwX1_refuse) rfl rfl rfl (by decide +kernel) ⟨Nat.le_of_ble_eq_true rfl, Nat.le_of_ble_eq_true rfl⟩) (md_preV hK hP hD [.int 1, .int 0]) rfl rfl hl.1 rfl (lv_room (Nat.le_of_ble_eq_true rfl)) dX1_has_29 ⟨Nat.le_of_ble_eq_true rfl, Nat.le_of_ble_eq_true rfl⟩) hS (fun q _ h => hFc q h) hFc (fun r_4 uz9 t9 H1 locs ht9 hvm hw_5 hB hz1 hk1 hS => ?_)
    obtain ⟨hP, -, hD1⟩ := hB
    rw [ht9] at hP
    have hD := hD1.weaken (fun k q hk h => hFc q.1 h)
    rw [show mr_th 1 0 = 1 from by decide] at hP hD
    generalize H1 = H at hP hS ⊢
    have hP : va_P (dC, dI) vwCl (md ca ad 1 t k v n nw w kd ln hd so fq) H := hP
    have hD : va_D A (md ca ad 1 t k v n nw w kd ln hd so fq) := hD
    obtain rfl : r_4 = 1 := mk_yes hw_5 (by decide)
    refine lv_if_eq (tgt := 37) hx hb dX1_has_32 (by decide) (fun c_6 => ?_) (fun c_6 => ?_)
    · first | exact absurd rfl c_6 | exact absurd c_6 (by decide)
    · refine lv_iconst (v := 0) hx hb dX1_has_35 (by decide) ?_
      exact W.zret (v := 0) hx hb hr (by decide) (fun t9 ht hW => ⟨⟨_, 1, rfl, Or.inr ⟨fun q => mk_z hr_2 c_3 q.1, rfl⟩, by rw [ht]; exact hP, va_K.moved hW.alike hK, hD⟩, hS.F ht⟩) hS.2.2 dX1_has_36
  · refine lv_iload_n hx hb dX1_has_9 rfl (lv_at hl 2 rfl) ?_
    refine lv_iconst (v := 0) hx hb dX1_has_10 (by decide) ?_
    refine lv_aload_n hx hb dX1_has_11 rfl (lv_at hl 0 rfl) ?_
    refine va_get (D := (dC, dI)) (ci := 1) (v := .int (nI n)) (C := RX1) (T := TX1) (N := 12) hx hb hts hin0 hown hK hP 0 rfl rfl 1 (by decide) fl_32 (fun _ h9 => h9) rfl dX1_has_12 ?_
    refine lv_iconst (v := 1) hx hb dX1_has_15 (by decide) ?_
    refine lv_isub hx hb dX1_has_16 ?_
    refine vp_callSi (W.runS (As := [.int p2, .int 0, .int ((nI n) - 1)]) (rest := [.ref (ad 0)]) ⟨hx, hb, hml, hown, hts⟩ (m_in l p2 0 ((nI n) - 1)) (va_cwS 3 hts (gg_S mlX1_41 stX1_in in_WindowMetersModel kwX1_in) rfl rfl rfl (by decide +kernel) ⟨Nat.le_of_ble_eq_true rfl, Nat.le_of_ble_eq_true rfl⟩) preEq rfl rfl hl.1 rfl (lv_room (Nat.le_of_ble_eq_true rfl)) dX1_has_17 ⟨Nat.le_of_ble_eq_true rfl, Nat.le_of_ble_eq_true rfl⟩) (fun r_7 hr_8 => ?_)
    refine lv_if_ne (tgt := 27) hx hb dX1_has_20 (by decide) (fun c_9 => ?_) (fun c_9 => ?_)
    · refine lv_iconst (v := 0) hx hb dX1_has_27 (by decide) ?_
      refine lv_iconst (v := 0) hx hb dX1_has_28 (by decide) ?_
      have hFc := va_free (wc := md ca ad th t k v n nw w kd ln hd so fq) hD hS hA [0, 1, 2, 3, 4, 5, 6] rfl
      refine va_calli (va_runV (As := [.int 0, .int 0]) (rest := []) ⟨hx, hb, hml, hown, hts⟩ (m_refuse l dC dI ca ad _ th t k v n nw w kd ln hd so fq 0 0) (cwV 2 hts (gg_V mlX1_46 imX1_refuse seX1_refuse in_WindowMetersModel kwX1_refuse) rfl rfl rfl (by decide +kernel) ⟨Nat.le_of_ble_eq_true rfl, Nat.le_of_ble_eq_true rfl⟩) (md_preV hK hP hD [.int 0, .int 0]) rfl rfl hl.1 rfl (lv_room (Nat.le_of_ble_eq_true rfl)) dX1_has_29 ⟨Nat.le_of_ble_eq_true rfl, Nat.le_of_ble_eq_true rfl⟩) hS (fun q _ h => hFc q h) hFc (fun r_10 uz9 t9 H1 locs ht9 hvm hw_11 hB hz1 hk1 hS => ?_)
      obtain ⟨hP, -, hD1⟩ := hB
      rw [ht9] at hP
      have hD := hD1.weaken (fun k q hk h => hFc q.1 h)
      rw [show mr_th 0 0 = 0 from by decide] at hP hD
      generalize H1 = H at hP hS ⊢
      have hP : va_P (dC, dI) vwCl (md ca ad 0 t k v n nw w kd ln hd so fq) H := hP
      have hD : va_D A (md ca ad 0 t k v n nw w kd ln hd so fq) := hD
      obtain rfl : r_10 = 0 := mk_no hw_11 (by decide)
      refine lv_if_eq (tgt := 37) hx hb dX1_has_32 (by decide) (fun c_12 => ?_) (fun c_12 => ?_)
      · obtain ⟨wi, hwi, hpw⟩ := mk_nz hr_2 c_3
        rw [hpw] at hl
        have hl : lv_has ls 3 [(0, .ref (ad 0)), (1, .int (nI wi)), (2, .int p2)] := hl
        obtain ⟨i9, hi9, hpi⟩ := (qx_in_pred (by omega)).mp (mk_nz hr_8 c_9)
        rw [hpi] at hl
        have hl : lv_has ls 3 [(0, .ref (ad 0)), (1, .int (nI wi)), (2, .int (nI i9))] := hl
        refine lv_aload_n hx hb dX1_has_37 rfl (lv_at hl 0 rfl) ?_
        refine lv_iload_n hx hb dX1_has_38 rfl (lv_at hl 1 rfl) ?_
        refine lv_iload_n hx hb dX1_has_39 rfl (lv_at hl 2 rfl) ?_
        refine vp_callSi (W.runV (As := [.int (nI wi), .int (nI i9)]) (rest := []) ⟨hx, hb, hml, hown, hts⟩ (m_isIn l dC dI ca ad _ 0 t k v n nw w kd ln hd so fq wi i9  hn hk8 (by omega) hi9) (cwV 2 hts (gg_V mlX1_61 imX1_isIn seX1_isIn in_WindowMetersModel kwX1_isIn) rfl rfl rfl (by decide +kernel) ⟨Nat.le_of_ble_eq_true rfl, Nat.le_of_ble_eq_true rfl⟩) (md_preV hK hP hD [.int (nI wi), .int (nI i9)]) rfl rfl hl.1 rfl (lv_room (Nat.le_of_ble_eq_true rfl)) dX1_has_40 ⟨Nat.le_of_ble_eq_true rfl, Nat.le_of_ble_eq_true rfl⟩) (fun r_13 hr_14 => ?_)
        exact W.zret (v := r_13) hx hb hr (mk_bool hr_14) (fun t9 ht hW => ⟨⟨_, 0, rfl, Or.inl ⟨wi, i9, hwi, hpw, hi9, hpi, rfl, hr_14⟩, by rw [ht]; exact hP, va_K.moved hW.alike hK, hD⟩, hS.F ht⟩) hS.2.2 dX1_has_43
      · first | exact absurd rfl c_12 | exact absurd c_12 (by decide)
    · refine lv_iconst (v := 1) hx hb dX1_has_23 (by decide) ?_
      refine lv_goto (tgt := 28) hx hb dX1_has_24 (by decide) ?_
      refine lv_iconst (v := 0) hx hb dX1_has_28 (by decide) ?_
      have hFc := va_free (wc := md ca ad th t k v n nw w kd ln hd so fq) hD hS hA [0, 1, 2, 3, 4, 5, 6] rfl
      refine va_calli (va_runV (As := [.int 1, .int 0]) (rest := []) ⟨hx, hb, hml, hown, hts⟩ (m_refuse l dC dI ca ad _ th t k v n nw w kd ln hd so fq 1 0) (cwV 2 hts (gg_V mlX1_46 imX1_refuse seX1_refuse in_WindowMetersModel kwX1_refuse) rfl rfl rfl (by decide +kernel) ⟨Nat.le_of_ble_eq_true rfl, Nat.le_of_ble_eq_true rfl⟩) (md_preV hK hP hD [.int 1, .int 0]) rfl rfl hl.1 rfl (lv_room (Nat.le_of_ble_eq_true rfl)) dX1_has_29 ⟨Nat.le_of_ble_eq_true rfl, Nat.le_of_ble_eq_true rfl⟩) hS (fun q _ h => hFc q h) hFc (fun r_15 uz9 t9 H1 locs ht9 hvm hw_16 hB hz1 hk1 hS => ?_)
      obtain ⟨hP, -, hD1⟩ := hB
      rw [ht9] at hP
      have hD := hD1.weaken (fun k q hk h => hFc q.1 h)
      rw [show mr_th 1 0 = 1 from by decide] at hP hD
      generalize H1 = H at hP hS ⊢
      have hP : va_P (dC, dI) vwCl (md ca ad 1 t k v n nw w kd ln hd so fq) H := hP
      have hD : va_D A (md ca ad 1 t k v n nw w kd ln hd so fq) := hD
      obtain rfl : r_15 = 1 := mk_yes hw_16 (by decide)
      refine lv_if_eq (tgt := 37) hx hb dX1_has_32 (by decide) (fun c_17 => ?_) (fun c_17 => ?_)
      · first | exact absurd rfl c_17 | exact absurd c_17 (by decide)
      · refine lv_iconst (v := 0) hx hb dX1_has_35 (by decide) ?_
        exact W.zret (v := 0) hx hb hr (by decide) (fun t9 ht hW => ⟨⟨_, 1, rfl, Or.inr ⟨fun q => mk_z hr_8 c_9 ((qx_in_pred (by omega)).mpr q.2), rfl⟩, by rw [ht]; exact hP, va_K.moved hW.alike hK, hD⟩, hS.F ht⟩) hS.2.2 dX1_has_36

set_option maxRecDepth 100000 in
set_option maxHeartbeats 4000000 in
/-- meter(w, what) -/
theorem m_meter (l : Launch) (dC : Nat → ClassId) (dI : Nat → Nat → Nat) (ca : Nat → ClassId) (ad : Nat → Nat) (sz : Nat) (th : Int32) (t : Nat → Int32) (k : Nat → Nat) (v : Nat → Int32) (n : Nat) (nw : Int32) (w : Nat) (kd : Nat → Int32) (ln : Nat → Int32) (hd : Nat) (so : Nat → Int32) (fq : Nat) (p1 p2 : Int32) (hn : n ≤ 300) (hk8 : ∀ j, j < n → k j < 8) (hw6 : w ≤ 6) : Met l yX1_meter wsX1_meter ({ frames := 3, cells := 0, slots := 0, locals := 71 }) (va_Pc [.ref (ad 0), .int p1, .int p2] (mdPre dC dI ca ad sz th t k v n nw w kd ln hd so fq)) (va_Qi (fun (r : Int32) (u : Int32 × Nat × (Nat → Int32) × Nat) => (∃ wi, wi < w ∧ p1 = nI wi ∧ qx_in p2 0 3 ∧ u.1 = 0 ∧ mh_ok v (fun j => mi_in t k n nw (kd wi) (ln wi) j) n u.2.1 u.2.2.1 ∧ r = mm_f u.2.2.1 u.2.1 p2) ∨ (¬ qx_win w p1 ∧ u.1 = 1) ∨ (qx_win w p1 ∧ ¬ qx_in p2 0 3 ∧ u.1 = 2)) (fun u t9 => mdAt dC dI ca ad (va_A (md ca ad th t k v n nw w kd ln hd so fq) sz) u.1 t k v n nw w kd ln u.2.1 u.2.2.1 u.2.2.2 t9) (va_A (md ca ad th t k v n nw w kd ln hd so fq) sz)) 0 0 (va_A (md ca ad th t k v n nw w kd ln hd so fq) sz) := by
  refine Met.ofW (cc := cX1_meter) (maxL := 6) (ret := (some .int)) (by decide) rfl ?_
  intro p e s m args below meth c s₁ B hml hv
  obtain ⟨rfl, hsz, hP, hK, hD0⟩ := hv
  have hx := B.exec
  have hb := B.bytes
  have hr := B.returns
  have hts := atoms_spec (ws := wsX1_meter) B.pre
  have hown : s.vm.findClass RX1 = some m.cls := findClass_of_methodNamed B.named
  have hlocks := B.notSynchronized
  subst hsz
  have hin0 : ∀ w ∈ u_ws RX1 TX1 12, w ∈ wsX1_meter := fun w h => List.mem_cons_of_mem _ (wiX1 w h)
  have fl_25 := hts _ (List.mem_cons_of_mem _ flX1_25)
  have fl_58 := hts _ (List.mem_cons_of_mem _ flX1_58)
  have fl_64 := hts _ (List.mem_cons_of_mem _ flX1_64)
  have hD := hD0.self (sz := s.heap.size)
  generalize hAe : va_A (md ca ad th t k v n nw w kd ln hd so fq) s.heap.size = A at hD ⊢
  have hA : ∀ q : Nat, s.heap.size ≤ q → A q := fun q h => by rw [← hAe]; exact Or.inr h
  have hS : va_S A s.heap s.heap [] := va_S.rf
  have hl := lv_entry ([.ref (ad 0), .int p1, .int p2]) (n := 6) (Nat.le_of_ble_eq_true rfl)
  rw [lg_entry_eq]
  generalize (lg_sl ([.ref (ad 0), .int p1, .int p2]) ++ List.replicate (6 - (lg_sl ([.ref (ad 0), .int p1, .int p2])).length) Slot.unset).toArray = ls at hl ⊢
  have hl : lv_has ls 6 [(0, .ref (ad 0)), (1, .int p1), (2, .int p2)] := hl
  refine lv_aload_n hx hb dX1_meter_0 rfl (lv_at hl 0 rfl) ?_
  refine lv_aload_n hx hb dX1_meter_1 rfl (lv_at hl 0 rfl) ?_
  refine lv_iload_n hx hb dX1_meter_2 rfl (lv_at hl 1 rfl) ?_
  refine vp_callSi (W.runV (As := [.int p1]) (rest := [.ref (ad 0)]) ⟨hx, hb, hml, hown, hts⟩ (m_isWindow l dC dI ca ad _ th t k v n nw w kd ln hd so fq  p1 hw6) (cwV 1 hts (gg_V mlX1_67 imX1_isWindow seX1_isWindow in_WindowMetersModel kwX1_isWindow) rfl rfl rfl (by decide +kernel) ⟨Nat.le_of_ble_eq_true rfl, Nat.le_of_ble_eq_true rfl⟩) (md_preV hK hP hD [.int p1]) rfl rfl hl.1 rfl (lv_room (Nat.le_of_ble_eq_true rfl)) dX1_meter_3 ⟨Nat.le_of_ble_eq_true rfl, Nat.le_of_ble_eq_true rfl⟩) (fun r_1 hr_2 => ?_)
  refine lv_if_ne (tgt := 13) hx hb dX1_meter_6 (by decide) (fun c_3 => ?_) (fun c_3 => ?_)
  · refine lv_iconst (v := 0) hx hb dX1_meter_13 (by decide) ?_
    refine lv_aload_n hx hb dX1_meter_14 rfl (lv_at hl 0 rfl) ?_
    refine lv_iload_n hx hb dX1_meter_15 rfl (lv_at hl 1 rfl) ?_
    refine vp_callSi (W.runV (As := [.int p1]) (rest := [.int 0, .ref (ad 0)]) ⟨hx, hb, hml, hown, hts⟩ (m_isWindow l dC dI ca ad _ th t k v n nw w kd ln hd so fq  p1 hw6) (cwV 1 hts (gg_V mlX1_67 imX1_isWindow seX1_isWindow in_WindowMetersModel kwX1_isWindow) rfl rfl rfl (by decide +kernel) ⟨Nat.le_of_ble_eq_true rfl, Nat.le_of_ble_eq_true rfl⟩) (md_preV hK hP hD [.int p1]) rfl rfl hl.1 rfl (lv_room (Nat.le_of_ble_eq_true rfl)) dX1_meter_16 ⟨Nat.le_of_ble_eq_true rfl, Nat.le_of_ble_eq_true rfl⟩) (fun r_4 hr_5 => ?_)
    refine lv_if_eq (tgt := 35) hx hb dX1_meter_19 (by decide) (fun c_6 => ?_) (fun c_6 => ?_)
    · exact absurd (mk_nz hr_2 c_3) (mk_z hr_5 c_6)
    · refine lv_iload_n hx hb dX1_meter_22 rfl (lv_at hl 2 rfl) ?_
      refine lv_iconst (v := 0) hx hb dX1_meter_23 (by decide) ?_
      refine lv_iconst (v := 3) hx hb dX1_meter_24 (by decide) ?_
      refine vp_callSi (W.runS (As := [.int p2, .int 0, .int 3]) (rest := [.int 0, .ref (ad 0)]) ⟨hx, hb, hml, hown, hts⟩ (m_in l p2 0 3) (va_cwS 3 hts (gg_S mlX1_41 stX1_in in_WindowMetersModel kwX1_in) rfl rfl rfl (by decide +kernel) ⟨Nat.le_of_ble_eq_true rfl, Nat.le_of_ble_eq_true rfl⟩) preEq rfl rfl hl.1 rfl (lv_room (Nat.le_of_ble_eq_true rfl)) dX1_meter_25 ⟨Nat.le_of_ble_eq_true rfl, Nat.le_of_ble_eq_true rfl⟩) (fun r_7 hr_8 => ?_)
      refine lv_if_ne (tgt := 35) hx hb dX1_meter_28 (by decide) (fun c_9 => ?_) (fun c_9 => ?_)
      · refine lv_iconst (v := 0) hx hb dX1_meter_35 (by decide) ?_
        have hFc := va_free (wc := md ca ad th t k v n nw w kd ln hd so fq) hD hS hA [0, 1, 2, 3, 4, 5, 6] rfl
        refine va_calli (va_runV (As := [.int 0, .int 0]) (rest := []) ⟨hx, hb, hml, hown, hts⟩ (m_refuse l dC dI ca ad _ th t k v n nw w kd ln hd so fq 0 0) (cwV 2 hts (gg_V mlX1_46 imX1_refuse seX1_refuse in_WindowMetersModel kwX1_refuse) rfl rfl rfl (by decide +kernel) ⟨Nat.le_of_ble_eq_true rfl, Nat.le_of_ble_eq_true rfl⟩) (md_preV hK hP hD [.int 0, .int 0]) rfl rfl hl.1 rfl (lv_room (Nat.le_of_ble_eq_true rfl)) dX1_meter_36 ⟨Nat.le_of_ble_eq_true rfl, Nat.le_of_ble_eq_true rfl⟩) hS (fun q _ h => hFc q h) hFc (fun r_10 uz9 t9 H1 locs ht9 hvm hw_11 hB hz1 hk1 hS => ?_)
        obtain ⟨hP, -, hD1⟩ := hB
        rw [ht9] at hP
        have hD := hD1.weaken (fun k q hk h => hFc q.1 h)
        rw [show mr_th 0 0 = 0 from by decide] at hP hD
        generalize H1 = H at hP hS ⊢
        have hP : va_P (dC, dI) vwCl (md ca ad 0 t k v n nw w kd ln hd so fq) H := hP
        have hD : va_D A (md ca ad 0 t k v n nw w kd ln hd so fq) := hD
        obtain rfl : r_10 = 0 := mk_no hw_11 (by decide)
        refine lv_if_eq (tgt := 44) hx hb dX1_meter_39 (by decide) (fun c_12 => ?_) (fun c_12 => ?_)
        · obtain ⟨wi, hwi, hpw⟩ := mk_nz hr_2 c_3
          rw [hpw] at hl
          have hl : lv_has ls 6 [(0, .ref (ad 0)), (1, .int (nI wi)), (2, .int p2)] := hl
          refine lv_aload_n hx hb dX1_meter_44 rfl (lv_at hl 0 rfl) ?_
          refine lv_iload_n hx hb dX1_meter_45 rfl (lv_at hl 1 rfl) ?_
          have hFc := va_free (wc := md ca ad 0 t k v n nw w kd ln hd so fq) hD hS hA [0, 1, 2, 3, 4, 5, 6] rfl
          refine va_callv (va_runV (As := [.int (nI wi)]) (rest := []) ⟨hx, hb, hml, hown, hts⟩ (m_hold l dC dI ca ad _ 0 t k v n nw w kd ln hd so fq wi  hn hk8 (by omega)) (cwV 1 hts (gg_V mlX1_71 imX1_hold seX1_hold in_WindowMetersModel kwX1_hold) rfl rfl rfl (by decide +kernel) ⟨Nat.le_of_ble_eq_true rfl, Nat.le_of_ble_eq_true rfl⟩) (md_preV hK hP hD [.int (nI wi)]) rfl rfl hl.1 rfl (lv_room (Nat.le_of_ble_eq_true rfl)) dX1_meter_46 ⟨Nat.le_of_ble_eq_true rfl, Nat.le_of_ble_eq_true rfl⟩) hS (fun q _ h => hFc q h) hFc (fun u9 t9 H1 locs ht9 hvm hw_13 hB hz1 hk1 hS => ?_)
          obtain ⟨hP, -, hD1⟩ := hB
          rw [ht9] at hP
          have hD := hD1.weaken (fun k q hk h => hFc q.1 h)
          generalize H1 = H at hP hS ⊢
          have hP : va_P (dC, dI) vwCl (md ca ad 0 t k v n nw w kd ln u9.1 u9.2 fq) H := hP
          have hD : va_D A (md ca ad 0 t k v n nw w kd ln u9.1 u9.2 fq) := hD
          have hh9 : u9.1 ≤ 300 := Nat.le_trans hw_13.1 hn
          refine lv_iconst (v := 0) hx hb dX1_meter_49 (by decide) ?_
          refine lv_istore_n (lv' := [(3, .int 0), (0, .ref (ad 0)), (1, .int (nI wi)), (2, .int p2)]) hx hb dX1_meter_50 rfl hl (by decide) rfl (fun ls hl => ?_)
          refine lv_iconst (v := 0) hx hb dX1_meter_51 (by decide) ?_
          refine lv_istore (lv' := [(4, .int 0), (3, .int 0), (0, .ref (ad 0)), (1, .int (nI wi)), (2, .int p2)]) hx hb dX1_meter_52 hl (by decide) rfl (fun ls hl => ?_)
          refine lv_iconst (v := 0) hx hb dX1_meter_54 (by decide) ?_
          refine lv_istore (lv' := [(5, .int 0), (4, .int 0), (3, .int 0), (0, .ref (ad 0)), (1, .int (nI wi)), (2, .int p2)]) hx hb dX1_meter_55 hl (by decide) rfl (fun ls hl => ?_)
          have loop : ∀ (d i : Nat), i ≤ u9.1 → u9.1 + 1 ≤ i + d → ∀ (ls : Array Slot), lv_has ls 6 [(0, .ref (ad 0)), (1, .int (nI wi)), (2, .int p2), (3, .int (ms_f u9.2 i)), (4, .int (nI (mu_f u9.2 i))), (5, .int (nI i))] → W p l e (headSpec wsX1_meter ({ frames := 3, cells := 0, slots := 0, locals := 71 })).room s m ([.ref (ad 0), .int p1, .int p2] : List Value).toArray below meth c H locs 0 0 (MQ below (va_Qi (fun (r : Int32) (u : Int32 × Nat × (Nat → Int32) × Nat) => (∃ wi, wi < w ∧ p1 = nI wi ∧ qx_in p2 0 3 ∧ u.1 = 0 ∧ mh_ok v (fun j => mi_in t k n nw (kd wi) (ln wi) j) n u.2.1 u.2.2.1 ∧ r = mm_f u.2.2.1 u.2.1 p2) ∨ (¬ qx_win w p1 ∧ u.1 = 1) ∨ (qx_win w p1 ∧ ¬ qx_in p2 0 3 ∧ u.1 = 2)) (fun u t9 => mdAt dC dI ca ad A u.1 t k v n nw w kd ln u.2.1 u.2.2.1 u.2.2.2 t9) A) ([.ref (ad 0), .int p1, .int p2] : List Value).toArray s 0 0 A) (F0 m 57 ls []) := by
            intro d
            induction d with
            | zero =>
              intro i hi hfu
              exact absurd hfu (by omega)
            | succ d ih =>
              intro i hi hfu  ls hl
              refine lv_iload hx hb dX1_meter_57 (lv_at hl 5 rfl) ?_
              refine lv_aload_n hx hb dX1_meter_59 rfl (lv_at hl 0 rfl) ?_
              refine va_get (D := (dC, dI)) (ci := 1) (v := .int (nI u9.1)) (C := RX1) (T := TX1) (N := 12) hx hb hts hin0 hown hK hP 0 rfl rfl 9 (by decide) fl_58 (fun _ h9 => h9) rfl dX1_meter_60 ?_
              refine yb_ge (tgt := 117) (by omega) (by omega) hx hb dX1_meter_63 (by decide) (fun c_14 => ?_) (fun c_14 => ?_)
              · have hie : i = u9.1 := by omega
                refine lv_aload_n hx hb dX1_meter_117 rfl (lv_at hl 0 rfl) ?_
                have hFc := va_free (wc := md ca ad 0 t k v n nw w kd ln u9.1 u9.2 fq) hD hS hA [0, 1, 2, 3, 4, 5, 6] rfl
                refine va_calli (va_runV (As := []) (rest := []) ⟨hx, hb, hml, hown, hts⟩ (m_most l dC dI ca ad _ 0 t k v n nw w kd ln u9.1 u9.2 fq hh9) (cwV 0 hts (gg_V mlX1_75 imX1_most seX1_most in_WindowMetersModel kwX1_most) rfl rfl rfl (by decide +kernel) ⟨Nat.le_of_ble_eq_true rfl, Nat.le_of_ble_eq_true rfl⟩) (md_preV hK hP hD []) rfl rfl hl.1 rfl (lv_room (Nat.le_of_ble_eq_true rfl)) dX1_meter_118 ⟨Nat.le_of_ble_eq_true rfl, Nat.le_of_ble_eq_true rfl⟩) hS (fun q _ h => hFc q h) hFc (fun r_15 f9 t9 H1 locs ht9 hvm hw_16 hB hz1 hk1 hS => ?_)
                obtain ⟨hP, -, hD1⟩ := hB
                rw [ht9] at hP
                have hD := hD1.weaken (fun k q hk h => hFc q.1 h)
                generalize H1 = H at hP hS ⊢
                have hP : va_P (dC, dI) vwCl (md ca ad 0 t k v n nw w kd ln u9.1 u9.2 f9) H := hP
                have hD : va_D A (md ca ad 0 t k v n nw w kd ln u9.1 u9.2 f9) := hD
                obtain ⟨-, rfl⟩ := hw_16
                refine lv_pop hx hb dX1_meter_121 rfl ?_
                refine lv_iload_n hx hb dX1_meter_122 rfl (lv_at hl 2 rfl) ?_
                refine lv_if_ne (tgt := 133) hx hb dX1_meter_123 (by decide) (fun c_17 => ?_) (fun c_17 => ?_)
                · refine lv_iload_n hx hb dX1_meter_133 rfl (lv_at hl 2 rfl) ?_
                  refine lv_iconst (v := 1) hx hb dX1_meter_134 (by decide) ?_
                  refine lv_icmp_ne (tgt := 142) hx hb dX1_meter_135 (by decide) (fun c_18 => ?_) (fun c_18 => ?_)
                  · refine lv_iload_n hx hb dX1_meter_142 rfl (lv_at hl 2 rfl) ?_
                    refine lv_iconst (v := 2) hx hb dX1_meter_143 (by decide) ?_
                    refine lv_icmp_ne (tgt := 152) hx hb dX1_meter_144 (by decide) (fun c_19 => ?_) (fun c_19 => ?_)
                    · refine lv_aload_n hx hb dX1_meter_152 rfl (lv_at hl 0 rfl) ?_
                      refine va_get (D := (dC, dI)) (ci := 1) (v := .int (nI ((mo_f u9.2 u9.1).2.1))) (C := RX1) (T := TX1) (N := 12) hx hb hts hin0 hown hK hP 0 rfl rfl 11 (by decide) fl_64 (fun _ h9 => h9) rfl dX1_meter_153 ?_
                      exact W.iret (v := (nI ((mo_f u9.2 u9.1).2.1))) hx hb hr (fun t9 ht hW => ⟨⟨_, (0, u9.1, u9.2, (mo_f u9.2 u9.1).2.1), rfl, Or.inl ⟨wi, hwi, hpw, mk_nz hr_8 c_9, rfl, hw_13, by rw [mm_f, if_neg c_17, if_neg c_18, if_neg c_19]⟩, by rw [ht]; exact hP, va_K.moved hW.alike hK, hD⟩, hS.F ht⟩) hS.2.2 dX1_meter_156
                    · refine lv_iload hx hb dX1_meter_147 (lv_at hl 4 rfl) ?_
                      refine lv_goto (tgt := 156) hx hb dX1_meter_149 (by decide) ?_
                      exact W.iret (v := (nI (mu_f u9.2 i))) hx hb hr (fun t9 ht hW => ⟨⟨_, (0, u9.1, u9.2, (mo_f u9.2 u9.1).2.1), rfl, Or.inl ⟨wi, hwi, hpw, mk_nz hr_8 c_9, rfl, hw_13, by rw [mm_f, if_neg c_17, if_neg c_18, if_pos c_19, hie]⟩, by rw [ht]; exact hP, va_K.moved hW.alike hK, hD⟩, hS.F ht⟩) hS.2.2 dX1_meter_156
                  · refine lv_iload_n hx hb dX1_meter_138 rfl (lv_at hl 3 rfl) ?_
                    refine lv_goto (tgt := 156) hx hb dX1_meter_139 (by decide) ?_
                    exact W.iret (v := (ms_f u9.2 i)) hx hb hr (fun t9 ht hW => ⟨⟨_, (0, u9.1, u9.2, (mo_f u9.2 u9.1).2.1), rfl, Or.inl ⟨wi, hwi, hpw, mk_nz hr_8 c_9, rfl, hw_13, by rw [mm_f, if_neg c_17, if_pos c_18, hie]⟩, by rw [ht]; exact hP, va_K.moved hW.alike hK, hD⟩, hS.F ht⟩) hS.2.2 dX1_meter_156
                · refine lv_aload_n hx hb dX1_meter_126 rfl (lv_at hl 0 rfl) ?_
                  refine va_get (D := (dC, dI)) (ci := 1) (v := .int (nI u9.1)) (C := RX1) (T := TX1) (N := 12) hx hb hts hin0 hown hK hP 0 rfl rfl 9 (by decide) fl_58 (fun _ h9 => h9) rfl dX1_meter_127 ?_
                  refine lv_goto (tgt := 156) hx hb dX1_meter_130 (by decide) ?_
                  exact W.iret (v := (nI u9.1)) hx hb hr (fun t9 ht hW => ⟨⟨_, (0, u9.1, u9.2, (mo_f u9.2 u9.1).2.1), rfl, Or.inl ⟨wi, hwi, hpw, mk_nz hr_8 c_9, rfl, hw_13, by rw [mm_f, if_pos c_17]⟩, by rw [ht]; exact hP, va_K.moved hW.alike hK, hD⟩, hS.F ht⟩) hS.2.2 dX1_meter_156
              · refine lv_iload_n hx hb dX1_meter_66 rfl (lv_at hl 3 rfl) ?_
                refine lv_aload_n hx hb dX1_meter_67 rfl (lv_at hl 0 rfl) ?_
                refine va_get (D := (dC, dI)) (ci := 1) (v := .ref (ad 6)) (C := RX1) (T := TX1) (N := 12) hx hb hts hin0 hown hK hP 0 rfl rfl 10 (by decide) fl_25 (fun _ h9 => h9) rfl dX1_meter_68 ?_
                refine lv_iload hx hb dX1_meter_71 (lv_at hl 5 rfl) ?_
                refine ya_iald hx hb hK hP 6 5 rfl rfl (j := i) (by omega) (by decide) dX1_meter_73 ?_
                refine lv_iadd hx hb dX1_meter_74 ?_
                refine lv_istore_n (lv' := [(3, .int ((ms_f u9.2 i) + (u9.2 i))), (0, .ref (ad 0)), (1, .int (nI wi)), (2, .int p2), (4, .int (nI (mu_f u9.2 i))), (5, .int (nI i))]) hx hb dX1_meter_75 rfl hl (by decide) rfl (fun ls hl => ?_)
                refine lv_iload hx hb dX1_meter_76 (lv_at hl 5 rfl) ?_
                refine lv_if_eq (tgt := 100) hx hb dX1_meter_78 (by decide) (fun c_20 => ?_) (fun c_20 => ?_)
                · have hi0 : i = 0 := Decidable.byContradiction (fun q => yn_n0 (Nat.pos_of_ne_zero q) (by omega) c_20)
                  refine lv_iload hx hb dX1_meter_100 (lv_at hl 4 rfl) ?_
                  refine lv_iconst (v := 1) hx hb dX1_meter_102 (by decide) ?_
                  refine lv_iadd hx hb dX1_meter_103 ?_
                  rw [nI_1 (mu_f u9.2 i)]
                  refine lv_goto (tgt := 109) hx hb dX1_meter_104 (by decide) ?_
                  refine lv_istore (lv' := [(4, .int (nI (mu_f u9.2 i + 1))), (3, .int ((ms_f u9.2 i) + (u9.2 i))), (0, .ref (ad 0)), (1, .int (nI wi)), (2, .int p2), (5, .int (nI i))]) hx hb dX1_meter_109 hl (by decide) rfl (fun ls hl => ?_)
                  refine lv_iinc (v := (nI (i + 1))) (lv' := [(5, .int (nI (i + 1))), (4, .int (nI (mu_f u9.2 i + 1))), (3, .int ((ms_f u9.2 i) + (u9.2 i))), (0, .ref (ad 0)), (1, .int (nI wi)), (2, .int p2)]) hx hb dX1_meter_111 hl (k := 5) rfl (yn_inc _) (by decide) rfl (fun ls hl => ?_)
                  refine lv_goto (tgt := 57) hx hb dX1_meter_114 (by decide) ?_
                  exact ih (i + 1) (by omega) (by omega) ls (by rw [ms_f, mu_f, if_pos (Or.inl hi0)]; exact (lv_sub hl [3, 4, 5, 2, 1, 0] rfl))
                · obtain ⟨i1, rfl⟩ : ∃ i1, i = i1 + 1 := ⟨i - 1, by
                    rcases Nat.eq_zero_or_pos i with q | q
                    · subst q; exact absurd rfl c_20
                    · omega⟩
                  have hl : lv_has ls 6 [(3, .int ((ms_f u9.2 (i1 + 1)) + (u9.2 (i1 + 1)))), (0, .ref (ad 0)), (1, .int (nI wi)), (2, .int p2), (4, .int (nI (mu_f u9.2 (i1 + 1)))), (5, .int (nI (i1 + 1)))] := hl
                  refine lv_aload_n hx hb dX1_meter_81 rfl (lv_at hl 1 rfl) ?_
                  refine va_get (D := (dC, dI)) (ci := 1) (v := .ref (ad 6)) (C := RX1) (T := TX1) (N := 12) hx hb hts hin0 hown hK hP 0 rfl rfl 10 (by decide) fl_25 (fun _ h9 => h9) rfl dX1_meter_82 ?_
                  refine lv_iload hx hb dX1_meter_85 (lv_at hl 5 rfl) ?_
                  refine ya_iald hx hb hK hP 6 5 rfl rfl (j := (i1 + 1)) (by omega) (by decide) dX1_meter_87 ?_
                  refine lv_aload_n hx hb dX1_meter_88 rfl (lv_at hl 1 rfl) ?_
                  refine va_get (D := (dC, dI)) (ci := 1) (v := .ref (ad 6)) (C := RX1) (T := TX1) (N := 12) hx hb hts hin0 hown hK hP 0 rfl rfl 10 (by decide) fl_25 (fun _ h9 => h9) rfl dX1_meter_89 ?_
                  refine lv_iload hx hb dX1_meter_92 (lv_at hl 5 rfl) ?_
                  refine lv_iconst (v := 1) hx hb dX1_meter_94 (by decide) ?_
                  refine lv_isub hx hb dX1_meter_95 ?_
                  rw [nI_pred i1]
                  refine ya_iald hx hb hK hP 6 5 rfl rfl (j := i1) (by omega) (by decide) dX1_meter_96 ?_
                  refine lv_icmp_eq (tgt := 107) hx hb dX1_meter_97 (by decide) (fun c_21 => ?_) (fun c_21 => ?_)
                  · refine lv_iload hx hb dX1_meter_107 (lv_at hl 4 rfl) ?_
                    refine lv_istore (lv' := [(4, .int (nI (mu_f u9.2 (i1 + 1)))), (3, .int ((ms_f u9.2 (i1 + 1)) + (u9.2 (i1 + 1)))), (0, .ref (ad 0)), (1, .int (nI wi)), (2, .int p2), (5, .int (nI (i1 + 1)))]) hx hb dX1_meter_109 hl (by decide) rfl (fun ls hl => ?_)
                    refine lv_iinc (v := (nI ((i1 + 1) + 1))) (lv' := [(5, .int (nI ((i1 + 1) + 1))), (4, .int (nI (mu_f u9.2 (i1 + 1)))), (3, .int ((ms_f u9.2 (i1 + 1)) + (u9.2 (i1 + 1)))), (0, .ref (ad 0)), (1, .int (nI wi)), (2, .int p2)]) hx hb dX1_meter_111 hl (k := 5) rfl (yn_inc _) (by decide) rfl (fun ls hl => ?_)
                    refine lv_goto (tgt := 57) hx hb dX1_meter_114 (by decide) ?_
                    exact ih (i1 + 1 + 1) (by omega) (by omega) ls (by rw [ms_f, mu_f, if_neg (show ¬ (i1 + 1 = 0 ∨ ¬ u9.2 (i1 + 1) = u9.2 (i1 + 1 - 1)) from fun q => q.elim (fun q => absurd q (Nat.succ_ne_zero i1)) (fun q => q c_21))]; exact (lv_sub hl [3, 4, 5, 2, 1, 0] rfl))
                  · refine lv_iload hx hb dX1_meter_100 (lv_at hl 4 rfl) ?_
                    refine lv_iconst (v := 1) hx hb dX1_meter_102 (by decide) ?_
                    refine lv_iadd hx hb dX1_meter_103 ?_
                    rw [nI_1 (mu_f u9.2 (i1 + 1))]
                    refine lv_goto (tgt := 109) hx hb dX1_meter_104 (by decide) ?_
                    refine lv_istore (lv' := [(4, .int (nI (mu_f u9.2 (i1 + 1) + 1))), (3, .int ((ms_f u9.2 (i1 + 1)) + (u9.2 (i1 + 1)))), (0, .ref (ad 0)), (1, .int (nI wi)), (2, .int p2), (5, .int (nI (i1 + 1)))]) hx hb dX1_meter_109 hl (by decide) rfl (fun ls hl => ?_)
                    refine lv_iinc (v := (nI ((i1 + 1) + 1))) (lv' := [(5, .int (nI ((i1 + 1) + 1))), (4, .int (nI (mu_f u9.2 (i1 + 1) + 1))), (3, .int ((ms_f u9.2 (i1 + 1)) + (u9.2 (i1 + 1)))), (0, .ref (ad 0)), (1, .int (nI wi)), (2, .int p2)]) hx hb dX1_meter_111 hl (k := 5) rfl (yn_inc _) (by decide) rfl (fun ls hl => ?_)
                    refine lv_goto (tgt := 57) hx hb dX1_meter_114 (by decide) ?_
                    exact ih (i1 + 1 + 1) (by omega) (by omega) ls (by rw [ms_f, mu_f, if_pos (show (i1 + 1 = 0 ∨ ¬ u9.2 (i1 + 1) = u9.2 (i1 + 1 - 1)) from Or.inr c_21)]; exact (lv_sub hl [3, 4, 5, 2, 1, 0] rfl))
          exact loop (u9.1 + 1) 0 (Nat.zero_le _) (by omega) ls (lv_sub hl [3, 4, 5, 2, 1, 0] rfl)
        · first | exact absurd rfl c_12 | exact absurd c_12 (by decide)
      · refine lv_iconst (v := 1) hx hb dX1_meter_31 (by decide) ?_
        refine lv_goto (tgt := 36) hx hb dX1_meter_32 (by decide) ?_
        have hFc := va_free (wc := md ca ad th t k v n nw w kd ln hd so fq) hD hS hA [0, 1, 2, 3, 4, 5, 6] rfl
        refine va_calli (va_runV (As := [.int 0, .int 1]) (rest := []) ⟨hx, hb, hml, hown, hts⟩ (m_refuse l dC dI ca ad _ th t k v n nw w kd ln hd so fq 0 1) (cwV 2 hts (gg_V mlX1_46 imX1_refuse seX1_refuse in_WindowMetersModel kwX1_refuse) rfl rfl rfl (by decide +kernel) ⟨Nat.le_of_ble_eq_true rfl, Nat.le_of_ble_eq_true rfl⟩) (md_preV hK hP hD [.int 0, .int 1]) rfl rfl hl.1 rfl (lv_room (Nat.le_of_ble_eq_true rfl)) dX1_meter_36 ⟨Nat.le_of_ble_eq_true rfl, Nat.le_of_ble_eq_true rfl⟩) hS (fun q _ h => hFc q h) hFc (fun r_22 uz9 t9 H1 locs ht9 hvm hw_23 hB hz1 hk1 hS => ?_)
        obtain ⟨hP, -, hD1⟩ := hB
        rw [ht9] at hP
        have hD := hD1.weaken (fun k q hk h => hFc q.1 h)
        rw [show mr_th 0 1 = 2 from by decide] at hP hD
        generalize H1 = H at hP hS ⊢
        have hP : va_P (dC, dI) vwCl (md ca ad 2 t k v n nw w kd ln hd so fq) H := hP
        have hD : va_D A (md ca ad 2 t k v n nw w kd ln hd so fq) := hD
        obtain rfl : r_22 = 1 := mk_yes hw_23 (by decide)
        refine lv_if_eq (tgt := 44) hx hb dX1_meter_39 (by decide) (fun c_24 => ?_) (fun c_24 => ?_)
        · first | exact absurd rfl c_24 | exact absurd c_24 (by decide)
        · refine lv_iconst (v := 0) hx hb dX1_meter_42 (by decide) ?_
          exact W.iret (v := 0) hx hb hr (fun t9 ht hW => ⟨⟨_, (2, hd, so, fq), rfl, Or.inr (Or.inr ⟨mk_nz hr_2 c_3, mk_z hr_8 c_9, rfl⟩), by rw [ht]; exact hP, va_K.moved hW.alike hK, hD⟩, hS.F ht⟩) hS.2.2 dX1_meter_43
  · refine lv_iconst (v := 1) hx hb dX1_meter_9 (by decide) ?_
    refine lv_goto (tgt := 14) hx hb dX1_meter_10 (by decide) ?_
    refine lv_aload_n hx hb dX1_meter_14 rfl (lv_at hl 0 rfl) ?_
    refine lv_iload_n hx hb dX1_meter_15 rfl (lv_at hl 1 rfl) ?_
    refine vp_callSi (W.runV (As := [.int p1]) (rest := [.int 1, .ref (ad 0)]) ⟨hx, hb, hml, hown, hts⟩ (m_isWindow l dC dI ca ad _ th t k v n nw w kd ln hd so fq  p1 hw6) (cwV 1 hts (gg_V mlX1_67 imX1_isWindow seX1_isWindow in_WindowMetersModel kwX1_isWindow) rfl rfl rfl (by decide +kernel) ⟨Nat.le_of_ble_eq_true rfl, Nat.le_of_ble_eq_true rfl⟩) (md_preV hK hP hD [.int p1]) rfl rfl hl.1 rfl (lv_room (Nat.le_of_ble_eq_true rfl)) dX1_meter_16 ⟨Nat.le_of_ble_eq_true rfl, Nat.le_of_ble_eq_true rfl⟩) (fun r_25 hr_26 => ?_)
    refine lv_if_eq (tgt := 35) hx hb dX1_meter_19 (by decide) (fun c_27 => ?_) (fun c_27 => ?_)
    · refine lv_iconst (v := 0) hx hb dX1_meter_35 (by decide) ?_
      have hFc := va_free (wc := md ca ad th t k v n nw w kd ln hd so fq) hD hS hA [0, 1, 2, 3, 4, 5, 6] rfl
      refine va_calli (va_runV (As := [.int 1, .int 0]) (rest := []) ⟨hx, hb, hml, hown, hts⟩ (m_refuse l dC dI ca ad _ th t k v n nw w kd ln hd so fq 1 0) (cwV 2 hts (gg_V mlX1_46 imX1_refuse seX1_refuse in_WindowMetersModel kwX1_refuse) rfl rfl rfl (by decide +kernel) ⟨Nat.le_of_ble_eq_true rfl, Nat.le_of_ble_eq_true rfl⟩) (md_preV hK hP hD [.int 1, .int 0]) rfl rfl hl.1 rfl (lv_room (Nat.le_of_ble_eq_true rfl)) dX1_meter_36 ⟨Nat.le_of_ble_eq_true rfl, Nat.le_of_ble_eq_true rfl⟩) hS (fun q _ h => hFc q h) hFc (fun r_28 uz9 t9 H1 locs ht9 hvm hw_29 hB hz1 hk1 hS => ?_)
      obtain ⟨hP, -, hD1⟩ := hB
      rw [ht9] at hP
      have hD := hD1.weaken (fun k q hk h => hFc q.1 h)
      rw [show mr_th 1 0 = 1 from by decide] at hP hD
      generalize H1 = H at hP hS ⊢
      have hP : va_P (dC, dI) vwCl (md ca ad 1 t k v n nw w kd ln hd so fq) H := hP
      have hD : va_D A (md ca ad 1 t k v n nw w kd ln hd so fq) := hD
      obtain rfl : r_28 = 1 := mk_yes hw_29 (by decide)
      refine lv_if_eq (tgt := 44) hx hb dX1_meter_39 (by decide) (fun c_30 => ?_) (fun c_30 => ?_)
      · first | exact absurd rfl c_30 | exact absurd c_30 (by decide)
      · refine lv_iconst (v := 0) hx hb dX1_meter_42 (by decide) ?_
        exact W.iret (v := 0) hx hb hr (fun t9 ht hW => ⟨⟨_, (1, hd, so, fq), rfl, Or.inr (Or.inl ⟨mk_z hr_2 c_3, rfl⟩), by rw [ht]; exact hP, va_K.moved hW.alike hK, hD⟩, hS.F ht⟩) hS.2.2 dX1_meter_43
    · exact absurd (mk_nz hr_26 c_27) (mk_z hr_2 c_3)

set_option maxRecDepth 100000 in
set_option maxHeartbeats 4000000 in
/-- kth(w, k) -/
theorem m_kth (l : Launch) (dC : Nat → ClassId) (dI : Nat → Nat → Nat) (ca : Nat → ClassId) (ad : Nat → Nat) (sz : Nat) (th : Int32) (t : Nat → Int32) (k : Nat → Nat) (v : Nat → Int32) (n : Nat) (nw : Int32) (w : Nat) (kd : Nat → Int32) (ln : Nat → Int32) (hd : Nat) (so : Nat → Int32) (fq : Nat) (p1 p2 : Int32) (hn : n ≤ 300) (hk8 : ∀ j, j < n → k j < 8) (hw6 : w ≤ 6) : Met l yX1_kth wsX1_kth ({ frames := 3, cells := 0, slots := 0, locals := 71 }) (va_Pc [.ref (ad 0), .int p1, .int p2] (mdPre dC dI ca ad sz th t k v n nw w kd ln hd so fq)) (va_Qi (fun (r : Int32) (u : Int32 × Nat × (Nat → Int32) × Nat) => (∃ wi j9, wi < w ∧ p1 = nI wi ∧ u.1 = 0 ∧ mh_ok v (fun j => mi_in t k n nw (kd wi) (ln wi) j) n u.2.1 u.2.2.1 ∧ j9 < u.2.1 ∧ p2 = nI j9 ∧ r = u.2.2.1 j9) ∨ (¬ qx_win w p1 ∧ u.1 = 1) ∨ (∃ wi, wi < w ∧ p1 = nI wi ∧ u.1 = 2 ∧ mh_ok v (fun j => mi_in t k n nw (kd wi) (ln wi) j) n u.2.1 u.2.2.1 ∧ ¬ qx_win u.2.1 p2)) (fun u t9 => mdAt dC dI ca ad (va_A (md ca ad th t k v n nw w kd ln hd so fq) sz) u.1 t k v n nw w kd ln u.2.1 u.2.2.1 u.2.2.2 t9) (va_A (md ca ad th t k v n nw w kd ln hd so fq) sz)) 0 0 (va_A (md ca ad th t k v n nw w kd ln hd so fq) sz) := by
  refine Met.ofW (cc := cX1_kth) (maxL := 3) (ret := (some .int)) (by decide) rfl ?_
  intro p e s m args below meth c s₁ B hml hv
  obtain ⟨rfl, hsz, hP, hK, hD0⟩ := hv
  have hx := B.exec
  have hb := B.bytes
  have hr := B.returns
  have hts := atoms_spec (ws := wsX1_kth) B.pre
  have hown : s.vm.findClass RX1 = some m.cls := findClass_of_methodNamed B.named
  have hlocks := B.notSynchronized
  subst hsz
  have hin0 : ∀ w ∈ u_ws RX1 TX1 12, w ∈ wsX1_kth := fun w h => List.mem_cons_of_mem _ (wiX1 w h)
  have fl_25 := hts _ (List.mem_cons_of_mem _ flX1_25)
  have fl_58 := hts _ (List.mem_cons_of_mem _ flX1_58)
  have hD := hD0.self (sz := s.heap.size)
  generalize hAe : va_A (md ca ad th t k v n nw w kd ln hd so fq) s.heap.size = A at hD ⊢
  have hA : ∀ q : Nat, s.heap.size ≤ q → A q := fun q h => by rw [← hAe]; exact Or.inr h
  have hS : va_S A s.heap s.heap [] := va_S.rf
  have hl := lv_entry ([.ref (ad 0), .int p1, .int p2]) (n := 3) (Nat.le_of_ble_eq_true rfl)
  rw [lg_entry_eq]
  generalize (lg_sl ([.ref (ad 0), .int p1, .int p2]) ++ List.replicate (3 - (lg_sl ([.ref (ad 0), .int p1, .int p2])).length) Slot.unset).toArray = ls at hl ⊢
  have hl : lv_has ls 3 [(0, .ref (ad 0)), (1, .int p1), (2, .int p2)] := hl
  refine lv_aload_n hx hb dX1_kth_0 rfl (lv_at hl 0 rfl) ?_
  refine lv_iload_n hx hb dX1_kth_1 rfl (lv_at hl 1 rfl) ?_
  refine vp_callSi (W.runV (As := [.int p1]) (rest := []) ⟨hx, hb, hml, hown, hts⟩ (m_isWindow l dC dI ca ad _ th t k v n nw w kd ln hd so fq  p1 hw6) (cwV 1 hts (gg_V mlX1_67 imX1_isWindow seX1_isWindow in_WindowMetersModel kwX1_isWindow) rfl rfl rfl (by decide +kernel) ⟨Nat.le_of_ble_eq_true rfl, Nat.le_of_ble_eq_true rfl⟩) (md_preV hK hP hD [.int p1]) rfl rfl hl.1 rfl (lv_room (Nat.le_of_ble_eq_true rfl)) dX1_kth_2 ⟨Nat.le_of_ble_eq_true rfl, Nat.le_of_ble_eq_true rfl⟩) (fun r_1 hr_2 => ?_)
  refine lv_if_eq (tgt := 13) hx hb dX1_kth_5 (by decide) (fun c_3 => ?_) (fun c_3 => ?_)
  · refine lv_aload_n hx hb dX1_kth_13 rfl (lv_at hl 0 rfl) ?_
    refine lv_aload_n hx hb dX1_kth_14 rfl (lv_at hl 0 rfl) ?_
    refine lv_iload_n hx hb dX1_kth_15 rfl (lv_at hl 1 rfl) ?_
    refine vp_callSi (W.runV (As := [.int p1]) (rest := [.ref (ad 0)]) ⟨hx, hb, hml, hown, hts⟩ (m_isWindow l dC dI ca ad _ th t k v n nw w kd ln hd so fq  p1 hw6) (cwV 1 hts (gg_V mlX1_67 imX1_isWindow seX1_isWindow in_WindowMetersModel kwX1_isWindow) rfl rfl rfl (by decide +kernel) ⟨Nat.le_of_ble_eq_true rfl, Nat.le_of_ble_eq_true rfl⟩) (md_preV hK hP hD [.int p1]) rfl rfl hl.1 rfl (lv_room (Nat.le_of_ble_eq_true rfl)) dX1_kth_16 ⟨Nat.le_of_ble_eq_true rfl, Nat.le_of_ble_eq_true rfl⟩) (fun r_4 hr_5 => ?_)
    refine lv_if_ne (tgt := 26) hx hb dX1_kth_19 (by decide) (fun c_6 => ?_) (fun c_6 => ?_)
    · exact absurd (mk_nz hr_5 c_6) (mk_z hr_2 c_3)
    · refine lv_iconst (v := 1) hx hb dX1_kth_22 (by decide) ?_
      refine lv_goto (tgt := 27) hx hb dX1_kth_23 (by decide) ?_
      refine lv_aload_n hx hb dX1_kth_27 rfl (lv_at hl 0 rfl) ?_
      refine lv_iload_n hx hb dX1_kth_28 rfl (lv_at hl 1 rfl) ?_
      refine vp_callSi (W.runV (As := [.int p1]) (rest := [.int 1, .ref (ad 0)]) ⟨hx, hb, hml, hown, hts⟩ (m_isWindow l dC dI ca ad _ th t k v n nw w kd ln hd so fq  p1 hw6) (cwV 1 hts (gg_V mlX1_67 imX1_isWindow seX1_isWindow in_WindowMetersModel kwX1_isWindow) rfl rfl rfl (by decide +kernel) ⟨Nat.le_of_ble_eq_true rfl, Nat.le_of_ble_eq_true rfl⟩) (md_preV hK hP hD [.int p1]) rfl rfl hl.1 rfl (lv_room (Nat.le_of_ble_eq_true rfl)) dX1_kth_29 ⟨Nat.le_of_ble_eq_true rfl, Nat.le_of_ble_eq_true rfl⟩) (fun r_7 hr_8 => ?_)
      refine lv_if_eq (tgt := 53) hx hb dX1_kth_32 (by decide) (fun c_9 => ?_) (fun c_9 => ?_)
      · refine lv_iconst (v := 0) hx hb dX1_kth_53 (by decide) ?_
        have hFc := va_free (wc := md ca ad th t k v n nw w kd ln hd so fq) hD hS hA [0, 1, 2, 3, 4, 5, 6] rfl
        refine va_calli (va_runV (As := [.int 1, .int 0]) (rest := []) ⟨hx, hb, hml, hown, hts⟩ (m_refuse l dC dI ca ad _ th t k v n nw w kd ln hd so fq 1 0) (cwV 2 hts (gg_V mlX1_46 imX1_refuse seX1_refuse in_WindowMetersModel kwX1_refuse) rfl rfl rfl (by decide +kernel) ⟨Nat.le_of_ble_eq_true rfl, Nat.le_of_ble_eq_true rfl⟩) (md_preV hK hP hD [.int 1, .int 0]) rfl rfl hl.1 rfl (lv_room (Nat.le_of_ble_eq_true rfl)) dX1_kth_54 ⟨Nat.le_of_ble_eq_true rfl, Nat.le_of_ble_eq_true rfl⟩) hS (fun q _ h => hFc q h) hFc (fun r_10 uz9 t9 H1 locs ht9 hvm hw_11 hB hz1 hk1 hS => ?_)
        obtain ⟨hP, -, hD1⟩ := hB
        rw [ht9] at hP
        have hD := hD1.weaken (fun k q hk h => hFc q.1 h)
        rw [show mr_th 1 0 = 1 from by decide] at hP hD
        generalize H1 = H at hP hS ⊢
        have hP : va_P (dC, dI) vwCl (md ca ad 1 t k v n nw w kd ln hd so fq) H := hP
        have hD : va_D A (md ca ad 1 t k v n nw w kd ln hd so fq) := hD
        obtain rfl : r_10 = 1 := mk_yes hw_11 (by decide)
        refine lv_if_eq (tgt := 62) hx hb dX1_kth_57 (by decide) (fun c_12 => ?_) (fun c_12 => ?_)
        · first | exact absurd rfl c_12 | exact absurd c_12 (by decide)
        · refine lv_iconst (v := 0) hx hb dX1_kth_60 (by decide) ?_
          exact W.iret (v := 0) hx hb hr (fun t9 ht hW => ⟨⟨_, (1, hd, so, fq), rfl, Or.inr (Or.inl ⟨mk_z hr_2 c_3, rfl⟩), by rw [ht]; exact hP, va_K.moved hW.alike hK, hD⟩, hS.F ht⟩) hS.2.2 dX1_kth_61
      · exact absurd (mk_nz hr_8 c_9) (mk_z hr_2 c_3)
  · obtain ⟨wi, hwi, hpw⟩ := mk_nz hr_2 c_3
    rw [hpw] at hl
    have hl : lv_has ls 3 [(0, .ref (ad 0)), (1, .int (nI wi)), (2, .int p2)] := hl
    rw [hpw] at hr_2
    refine lv_aload_n hx hb dX1_kth_8 rfl (lv_at hl 0 rfl) ?_
    refine lv_iload_n hx hb dX1_kth_9 rfl (lv_at hl 1 rfl) ?_
    have hFc := va_free (wc := md ca ad th t k v n nw w kd ln hd so fq) hD hS hA [0, 1, 2, 3, 4, 5, 6] rfl
    refine va_callv (va_runV (As := [.int (nI wi)]) (rest := []) ⟨hx, hb, hml, hown, hts⟩ (m_hold l dC dI ca ad _ th t k v n nw w kd ln hd so fq wi  hn hk8 (by omega)) (cwV 1 hts (gg_V mlX1_71 imX1_hold seX1_hold in_WindowMetersModel kwX1_hold) rfl rfl rfl (by decide +kernel) ⟨Nat.le_of_ble_eq_true rfl, Nat.le_of_ble_eq_true rfl⟩) (md_preV hK hP hD [.int (nI wi)]) rfl rfl hl.1 rfl (lv_room (Nat.le_of_ble_eq_true rfl)) dX1_kth_10 ⟨Nat.le_of_ble_eq_true rfl, Nat.le_of_ble_eq_true rfl⟩) hS (fun q _ h => hFc q h) hFc (fun u9 t9 H1 locs ht9 hvm hw_13 hB hz1 hk1 hS => ?_)
    obtain ⟨hP, -, hD1⟩ := hB
    rw [ht9] at hP
    have hD := hD1.weaken (fun k q hk h => hFc q.1 h)
    generalize H1 = H at hP hS ⊢
    have hP : va_P (dC, dI) vwCl (md ca ad th t k v n nw w kd ln u9.1 u9.2 fq) H := hP
    have hD : va_D A (md ca ad th t k v n nw w kd ln u9.1 u9.2 fq) := hD
    have hh9 : u9.1 ≤ 300 := Nat.le_trans hw_13.1 hn
    refine lv_aload_n hx hb dX1_kth_13 rfl (lv_at hl 0 rfl) ?_
    refine lv_aload_n hx hb dX1_kth_14 rfl (lv_at hl 0 rfl) ?_
    refine lv_iload_n hx hb dX1_kth_15 rfl (lv_at hl 1 rfl) ?_
    refine vp_callSi (W.runV (As := [.int (nI wi)]) (rest := [.ref (ad 0)]) ⟨hx, hb, hml, hown, hts⟩ (m_isWindow l dC dI ca ad _ th t k v n nw w kd ln u9.1 u9.2 fq  (nI wi) hw6) (cwV 1 hts (gg_V mlX1_67 imX1_isWindow seX1_isWindow in_WindowMetersModel kwX1_isWindow) rfl rfl rfl (by decide +kernel) ⟨Nat.le_of_ble_eq_true rfl, Nat.le_of_ble_eq_true rfl⟩) (md_preV hK hP hD [.int (nI wi)]) rfl rfl hl.1 rfl (lv_room (Nat.le_of_ble_eq_true rfl)) dX1_kth_16 ⟨Nat.le_of_ble_eq_true rfl, Nat.le_of_ble_eq_true rfl⟩) (fun r_14 hr_15 => ?_)
    refine lv_if_ne (tgt := 26) hx hb dX1_kth_19 (by decide) (fun c_16 => ?_) (fun c_16 => ?_)
    · refine lv_iconst (v := 0) hx hb dX1_kth_26 (by decide) ?_
      refine lv_aload_n hx hb dX1_kth_27 rfl (lv_at hl 0 rfl) ?_
      refine lv_iload_n hx hb dX1_kth_28 rfl (lv_at hl 1 rfl) ?_
      refine vp_callSi (W.runV (As := [.int (nI wi)]) (rest := [.int 0, .ref (ad 0)]) ⟨hx, hb, hml, hown, hts⟩ (m_isWindow l dC dI ca ad _ th t k v n nw w kd ln u9.1 u9.2 fq  (nI wi) hw6) (cwV 1 hts (gg_V mlX1_67 imX1_isWindow seX1_isWindow in_WindowMetersModel kwX1_isWindow) rfl rfl rfl (by decide +kernel) ⟨Nat.le_of_ble_eq_true rfl, Nat.le_of_ble_eq_true rfl⟩) (md_preV hK hP hD [.int (nI wi)]) rfl rfl hl.1 rfl (lv_room (Nat.le_of_ble_eq_true rfl)) dX1_kth_29 ⟨Nat.le_of_ble_eq_true rfl, Nat.le_of_ble_eq_true rfl⟩) (fun r_17 hr_18 => ?_)
      refine lv_if_eq (tgt := 53) hx hb dX1_kth_32 (by decide) (fun c_19 => ?_) (fun c_19 => ?_)
      · exact absurd (mk_nz hr_2 c_3) (mk_z hr_18 c_19)
      · refine lv_iload_n hx hb dX1_kth_35 rfl (lv_at hl 2 rfl) ?_
        refine lv_iconst (v := 0) hx hb dX1_kth_36 (by decide) ?_
        refine lv_aload_n hx hb dX1_kth_37 rfl (lv_at hl 0 rfl) ?_
        refine va_get (D := (dC, dI)) (ci := 1) (v := .int (nI u9.1)) (C := RX1) (T := TX1) (N := 12) hx hb hts hin0 hown hK hP 0 rfl rfl 9 (by decide) fl_58 (fun _ h9 => h9) rfl dX1_kth_38 ?_
        refine lv_iconst (v := 1) hx hb dX1_kth_41 (by decide) ?_
        refine lv_isub hx hb dX1_kth_42 ?_
        refine vp_callSi (W.runS (As := [.int p2, .int 0, .int ((nI u9.1) - 1)]) (rest := [.int 0, .ref (ad 0)]) ⟨hx, hb, hml, hown, hts⟩ (m_in l p2 0 ((nI u9.1) - 1)) (va_cwS 3 hts (gg_S mlX1_41 stX1_in in_WindowMetersModel kwX1_in) rfl rfl rfl (by decide +kernel) ⟨Nat.le_of_ble_eq_true rfl, Nat.le_of_ble_eq_true rfl⟩) preEq rfl rfl hl.1 rfl (lv_room (Nat.le_of_ble_eq_true rfl)) dX1_kth_43 ⟨Nat.le_of_ble_eq_true rfl, Nat.le_of_ble_eq_true rfl⟩) (fun r_20 hr_21 => ?_)
        refine lv_if_ne (tgt := 53) hx hb dX1_kth_46 (by decide) (fun c_22 => ?_) (fun c_22 => ?_)
        · refine lv_iconst (v := 0) hx hb dX1_kth_53 (by decide) ?_
          have hFc := va_free (wc := md ca ad th t k v n nw w kd ln u9.1 u9.2 fq) hD hS hA [0, 1, 2, 3, 4, 5, 6] rfl
          refine va_calli (va_runV (As := [.int 0, .int 0]) (rest := []) ⟨hx, hb, hml, hown, hts⟩ (m_refuse l dC dI ca ad _ th t k v n nw w kd ln u9.1 u9.2 fq 0 0) (cwV 2 hts (gg_V mlX1_46 imX1_refuse seX1_refuse in_WindowMetersModel kwX1_refuse) rfl rfl rfl (by decide +kernel) ⟨Nat.le_of_ble_eq_true rfl, Nat.le_of_ble_eq_true rfl⟩) (md_preV hK hP hD [.int 0, .int 0]) rfl rfl hl.1 rfl (lv_room (Nat.le_of_ble_eq_true rfl)) dX1_kth_54 ⟨Nat.le_of_ble_eq_true rfl, Nat.le_of_ble_eq_true rfl⟩) hS (fun q _ h => hFc q h) hFc (fun r_23 uz9 t9 H1 locs ht9 hvm hw_24 hB hz1 hk1 hS => ?_)
          obtain ⟨hP, -, hD1⟩ := hB
          rw [ht9] at hP
          have hD := hD1.weaken (fun k q hk h => hFc q.1 h)
          rw [show mr_th 0 0 = 0 from by decide] at hP hD
          generalize H1 = H at hP hS ⊢
          have hP : va_P (dC, dI) vwCl (md ca ad 0 t k v n nw w kd ln u9.1 u9.2 fq) H := hP
          have hD : va_D A (md ca ad 0 t k v n nw w kd ln u9.1 u9.2 fq) := hD
          obtain rfl : r_23 = 0 := mk_no hw_24 (by decide)
          refine lv_if_eq (tgt := 62) hx hb dX1_kth_57 (by decide) (fun c_25 => ?_) (fun c_25 => ?_)
          · obtain ⟨j9, hj9, hpj⟩ := (qx_in_pred (by omega)).mp (mk_nz hr_21 c_22)
            rw [hpj] at hl
            have hl : lv_has ls 3 [(0, .ref (ad 0)), (1, .int (nI wi)), (2, .int (nI j9))] := hl
            refine lv_aload_n hx hb dX1_kth_62 rfl (lv_at hl 0 rfl) ?_
            refine va_get (D := (dC, dI)) (ci := 1) (v := .ref (ad 6)) (C := RX1) (T := TX1) (N := 12) hx hb hts hin0 hown hK hP 0 rfl rfl 10 (by decide) fl_25 (fun _ h9 => h9) rfl dX1_kth_63 ?_
            refine lv_iload_n hx hb dX1_kth_66 rfl (lv_at hl 2 rfl) ?_
            refine ya_iald hx hb hK hP 6 5 rfl rfl (j := j9) (by omega) (by decide) dX1_kth_67 ?_
            exact W.iret (v := (u9.2 j9)) hx hb hr (fun t9 ht hW => ⟨⟨_, (0, u9.1, u9.2, fq), rfl, Or.inl ⟨wi, j9, hwi, hpw, rfl, hw_13, hj9, hpj, rfl⟩, by rw [ht]; exact hP, va_K.moved hW.alike hK, hD⟩, hS.F ht⟩) hS.2.2 dX1_kth_68
          · first | exact absurd rfl c_25 | exact absurd c_25 (by decide)
        · refine lv_iconst (v := 1) hx hb dX1_kth_49 (by decide) ?_
          refine lv_goto (tgt := 54) hx hb dX1_kth_50 (by decide) ?_
          have hFc := va_free (wc := md ca ad th t k v n nw w kd ln u9.1 u9.2 fq) hD hS hA [0, 1, 2, 3, 4, 5, 6] rfl
          refine va_calli (va_runV (As := [.int 0, .int 1]) (rest := []) ⟨hx, hb, hml, hown, hts⟩ (m_refuse l dC dI ca ad _ th t k v n nw w kd ln u9.1 u9.2 fq 0 1) (cwV 2 hts (gg_V mlX1_46 imX1_refuse seX1_refuse in_WindowMetersModel kwX1_refuse) rfl rfl rfl (by decide +kernel) ⟨Nat.le_of_ble_eq_true rfl, Nat.le_of_ble_eq_true rfl⟩) (md_preV hK hP hD [.int 0, .int 1]) rfl rfl hl.1 rfl (lv_room (Nat.le_of_ble_eq_true rfl)) dX1_kth_54 ⟨Nat.le_of_ble_eq_true rfl, Nat.le_of_ble_eq_true rfl⟩) hS (fun q _ h => hFc q h) hFc (fun r_26 uz9 t9 H1 locs ht9 hvm hw_27 hB hz1 hk1 hS => ?_)
          obtain ⟨hP, -, hD1⟩ := hB
          rw [ht9] at hP
          have hD := hD1.weaken (fun k q hk h => hFc q.1 h)
          rw [show mr_th 0 1 = 2 from by decide] at hP hD
          generalize H1 = H at hP hS ⊢
          have hP : va_P (dC, dI) vwCl (md ca ad 2 t k v n nw w kd ln u9.1 u9.2 fq) H := hP
          have hD : va_D A (md ca ad 2 t k v n nw w kd ln u9.1 u9.2 fq) := hD
          obtain rfl : r_26 = 1 := mk_yes hw_27 (by decide)
          refine lv_if_eq (tgt := 62) hx hb dX1_kth_57 (by decide) (fun c_28 => ?_) (fun c_28 => ?_)
          · first | exact absurd rfl c_28 | exact absurd c_28 (by decide)
          · refine lv_iconst (v := 0) hx hb dX1_kth_60 (by decide) ?_
            exact W.iret (v := 0) hx hb hr (fun t9 ht hW => ⟨⟨_, (2, u9.1, u9.2, fq), rfl, Or.inr (Or.inr ⟨wi, hwi, hpw, rfl, hw_13, fun q => mk_z hr_21 c_22 ((qx_in_pred (by omega)).mpr q)⟩), by rw [ht]; exact hP, va_K.moved hW.alike hK, hD⟩, hS.F ht⟩) hS.2.2 dX1_kth_61
    · exact absurd (mk_nz hr_2 c_3) (mk_z hr_15 c_16)

set_option maxRecDepth 100000 in
set_option maxHeartbeats 4000000 in
/-- frequent(w) -/
theorem m_frequent (l : Launch) (dC : Nat → ClassId) (dI : Nat → Nat → Nat) (ca : Nat → ClassId) (ad : Nat → Nat) (sz : Nat) (th : Int32) (t : Nat → Int32) (k : Nat → Nat) (v : Nat → Int32) (n : Nat) (nw : Int32) (w : Nat) (kd : Nat → Int32) (ln : Nat → Int32) (hd : Nat) (so : Nat → Int32) (fq : Nat) (p1 : Int32) (hn : n ≤ 300) (hk8 : ∀ j, j < n → k j < 8) (hw6 : w ≤ 6) : Met l yX1_frequent wsX1_frequent ({ frames := 3, cells := 0, slots := 0, locals := 71 }) (va_Pc [.ref (ad 0), .int p1] (mdPre dC dI ca ad sz th t k v n nw w kd ln hd so fq)) (va_Qi (fun (r : Int32) (u : Int32 × Nat × (Nat → Int32) × Nat) => (∃ wi j9, wi < w ∧ p1 = nI wi ∧ u.1 = 0 ∧ mh_ok v (fun j => mi_in t k n nw (kd wi) (ln wi) j) n u.2.1 u.2.2.1 ∧ j9 < u.2.1 ∧ (mo_f u.2.2.1 u.2.1).1 = some j9 ∧ r = u.2.2.1 j9) ∨ (¬ qx_win w p1 ∧ u.1 = 1) ∨ (∃ wi, wi < w ∧ p1 = nI wi ∧ u.1 = 2 ∧ mh_ok v (fun j => mi_in t k n nw (kd wi) (ln wi) j) n u.2.1 u.2.2.1 ∧ u.2.1 = 0)) (fun u t9 => mdAt dC dI ca ad (va_A (md ca ad th t k v n nw w kd ln hd so fq) sz) u.1 t k v n nw w kd ln u.2.1 u.2.2.1 u.2.2.2 t9) (va_A (md ca ad th t k v n nw w kd ln hd so fq) sz)) 0 0 (va_A (md ca ad th t k v n nw w kd ln hd so fq) sz) := by
  refine Met.ofW (cc := cX1_frequent) (maxL := 2) (ret := (some .int)) (by decide) rfl ?_
  intro p e s m args below meth c s₁ B hml hv
  obtain ⟨rfl, hsz, hP, hK, hD0⟩ := hv
  have hx := B.exec
  have hb := B.bytes
  have hr := B.returns
  have hts := atoms_spec (ws := wsX1_frequent) B.pre
  have hown : s.vm.findClass RX1 = some m.cls := findClass_of_methodNamed B.named
  have hlocks := B.notSynchronized
  subst hsz
  have hin0 : ∀ w ∈ u_ws RX1 TX1 12, w ∈ wsX1_frequent := fun w h => List.mem_cons_of_mem _ (wiX1 w h)
  have fl_25 := hts _ (List.mem_cons_of_mem _ flX1_25)
  have fl_58 := hts _ (List.mem_cons_of_mem _ flX1_58)
  have hD := hD0.self (sz := s.heap.size)
  generalize hAe : va_A (md ca ad th t k v n nw w kd ln hd so fq) s.heap.size = A at hD ⊢
  have hA : ∀ q : Nat, s.heap.size ≤ q → A q := fun q h => by rw [← hAe]; exact Or.inr h
  have hS : va_S A s.heap s.heap [] := va_S.rf
  have hl := lv_entry ([.ref (ad 0), .int p1]) (n := 2) (Nat.le_of_ble_eq_true rfl)
  rw [lg_entry_eq]
  generalize (lg_sl ([.ref (ad 0), .int p1]) ++ List.replicate (2 - (lg_sl ([.ref (ad 0), .int p1])).length) Slot.unset).toArray = ls at hl ⊢
  have hl : lv_has ls 2 [(0, .ref (ad 0)), (1, .int p1)] := hl
  refine lv_aload_n hx hb dX1_frequent_0 rfl (lv_at hl 0 rfl) ?_
  refine lv_iload_n hx hb dX1_frequent_1 rfl (lv_at hl 1 rfl) ?_
  refine vp_callSi (W.runV (As := [.int p1]) (rest := []) ⟨hx, hb, hml, hown, hts⟩ (m_isWindow l dC dI ca ad _ th t k v n nw w kd ln hd so fq  p1 hw6) (cwV 1 hts (gg_V mlX1_67 imX1_isWindow seX1_isWindow in_WindowMetersModel kwX1_isWindow) rfl rfl rfl (by decide +kernel) ⟨Nat.le_of_ble_eq_true rfl, Nat.le_of_ble_eq_true rfl⟩) (md_preV hK hP hD [.int p1]) rfl rfl hl.1 rfl (lv_room (Nat.le_of_ble_eq_true rfl)) dX1_frequent_2 ⟨Nat.le_of_ble_eq_true rfl, Nat.le_of_ble_eq_true rfl⟩) (fun r_1 hr_2 => ?_)
  refine lv_if_eq (tgt := 13) hx hb dX1_frequent_5 (by decide) (fun c_3 => ?_) (fun c_3 => ?_)
  · refine lv_aload_n hx hb dX1_frequent_13 rfl (lv_at hl 0 rfl) ?_
    refine lv_aload_n hx hb dX1_frequent_14 rfl (lv_at hl 0 rfl) ?_
    refine lv_iload_n hx hb dX1_frequent_15 rfl (lv_at hl 1 rfl) ?_
    refine vp_callSi (W.runV (As := [.int p1]) (rest := [.ref (ad 0)]) ⟨hx, hb, hml, hown, hts⟩ (m_isWindow l dC dI ca ad _ th t k v n nw w kd ln hd so fq  p1 hw6) (cwV 1 hts (gg_V mlX1_67 imX1_isWindow seX1_isWindow in_WindowMetersModel kwX1_isWindow) rfl rfl rfl (by decide +kernel) ⟨Nat.le_of_ble_eq_true rfl, Nat.le_of_ble_eq_true rfl⟩) (md_preV hK hP hD [.int p1]) rfl rfl hl.1 rfl (lv_room (Nat.le_of_ble_eq_true rfl)) dX1_frequent_16 ⟨Nat.le_of_ble_eq_true rfl, Nat.le_of_ble_eq_true rfl⟩) (fun r_4 hr_5 => ?_)
    refine lv_if_ne (tgt := 26) hx hb dX1_frequent_19 (by decide) (fun c_6 => ?_) (fun c_6 => ?_)
    · exact absurd (mk_nz hr_5 c_6) (mk_z hr_2 c_3)
    · refine lv_iconst (v := 1) hx hb dX1_frequent_22 (by decide) ?_
      refine lv_goto (tgt := 27) hx hb dX1_frequent_23 (by decide) ?_
      refine lv_aload_n hx hb dX1_frequent_27 rfl (lv_at hl 0 rfl) ?_
      refine lv_iload_n hx hb dX1_frequent_28 rfl (lv_at hl 1 rfl) ?_
      refine vp_callSi (W.runV (As := [.int p1]) (rest := [.int 1, .ref (ad 0)]) ⟨hx, hb, hml, hown, hts⟩ (m_isWindow l dC dI ca ad _ th t k v n nw w kd ln hd so fq  p1 hw6) (cwV 1 hts (gg_V mlX1_67 imX1_isWindow seX1_isWindow in_WindowMetersModel kwX1_isWindow) rfl rfl rfl (by decide +kernel) ⟨Nat.le_of_ble_eq_true rfl, Nat.le_of_ble_eq_true rfl⟩) (md_preV hK hP hD [.int p1]) rfl rfl hl.1 rfl (lv_room (Nat.le_of_ble_eq_true rfl)) dX1_frequent_29 ⟨Nat.le_of_ble_eq_true rfl, Nat.le_of_ble_eq_true rfl⟩) (fun r_7 hr_8 => ?_)
      refine lv_if_eq (tgt := 46) hx hb dX1_frequent_32 (by decide) (fun c_9 => ?_) (fun c_9 => ?_)
      · refine lv_iconst (v := 0) hx hb dX1_frequent_46 (by decide) ?_
        have hFc := va_free (wc := md ca ad th t k v n nw w kd ln hd so fq) hD hS hA [0, 1, 2, 3, 4, 5, 6] rfl
        refine va_calli (va_runV (As := [.int 1, .int 0]) (rest := []) ⟨hx, hb, hml, hown, hts⟩ (m_refuse l dC dI ca ad _ th t k v n nw w kd ln hd so fq 1 0) (cwV 2 hts (gg_V mlX1_46 imX1_refuse seX1_refuse in_WindowMetersModel kwX1_refuse) rfl rfl rfl (by decide +kernel) ⟨Nat.le_of_ble_eq_true rfl, Nat.le_of_ble_eq_true rfl⟩) (md_preV hK hP hD [.int 1, .int 0]) rfl rfl hl.1 rfl (lv_room (Nat.le_of_ble_eq_true rfl)) dX1_frequent_47 ⟨Nat.le_of_ble_eq_true rfl, Nat.le_of_ble_eq_true rfl⟩) hS (fun q _ h => hFc q h) hFc (fun r_10 uz9 t9 H1 locs ht9 hvm hw_11 hB hz1 hk1 hS => ?_)
        obtain ⟨hP, -, hD1⟩ := hB
        rw [ht9] at hP
        have hD := hD1.weaken (fun k q hk h => hFc q.1 h)
        rw [show mr_th 1 0 = 1 from by decide] at hP hD
        generalize H1 = H at hP hS ⊢
        have hP : va_P (dC, dI) vwCl (md ca ad 1 t k v n nw w kd ln hd so fq) H := hP
        have hD : va_D A (md ca ad 1 t k v n nw w kd ln hd so fq) := hD
        obtain rfl : r_10 = 1 := mk_yes hw_11 (by decide)
        refine lv_if_eq (tgt := 55) hx hb dX1_frequent_50 (by decide) (fun c_12 => ?_) (fun c_12 => ?_)
        · first | exact absurd rfl c_12 | exact absurd c_12 (by decide)
        · refine lv_iconst (v := 0) hx hb dX1_frequent_53 (by decide) ?_
          exact W.iret (v := 0) hx hb hr (fun t9 ht hW => ⟨⟨_, (1, hd, so, fq), rfl, Or.inr (Or.inl ⟨mk_z hr_2 c_3, rfl⟩), by rw [ht]; exact hP, va_K.moved hW.alike hK, hD⟩, hS.F ht⟩) hS.2.2 dX1_frequent_54
      · exact absurd (mk_nz hr_8 c_9) (mk_z hr_2 c_3)
  · obtain ⟨wi, hwi, hpw⟩ := mk_nz hr_2 c_3
    rw [hpw] at hl
    have hl : lv_has ls 2 [(0, .ref (ad 0)), (1, .int (nI wi))] := hl
    rw [hpw] at hr_2
    refine lv_aload_n hx hb dX1_frequent_8 rfl (lv_at hl 0 rfl) ?_
    refine lv_iload_n hx hb dX1_frequent_9 rfl (lv_at hl 1 rfl) ?_
    have hFc := va_free (wc := md ca ad th t k v n nw w kd ln hd so fq) hD hS hA [0, 1, 2, 3, 4, 5, 6] rfl
    refine va_callv (va_runV (As := [.int (nI wi)]) (rest := []) ⟨hx, hb, hml, hown, hts⟩ (m_hold l dC dI ca ad _ th t k v n nw w kd ln hd so fq wi  hn hk8 (by omega)) (cwV 1 hts (gg_V mlX1_71 imX1_hold seX1_hold in_WindowMetersModel kwX1_hold) rfl rfl rfl (by decide +kernel) ⟨Nat.le_of_ble_eq_true rfl, Nat.le_of_ble_eq_true rfl⟩) (md_preV hK hP hD [.int (nI wi)]) rfl rfl hl.1 rfl (lv_room (Nat.le_of_ble_eq_true rfl)) dX1_frequent_10 ⟨Nat.le_of_ble_eq_true rfl, Nat.le_of_ble_eq_true rfl⟩) hS (fun q _ h => hFc q h) hFc (fun u9 t9 H1 locs ht9 hvm hw_13 hB hz1 hk1 hS => ?_)
    obtain ⟨hP, -, hD1⟩ := hB
    rw [ht9] at hP
    have hD := hD1.weaken (fun k q hk h => hFc q.1 h)
    generalize H1 = H at hP hS ⊢
    have hP : va_P (dC, dI) vwCl (md ca ad th t k v n nw w kd ln u9.1 u9.2 fq) H := hP
    have hD : va_D A (md ca ad th t k v n nw w kd ln u9.1 u9.2 fq) := hD
    have hh9 : u9.1 ≤ 300 := Nat.le_trans hw_13.1 hn
    refine lv_aload_n hx hb dX1_frequent_13 rfl (lv_at hl 0 rfl) ?_
    refine lv_aload_n hx hb dX1_frequent_14 rfl (lv_at hl 0 rfl) ?_
    refine lv_iload_n hx hb dX1_frequent_15 rfl (lv_at hl 1 rfl) ?_
    refine vp_callSi (W.runV (As := [.int (nI wi)]) (rest := [.ref (ad 0)]) ⟨hx, hb, hml, hown, hts⟩ (m_isWindow l dC dI ca ad _ th t k v n nw w kd ln u9.1 u9.2 fq  (nI wi) hw6) (cwV 1 hts (gg_V mlX1_67 imX1_isWindow seX1_isWindow in_WindowMetersModel kwX1_isWindow) rfl rfl rfl (by decide +kernel) ⟨Nat.le_of_ble_eq_true rfl, Nat.le_of_ble_eq_true rfl⟩) (md_preV hK hP hD [.int (nI wi)]) rfl rfl hl.1 rfl (lv_room (Nat.le_of_ble_eq_true rfl)) dX1_frequent_16 ⟨Nat.le_of_ble_eq_true rfl, Nat.le_of_ble_eq_true rfl⟩) (fun r_14 hr_15 => ?_)
    refine lv_if_ne (tgt := 26) hx hb dX1_frequent_19 (by decide) (fun c_16 => ?_) (fun c_16 => ?_)
    · refine lv_iconst (v := 0) hx hb dX1_frequent_26 (by decide) ?_
      refine lv_aload_n hx hb dX1_frequent_27 rfl (lv_at hl 0 rfl) ?_
      refine lv_iload_n hx hb dX1_frequent_28 rfl (lv_at hl 1 rfl) ?_
      refine vp_callSi (W.runV (As := [.int (nI wi)]) (rest := [.int 0, .ref (ad 0)]) ⟨hx, hb, hml, hown, hts⟩ (m_isWindow l dC dI ca ad _ th t k v n nw w kd ln u9.1 u9.2 fq  (nI wi) hw6) (cwV 1 hts (gg_V mlX1_67 imX1_isWindow seX1_isWindow in_WindowMetersModel kwX1_isWindow) rfl rfl rfl (by decide +kernel) ⟨Nat.le_of_ble_eq_true rfl, Nat.le_of_ble_eq_true rfl⟩) (md_preV hK hP hD [.int (nI wi)]) rfl rfl hl.1 rfl (lv_room (Nat.le_of_ble_eq_true rfl)) dX1_frequent_29 ⟨Nat.le_of_ble_eq_true rfl, Nat.le_of_ble_eq_true rfl⟩) (fun r_17 hr_18 => ?_)
      refine lv_if_eq (tgt := 46) hx hb dX1_frequent_32 (by decide) (fun c_19 => ?_) (fun c_19 => ?_)
      · exact absurd (mk_nz hr_2 c_3) (mk_z hr_18 c_19)
      · refine lv_aload_n hx hb dX1_frequent_35 rfl (lv_at hl 0 rfl) ?_
        refine va_get (D := (dC, dI)) (ci := 1) (v := .int (nI u9.1)) (C := RX1) (T := TX1) (N := 12) hx hb hts hin0 hown hK hP 0 rfl rfl 9 (by decide) fl_58 (fun _ h9 => h9) rfl dX1_frequent_36 ?_
        refine lv_if_ne (tgt := 46) hx hb dX1_frequent_39 (by decide) (fun c_20 => ?_) (fun c_20 => ?_)
        · have hpos : 0 < u9.1 := Nat.pos_of_ne_zero (fun q => c_20 (by rw [q]; rfl))
          refine lv_iconst (v := 0) hx hb dX1_frequent_46 (by decide) ?_
          have hFc := va_free (wc := md ca ad th t k v n nw w kd ln u9.1 u9.2 fq) hD hS hA [0, 1, 2, 3, 4, 5, 6] rfl
          refine va_calli (va_runV (As := [.int 0, .int 0]) (rest := []) ⟨hx, hb, hml, hown, hts⟩ (m_refuse l dC dI ca ad _ th t k v n nw w kd ln u9.1 u9.2 fq 0 0) (cwV 2 hts (gg_V mlX1_46 imX1_refuse seX1_refuse in_WindowMetersModel kwX1_refuse) rfl rfl rfl (by decide +kernel) ⟨Nat.le_of_ble_eq_true rfl, Nat.le_of_ble_eq_true rfl⟩) (md_preV hK hP hD [.int 0, .int 0]) rfl rfl hl.1 rfl (lv_room (Nat.le_of_ble_eq_true rfl)) dX1_frequent_47 ⟨Nat.le_of_ble_eq_true rfl, Nat.le_of_ble_eq_true rfl⟩) hS (fun q _ h => hFc q h) hFc (fun r_21 uz9 t9 H1 locs ht9 hvm hw_22 hB hz1 hk1 hS => ?_)
          obtain ⟨hP, -, hD1⟩ := hB
          rw [ht9] at hP
          have hD := hD1.weaken (fun k q hk h => hFc q.1 h)
          rw [show mr_th 0 0 = 0 from by decide] at hP hD
          generalize H1 = H at hP hS ⊢
          have hP : va_P (dC, dI) vwCl (md ca ad 0 t k v n nw w kd ln u9.1 u9.2 fq) H := hP
          have hD : va_D A (md ca ad 0 t k v n nw w kd ln u9.1 u9.2 fq) := hD
          obtain rfl : r_21 = 0 := mk_no hw_22 (by decide)
          refine lv_if_eq (tgt := 55) hx hb dX1_frequent_50 (by decide) (fun c_23 => ?_) (fun c_23 => ?_)
          · refine lv_aload_n hx hb dX1_frequent_55 rfl (lv_at hl 0 rfl) ?_
            refine va_get (D := (dC, dI)) (ci := 1) (v := .ref (ad 6)) (C := RX1) (T := TX1) (N := 12) hx hb hts hin0 hown hK hP 0 rfl rfl 10 (by decide) fl_25 (fun _ h9 => h9) rfl dX1_frequent_56 ?_
            refine lv_aload_n hx hb dX1_frequent_59 rfl (lv_at hl 0 rfl) ?_
            have hFc := va_free (wc := md ca ad 0 t k v n nw w kd ln u9.1 u9.2 fq) hD hS hA [0, 1, 2, 3, 4, 5, 6] rfl
            refine va_calli (va_runV (As := []) (rest := [.ref (ad 6)]) ⟨hx, hb, hml, hown, hts⟩ (m_most l dC dI ca ad _ 0 t k v n nw w kd ln u9.1 u9.2 fq hh9) (cwV 0 hts (gg_V mlX1_75 imX1_most seX1_most in_WindowMetersModel kwX1_most) rfl rfl rfl (by decide +kernel) ⟨Nat.le_of_ble_eq_true rfl, Nat.le_of_ble_eq_true rfl⟩) (md_preV hK hP hD []) rfl rfl hl.1 rfl (lv_room (Nat.le_of_ble_eq_true rfl)) dX1_frequent_60 ⟨Nat.le_of_ble_eq_true rfl, Nat.le_of_ble_eq_true rfl⟩) hS (fun q _ h => hFc q h) hFc (fun r_24 f9 t9 H1 locs ht9 hvm hw_25 hB hz1 hk1 hS => ?_)
            obtain ⟨hP, -, hD1⟩ := hB
            rw [ht9] at hP
            have hD := hD1.weaken (fun k q hk h => hFc q.1 h)
            generalize H1 = H at hP hS ⊢
            have hP : va_P (dC, dI) vwCl (md ca ad 0 t k v n nw w kd ln u9.1 u9.2 f9) H := hP
            have hD : va_D A (md ca ad 0 t k v n nw w kd ln u9.1 u9.2 f9) := hD
            obtain ⟨j9, hj⟩ := (mo_some u9.2 u9.1 hpos).2
            have hj9 : j9 < u9.1 := (mo_in u9.2 u9.1).1 j9 hj
            obtain rfl : r_24 = nI j9 := by rw [hw_25.1, hj]; rfl
            refine ya_iald hx hb hK hP 6 5 rfl rfl (j := j9) (by omega) (by decide) dX1_frequent_63 ?_
            exact W.iret (v := (u9.2 j9)) hx hb hr (fun t9 ht hW => ⟨⟨_, (0, u9.1, u9.2, f9), rfl, Or.inl ⟨wi, j9, hwi, hpw, rfl, hw_13, hj9, hj, rfl⟩, by rw [ht]; exact hP, va_K.moved hW.alike hK, hD⟩, hS.F ht⟩) hS.2.2 dX1_frequent_64
          · first | exact absurd rfl c_23 | exact absurd c_23 (by decide)
        · have hz0 : u9.1 = 0 := Decidable.byContradiction (fun q => yn_n0 (Nat.pos_of_ne_zero q) (by omega) c_20)
          refine lv_iconst (v := 1) hx hb dX1_frequent_42 (by decide) ?_
          refine lv_goto (tgt := 47) hx hb dX1_frequent_43 (by decide) ?_
          have hFc := va_free (wc := md ca ad th t k v n nw w kd ln u9.1 u9.2 fq) hD hS hA [0, 1, 2, 3, 4, 5, 6] rfl
          refine va_calli (va_runV (As := [.int 0, .int 1]) (rest := []) ⟨hx, hb, hml, hown, hts⟩ (m_refuse l dC dI ca ad _ th t k v n nw w kd ln u9.1 u9.2 fq 0 1) (cwV 2 hts (gg_V mlX1_46 imX1_refuse seX1_refuse in_WindowMetersModel kwX1_refuse) rfl rfl rfl (by decide +kernel) ⟨Nat.le_of_ble_eq_true rfl, Nat.le_of_ble_eq_true rfl⟩) (md_preV hK hP hD [.int 0, .int 1]) rfl rfl hl.1 rfl (lv_room (Nat.le_of_ble_eq_true rfl)) dX1_frequent_47 ⟨Nat.le_of_ble_eq_true rfl, Nat.le_of_ble_eq_true rfl⟩) hS (fun q _ h => hFc q h) hFc (fun r_26 uz9 t9 H1 locs ht9 hvm hw_27 hB hz1 hk1 hS => ?_)
          obtain ⟨hP, -, hD1⟩ := hB
          rw [ht9] at hP
          have hD := hD1.weaken (fun k q hk h => hFc q.1 h)
          rw [show mr_th 0 1 = 2 from by decide] at hP hD
          generalize H1 = H at hP hS ⊢
          have hP : va_P (dC, dI) vwCl (md ca ad 2 t k v n nw w kd ln u9.1 u9.2 fq) H := hP
          have hD : va_D A (md ca ad 2 t k v n nw w kd ln u9.1 u9.2 fq) := hD
          obtain rfl : r_26 = 1 := mk_yes hw_27 (by decide)
          refine lv_if_eq (tgt := 55) hx hb dX1_frequent_50 (by decide) (fun c_28 => ?_) (fun c_28 => ?_)
          · first | exact absurd rfl c_28 | exact absurd c_28 (by decide)
          · refine lv_iconst (v := 0) hx hb dX1_frequent_53 (by decide) ?_
            exact W.iret (v := 0) hx hb hr (fun t9 ht hW => ⟨⟨_, (2, u9.1, u9.2, fq), rfl, Or.inr (Or.inr ⟨wi, hwi, hpw, rfl, hw_13, hz0⟩), by rw [ht]; exact hP, va_K.moved hW.alike hK, hD⟩, hS.F ht⟩) hS.2.2 dX1_frequent_54
    · exact absurd (mk_nz hr_2 c_3) (mk_z hr_15 c_16)

set_option maxRecDepth 100000 in
set_option maxHeartbeats 4000000 in
/-- WindowMetersModel() -/
theorem c_X1_init (l : Launch) (dC : Nat → ClassId) (dI : Nat → Nat → Nat) (h0 sz : Nat) : Met l yX1_init wsX1_init ({ frames := 1, cells := 6, slots := 1212, locals := 12 }) (va_Pc [.ref h0] (fun U => U.heap.size = sz ∧ va_P (dC, dI) vwCl [(h0, .inr (1, [.int 0, .int 0, .null, .null, .null, .int 0, .int 0, .null, .null, .int 0, .null, .int 0]))] U.heap ∧ va_K (dC, dI) vwCl [] U ∧ va_D (fun _ => True) [(h0, .inr (1, [.int 0, .int 0, .null, .null, .null, .int 0, .int 0, .null, .null, .int 0, .null, .int 0]))])) (va_Qv (fun u : (Nat → ClassId) × (Nat → Nat) => u.2 0 = h0) (fun u t9 => mdAt dC dI u.1 u.2 (va_A [(h0, .inr (1, [.int 0, .int 0, .null, .null, .null, .int 0, .int 0, .null, .null, .int 0, .null, .int 0]))] sz) 0 (fun _ => 0) (fun _ => 0) (fun _ => 0) 0 0 0 (fun _ => 0) (fun _ => 0) 0 (fun _ => 0) 0 t9) (va_A [(h0, .inr (1, [.int 0, .int 0, .null, .null, .null, .int 0, .int 0, .null, .null, .int 0, .null, .int 0]))] sz)) 6 1212 (va_A [(h0, .inr (1, [.int 0, .int 0, .null, .null, .null, .int 0, .int 0, .null, .null, .int 0, .null, .int 0]))] sz) := by
  refine Met.ofW (cc := cX1_init) (maxL := 1) (ret := none) (by decide) rfl ?_
  intro p e s m args below meth c s₁ B hml hv
  obtain ⟨rfl, hsz, hP, hK, hD0⟩ := hv
  have hx := B.exec
  have hb := B.bytes
  have hr := B.returns
  have hts := atoms_spec (ws := wsX1_init) B.pre
  have hown : s.vm.findClass RX1 = some m.cls := findClass_of_methodNamed B.named
  have hlocks := B.notSynchronized
  have hin : meth.name = "<init>" := (name_of_methodNamed B.named B.method).1
  subst hsz
  have hin0 : ∀ w ∈ u_ws RX1 TX1 12, w ∈ wsX1_init := fun w h => List.mem_cons_of_mem _ (wiX1 w h)
  have hD := hD0.self (sz := s.heap.size)
  generalize hAe : va_A [(h0, .inr (1, [.int 0, .int 0, .null, .null, .null, .int 0, .int 0, .null, .null, .int 0, .null, .int 0]))] s.heap.size = A at hD ⊢
  have hA : ∀ q : Nat, s.heap.size ≤ q → A q := fun q h => by rw [← hAe]; exact Or.inr h
  have hS : va_S A s.heap s.heap [] := va_S.rf
  have hl := lv_entry ([.ref h0]) (n := 1) (Nat.le_of_ble_eq_true rfl)
  rw [lg_entry_eq]
  generalize (lg_sl ([.ref h0]) ++ List.replicate (1 - (lg_sl ([.ref h0])).length) Slot.unset).toArray = ls at hl ⊢
  have hl : lv_has ls 1 [(0, .ref h0)] := hl
  refine lv_aload_n hx hb dX1_init_0 rfl (lv_at hl 0 rfl) ?_
  refine W.objInit hx hb hown (hts _ (List.mem_cons_of_mem _ mlX1_1)) (hts _ (List.mem_cons_of_mem _ im_obj)) (hts _ (List.mem_cons_of_mem _ kw_obj)) rfl (by rw [hml]; exact hl.1) rfl dX1_init_1 (Nat.le_of_ble_eq_true rfl) (Nat.le_of_ble_eq_true rfl) ?_
  refine W.eq (g2 := F0 m 4 ls []) rfl ?_
  refine lv_aload_n hx hb dX1_init_4 rfl (lv_at hl 0 rfl) ?_
  refine lv_sipush (v := 300) hx hb dX1_init_5 (by decide) ?_
  refine va_newa (atype := .int) (N' := 300) (a0 := (300, .inl (fun _ => 0))) (ty := .int) hx hb (hts _ (List.mem_cons_of_mem _ ac_int)) rfl hK hP hD hS hA (fun _ => rfl) (by decide) (by decide) (by decide) (Nat.le_of_ble_eq_true rfl) (Nat.le_of_ble_eq_true rfl) dX1_init_8 (fun q1 cA1 H hK hP hD hS => ?_)
  have hK : va_K (dC, dI) vwCl [(cA1, .int)] s := hK
  have hP : va_P (dC, dI) vwCl [(h0, .inr (1, [.int 0, .int 0, .null, .null, .null, .int 0, .int 0, .null, .null, .int 0, .null, .int 0])), (q1, .inl (cA1, 300, .inl (fun _ => 0)))] H := hP
  have hD : va_D A [(h0, .inr (1, [.int 0, .int 0, .null, .null, .null, .int 0, .int 0, .null, .null, .int 0, .null, .int 0])), (q1, .inl (cA1, 300, .inl (fun _ => 0)))] := hD
  refine W.widen (k := 1) (n := 300) (Nat.le_of_ble_eq_true rfl) (Nat.le_of_ble_eq_true rfl) ?_
  refine va_putF (D := (dC, dI)) (ci := 1) (v := .ref q1) (ty := .array .int) (C := RX1) (T := TX1) (N := 12) hx hb hts hin0 tyX1 tyX1_ok nmX1 hown hK hP hD hS 0 rfl rfl 2 (by decide) (hts _ (List.mem_cons_of_mem _ flX1_7)) (fun _ h9 => h9) rfl hin rfl (by decide +kernel) rfl rfl (Nat.le_of_ble_eq_true rfl) dX1_init_10 (fun H locs hP hD hS => ?_)
  have hP : va_P (dC, dI) vwCl [(h0, .inr (1, [.int 0, .int 0, .ref q1, .null, .null, .int 0, .int 0, .null, .null, .int 0, .null, .int 0])), (q1, .inl (cA1, 300, .inl (fun _ => 0)))] H := hP
  have hD : va_D A [(h0, .inr (1, [.int 0, .int 0, .ref q1, .null, .null, .int 0, .int 0, .null, .null, .int 0, .null, .int 0])), (q1, .inl (cA1, 300, .inl (fun _ => 0)))] := hD
  refine lv_aload_n hx hb dX1_init_13 rfl (lv_at hl 0 rfl) ?_
  refine lv_sipush (v := 300) hx hb dX1_init_14 (by decide) ?_
  refine va_newa (atype := .int) (N' := 300) (a0 := (300, .inl (fun _ => 0))) (ty := .int) hx hb (hts _ (List.mem_cons_of_mem _ ac_int)) rfl hK hP hD hS hA (fun _ => rfl) (by decide) (by decide) (by decide) (Nat.le_of_ble_eq_true rfl) (Nat.le_of_ble_eq_true rfl) dX1_init_17 (fun q2 cA2 H hK hP hD hS => ?_)
  have hK : va_K (dC, dI) vwCl [(cA1, .int), (cA2, .int)] s := hK
  have hP : va_P (dC, dI) vwCl [(h0, .inr (1, [.int 0, .int 0, .ref q1, .null, .null, .int 0, .int 0, .null, .null, .int 0, .null, .int 0])), (q1, .inl (cA1, 300, .inl (fun _ => 0))), (q2, .inl (cA2, 300, .inl (fun _ => 0)))] H := hP
  have hD : va_D A [(h0, .inr (1, [.int 0, .int 0, .ref q1, .null, .null, .int 0, .int 0, .null, .null, .int 0, .null, .int 0])), (q1, .inl (cA1, 300, .inl (fun _ => 0))), (q2, .inl (cA2, 300, .inl (fun _ => 0)))] := hD
  refine W.widen (k := 2) (n := 600) (Nat.le_of_ble_eq_true rfl) (Nat.le_of_ble_eq_true rfl) ?_
  refine va_putF (D := (dC, dI)) (ci := 1) (v := .ref q2) (ty := .array .int) (C := RX1) (T := TX1) (N := 12) hx hb hts hin0 tyX1 tyX1_ok nmX1 hown hK hP hD hS 0 rfl rfl 3 (by decide) (hts _ (List.mem_cons_of_mem _ flX1_13)) (fun _ h9 => h9) rfl hin rfl (by decide +kernel) rfl rfl (Nat.le_of_ble_eq_true rfl) dX1_init_19 (fun H locs hP hD hS => ?_)
  have hP : va_P (dC, dI) vwCl [(h0, .inr (1, [.int 0, .int 0, .ref q1, .ref q2, .null, .int 0, .int 0, .null, .null, .int 0, .null, .int 0])), (q1, .inl (cA1, 300, .inl (fun _ => 0))), (q2, .inl (cA2, 300, .inl (fun _ => 0)))] H := hP
  have hD : va_D A [(h0, .inr (1, [.int 0, .int 0, .ref q1, .ref q2, .null, .int 0, .int 0, .null, .null, .int 0, .null, .int 0])), (q1, .inl (cA1, 300, .inl (fun _ => 0))), (q2, .inl (cA2, 300, .inl (fun _ => 0)))] := hD
  refine lv_aload_n hx hb dX1_init_22 rfl (lv_at hl 0 rfl) ?_
  refine lv_sipush (v := 300) hx hb dX1_init_23 (by decide) ?_
  refine va_newa (atype := .int) (N' := 300) (a0 := (300, .inl (fun _ => 0))) (ty := .int) hx hb (hts _ (List.mem_cons_of_mem _ ac_int)) rfl hK hP hD hS hA (fun _ => rfl) (by decide) (by decide) (by decide) (Nat.le_of_ble_eq_true rfl) (Nat.le_of_ble_eq_true rfl) dX1_init_26 (fun q3 cA3 H hK hP hD hS => ?_)
  have hK : va_K (dC, dI) vwCl [(cA1, .int), (cA2, .int), (cA3, .int)] s := hK
  have hP : va_P (dC, dI) vwCl [(h0, .inr (1, [.int 0, .int 0, .ref q1, .ref q2, .null, .int 0, .int 0, .null, .null, .int 0, .null, .int 0])), (q1, .inl (cA1, 300, .inl (fun _ => 0))), (q2, .inl (cA2, 300, .inl (fun _ => 0))), (q3, .inl (cA3, 300, .inl (fun _ => 0)))] H := hP
  have hD : va_D A [(h0, .inr (1, [.int 0, .int 0, .ref q1, .ref q2, .null, .int 0, .int 0, .null, .null, .int 0, .null, .int 0])), (q1, .inl (cA1, 300, .inl (fun _ => 0))), (q2, .inl (cA2, 300, .inl (fun _ => 0))), (q3, .inl (cA3, 300, .inl (fun _ => 0)))] := hD
  refine W.widen (k := 3) (n := 900) (Nat.le_of_ble_eq_true rfl) (Nat.le_of_ble_eq_true rfl) ?_
  refine va_putF (D := (dC, dI)) (ci := 1) (v := .ref q3) (ty := .array .int) (C := RX1) (T := TX1) (N := 12) hx hb hts hin0 tyX1 tyX1_ok nmX1 hown hK hP hD hS 0 rfl rfl 4 (by decide) (hts _ (List.mem_cons_of_mem _ flX1_16)) (fun _ h9 => h9) rfl hin rfl (by decide +kernel) rfl rfl (Nat.le_of_ble_eq_true rfl) dX1_init_28 (fun H locs hP hD hS => ?_)
  have hP : va_P (dC, dI) vwCl [(h0, .inr (1, [.int 0, .int 0, .ref q1, .ref q2, .ref q3, .int 0, .int 0, .null, .null, .int 0, .null, .int 0])), (q1, .inl (cA1, 300, .inl (fun _ => 0))), (q2, .inl (cA2, 300, .inl (fun _ => 0))), (q3, .inl (cA3, 300, .inl (fun _ => 0)))] H := hP
  have hD : va_D A [(h0, .inr (1, [.int 0, .int 0, .ref q1, .ref q2, .ref q3, .int 0, .int 0, .null, .null, .int 0, .null, .int 0])), (q1, .inl (cA1, 300, .inl (fun _ => 0))), (q2, .inl (cA2, 300, .inl (fun _ => 0))), (q3, .inl (cA3, 300, .inl (fun _ => 0)))] := hD
  refine lv_aload_n hx hb dX1_init_31 rfl (lv_at hl 0 rfl) ?_
  refine lv_bipush (v := 6) hx hb dX1_init_32 (by decide) ?_
  refine va_newa (atype := .int) (N' := 6) (a0 := (6, .inl (fun _ => 0))) (ty := .int) hx hb (hts _ (List.mem_cons_of_mem _ ac_int)) rfl hK hP hD hS hA (fun _ => rfl) (by decide) (by decide) (by decide) (Nat.le_of_ble_eq_true rfl) (Nat.le_of_ble_eq_true rfl) dX1_init_34 (fun q4 cA4 H hK hP hD hS => ?_)
  have hK : va_K (dC, dI) vwCl [(cA1, .int), (cA2, .int), (cA3, .int), (cA4, .int)] s := hK
  have hP : va_P (dC, dI) vwCl [(h0, .inr (1, [.int 0, .int 0, .ref q1, .ref q2, .ref q3, .int 0, .int 0, .null, .null, .int 0, .null, .int 0])), (q1, .inl (cA1, 300, .inl (fun _ => 0))), (q2, .inl (cA2, 300, .inl (fun _ => 0))), (q3, .inl (cA3, 300, .inl (fun _ => 0))), (q4, .inl (cA4, 6, .inl (fun _ => 0)))] H := hP
  have hD : va_D A [(h0, .inr (1, [.int 0, .int 0, .ref q1, .ref q2, .ref q3, .int 0, .int 0, .null, .null, .int 0, .null, .int 0])), (q1, .inl (cA1, 300, .inl (fun _ => 0))), (q2, .inl (cA2, 300, .inl (fun _ => 0))), (q3, .inl (cA3, 300, .inl (fun _ => 0))), (q4, .inl (cA4, 6, .inl (fun _ => 0)))] := hD
  refine W.widen (k := 4) (n := 906) (Nat.le_of_ble_eq_true rfl) (Nat.le_of_ble_eq_true rfl) ?_
  refine va_putF (D := (dC, dI)) (ci := 1) (v := .ref q4) (ty := .array .int) (C := RX1) (T := TX1) (N := 12) hx hb hts hin0 tyX1 tyX1_ok nmX1 hown hK hP hD hS 0 rfl rfl 7 (by decide) (hts _ (List.mem_cons_of_mem _ flX1_19)) (fun _ h9 => h9) rfl hin rfl (by decide +kernel) rfl rfl (Nat.le_of_ble_eq_true rfl) dX1_init_36 (fun H locs hP hD hS => ?_)
  have hP : va_P (dC, dI) vwCl [(h0, .inr (1, [.int 0, .int 0, .ref q1, .ref q2, .ref q3, .int 0, .int 0, .ref q4, .null, .int 0, .null, .int 0])), (q1, .inl (cA1, 300, .inl (fun _ => 0))), (q2, .inl (cA2, 300, .inl (fun _ => 0))), (q3, .inl (cA3, 300, .inl (fun _ => 0))), (q4, .inl (cA4, 6, .inl (fun _ => 0)))] H := hP
  have hD : va_D A [(h0, .inr (1, [.int 0, .int 0, .ref q1, .ref q2, .ref q3, .int 0, .int 0, .ref q4, .null, .int 0, .null, .int 0])), (q1, .inl (cA1, 300, .inl (fun _ => 0))), (q2, .inl (cA2, 300, .inl (fun _ => 0))), (q3, .inl (cA3, 300, .inl (fun _ => 0))), (q4, .inl (cA4, 6, .inl (fun _ => 0)))] := hD
  refine lv_aload_n hx hb dX1_init_39 rfl (lv_at hl 0 rfl) ?_
  refine lv_bipush (v := 6) hx hb dX1_init_40 (by decide) ?_
  refine va_newa (atype := .int) (N' := 6) (a0 := (6, .inl (fun _ => 0))) (ty := .int) hx hb (hts _ (List.mem_cons_of_mem _ ac_int)) rfl hK hP hD hS hA (fun _ => rfl) (by decide) (by decide) (by decide) (Nat.le_of_ble_eq_true rfl) (Nat.le_of_ble_eq_true rfl) dX1_init_42 (fun q5 cA5 H hK hP hD hS => ?_)
  have hK : va_K (dC, dI) vwCl [(cA1, .int), (cA2, .int), (cA3, .int), (cA4, .int), (cA5, .int)] s := hK
  have hP : va_P (dC, dI) vwCl [(h0, .inr (1, [.int 0, .int 0, .ref q1, .ref q2, .ref q3, .int 0, .int 0, .ref q4, .null, .int 0, .null, .int 0])), (q1, .inl (cA1, 300, .inl (fun _ => 0))), (q2, .inl (cA2, 300, .inl (fun _ => 0))), (q3, .inl (cA3, 300, .inl (fun _ => 0))), (q4, .inl (cA4, 6, .inl (fun _ => 0))), (q5, .inl (cA5, 6, .inl (fun _ => 0)))] H := hP
  have hD : va_D A [(h0, .inr (1, [.int 0, .int 0, .ref q1, .ref q2, .ref q3, .int 0, .int 0, .ref q4, .null, .int 0, .null, .int 0])), (q1, .inl (cA1, 300, .inl (fun _ => 0))), (q2, .inl (cA2, 300, .inl (fun _ => 0))), (q3, .inl (cA3, 300, .inl (fun _ => 0))), (q4, .inl (cA4, 6, .inl (fun _ => 0))), (q5, .inl (cA5, 6, .inl (fun _ => 0)))] := hD
  refine W.widen (k := 5) (n := 912) (Nat.le_of_ble_eq_true rfl) (Nat.le_of_ble_eq_true rfl) ?_
  refine va_putF (D := (dC, dI)) (ci := 1) (v := .ref q5) (ty := .array .int) (C := RX1) (T := TX1) (N := 12) hx hb hts hin0 tyX1 tyX1_ok nmX1 hown hK hP hD hS 0 rfl rfl 8 (by decide) (hts _ (List.mem_cons_of_mem _ flX1_22)) (fun _ h9 => h9) rfl hin rfl (by decide +kernel) rfl rfl (Nat.le_of_ble_eq_true rfl) dX1_init_44 (fun H locs hP hD hS => ?_)
  have hP : va_P (dC, dI) vwCl [(h0, .inr (1, [.int 0, .int 0, .ref q1, .ref q2, .ref q3, .int 0, .int 0, .ref q4, .ref q5, .int 0, .null, .int 0])), (q1, .inl (cA1, 300, .inl (fun _ => 0))), (q2, .inl (cA2, 300, .inl (fun _ => 0))), (q3, .inl (cA3, 300, .inl (fun _ => 0))), (q4, .inl (cA4, 6, .inl (fun _ => 0))), (q5, .inl (cA5, 6, .inl (fun _ => 0)))] H := hP
  have hD : va_D A [(h0, .inr (1, [.int 0, .int 0, .ref q1, .ref q2, .ref q3, .int 0, .int 0, .ref q4, .ref q5, .int 0, .null, .int 0])), (q1, .inl (cA1, 300, .inl (fun _ => 0))), (q2, .inl (cA2, 300, .inl (fun _ => 0))), (q3, .inl (cA3, 300, .inl (fun _ => 0))), (q4, .inl (cA4, 6, .inl (fun _ => 0))), (q5, .inl (cA5, 6, .inl (fun _ => 0)))] := hD
  refine lv_aload_n hx hb dX1_init_47 rfl (lv_at hl 0 rfl) ?_
  refine lv_sipush (v := 300) hx hb dX1_init_48 (by decide) ?_
  refine va_newa (atype := .int) (N' := 300) (a0 := (300, .inl (fun _ => 0))) (ty := .int) hx hb (hts _ (List.mem_cons_of_mem _ ac_int)) rfl hK hP hD hS hA (fun _ => rfl) (by decide) (by decide) (by decide) (Nat.le_of_ble_eq_true rfl) (Nat.le_of_ble_eq_true rfl) dX1_init_51 (fun q6 cA6 H hK hP hD hS => ?_)
  have hK : va_K (dC, dI) vwCl [(cA1, .int), (cA2, .int), (cA3, .int), (cA4, .int), (cA5, .int), (cA6, .int)] s := hK
  have hP : va_P (dC, dI) vwCl [(h0, .inr (1, [.int 0, .int 0, .ref q1, .ref q2, .ref q3, .int 0, .int 0, .ref q4, .ref q5, .int 0, .null, .int 0])), (q1, .inl (cA1, 300, .inl (fun _ => 0))), (q2, .inl (cA2, 300, .inl (fun _ => 0))), (q3, .inl (cA3, 300, .inl (fun _ => 0))), (q4, .inl (cA4, 6, .inl (fun _ => 0))), (q5, .inl (cA5, 6, .inl (fun _ => 0))), (q6, .inl (cA6, 300, .inl (fun _ => 0)))] H := hP
  have hD : va_D A [(h0, .inr (1, [.int 0, .int 0, .ref q1, .ref q2, .ref q3, .int 0, .int 0, .ref q4, .ref q5, .int 0, .null, .int 0])), (q1, .inl (cA1, 300, .inl (fun _ => 0))), (q2, .inl (cA2, 300, .inl (fun _ => 0))), (q3, .inl (cA3, 300, .inl (fun _ => 0))), (q4, .inl (cA4, 6, .inl (fun _ => 0))), (q5, .inl (cA5, 6, .inl (fun _ => 0))), (q6, .inl (cA6, 300, .inl (fun _ => 0)))] := hD
  refine W.widen (k := 6) (n := 1212) (Nat.le_of_ble_eq_true rfl) (Nat.le_of_ble_eq_true rfl) ?_
  refine va_putF (D := (dC, dI)) (ci := 1) (v := .ref q6) (ty := .array .int) (C := RX1) (T := TX1) (N := 12) hx hb hts hin0 tyX1 tyX1_ok nmX1 hown hK hP hD hS 0 rfl rfl 10 (by decide) (hts _ (List.mem_cons_of_mem _ flX1_25)) (fun _ h9 => h9) rfl hin rfl (by decide +kernel) rfl rfl (Nat.le_of_ble_eq_true rfl) dX1_init_53 (fun H locs hP hD hS => ?_)
  have hP : va_P (dC, dI) vwCl [(h0, .inr (1, [.int 0, .int 0, .ref q1, .ref q2, .ref q3, .int 0, .int 0, .ref q4, .ref q5, .int 0, .ref q6, .int 0])), (q1, .inl (cA1, 300, .inl (fun _ => 0))), (q2, .inl (cA2, 300, .inl (fun _ => 0))), (q3, .inl (cA3, 300, .inl (fun _ => 0))), (q4, .inl (cA4, 6, .inl (fun _ => 0))), (q5, .inl (cA5, 6, .inl (fun _ => 0))), (q6, .inl (cA6, 300, .inl (fun _ => 0)))] H := hP
  have hD : va_D A [(h0, .inr (1, [.int 0, .int 0, .ref q1, .ref q2, .ref q3, .int 0, .int 0, .ref q4, .ref q5, .int 0, .ref q6, .int 0])), (q1, .inl (cA1, 300, .inl (fun _ => 0))), (q2, .inl (cA2, 300, .inl (fun _ => 0))), (q3, .inl (cA3, 300, .inl (fun _ => 0))), (q4, .inl (cA4, 6, .inl (fun _ => 0))), (q5, .inl (cA5, 6, .inl (fun _ => 0))), (q6, .inl (cA6, 300, .inl (fun _ => 0)))] := hD
  exact W.vret hx hb hr (fun t9 ht hW => ⟨⟨((fun i => match i with | 1 => cA1 | 2 => cA2 | 3 => cA3 | 4 => cA4 | 5 => cA5 | 6 => cA6 | _ => cA1), (fun i => match i with | 0 => h0 | 1 => q1 | 2 => q2 | 3 => q3 | 4 => q4 | 5 => q5 | 6 => q6 | _ => 0)), rfl, rfl, by rw [ht]; exact hP, va_K.moved hW.alike hK, hD⟩, hS.F ht⟩) hS.2.2 dX1_init_56
end
section
/-! class and model speak of the same window -/
def rg (x : Int32) : Prop := 0 ≤ x ∧ x ≤ 1000000
theorem rg_i {x : Int32} (h : rg x) : 0 ≤ x.toInt ∧ x.toInt ≤ 1000000 := by
  obtain ⟨h1, h2⟩ := h
  rw [Int32.le_iff_toInt_le] at h1 h2
  exact ⟨h1, h2⟩
theorem sub_i {x y : Int32} (hx : rg x) (hy : rg y) : (x - y).toInt = x.toInt - y.toInt := by
  have a := rg_i hx
  have c := rg_i hy
  rw [Int32.toInt_sub]
  exact Int.bmod_eq_of_le (by omega) (by omega)
theorem td_iff {x y d : Int32} (hx : rg x) (hy : rg y) (hd : rg d) : x < y - d ↔ d < y - x := by
  rw [Int32.lt_iff_toInt_lt, Int32.lt_iff_toInt_lt, sub_i hy hd, sub_i hy hx]
  omega
theorem len_part {d : Int32} (h : rg d) : qc_len d = mr_part d := by
  unfold qc_len mr_part
  by_cases c : d = 0
  · rw [if_pos c, if_pos (by rw [c]; exact Int32.le_refl 0)]
  · rw [if_neg c, if_neg (fun q => c (Int32.le_antisymm q h.1))]
/-- what holds of the state between calls -/
def ji (t : Nat → Int32) (k : Nat → Nat) (v : Nat → Int32) (b : Nat → Nat) (n : Nat) (ln : Nat → Int32) (w : Nat) (nw : Int32) : Prop := n ≤ 300 ∧ w ≤ 6 ∧ (∀ j, j < n → k j < 8) ∧ pb_ok b n ∧ pb_so v b n ∧ (∀ j, j < n → rg (t j)) ∧ rg nw ∧ ∀ i, i < w → rg (ln i)
theorem in_iff {t : Nat → Int32} {k : Nat → Nat} {n : Nat} {nw kind d : Int32} {j : Nat} (hj : j < n) (ht : ∀ j, j < n → rg (t j)) (hw : rg nw) (hd : rg d) : qc_in t k n nw kind d j ↔ mi_in t k n nw kind d j := by
  unfold qc_in mi_in
  rw [len_part hd]
  by_cases c4 : kind = 4
  · subst c4
    rw [if_neg (by decide), if_neg (by decide), if_neg (by decide), if_neg (by decide), if_pos rfl, if_neg (by decide), if_neg (by decide), if_neg (by decide), if_neg (by decide), if_pos rfl]
    unfold qc_td mr_run qc_nx
    constructor
    · intro h
      refine ⟨?_, fun q h1 h2 => ?_⟩
      · have := h (n - 1) (by omega) (by omega)
        rw [if_neg (by omega)] at this
        exact this
      · have := h q h1 (by omega)
        rw [if_pos h2] at this
        exact fun g => this ((td_iff (ht q (by omega)) (ht (q + 1) h2) hd).mpr g)
    · intro h q h1 h2
      by_cases e : q + 1 < n
      · rw [if_pos e]
        exact fun g => h.2 q h1 e ((td_iff (ht q h2) (ht (q + 1) e) hd).mp g)
      · rw [if_neg e, show q = n - 1 by omega]
        exact h.1
  · rw [if_neg c4, if_neg c4]
theorem mk_eq {x y : Int32} {P Q : Prop} (h1 : qc_mk x P) (h2 : qc_mk y Q) (e : P ↔ Q) : x = y := by
  rcases h1 with ⟨rfl, p⟩ | ⟨rfl, p⟩
  · exact (mk_yes h2 (e.mp p)).symm
  · exact (mk_no h2 (fun q => p (e.mpr q))).symm
theorem jx_perm {v f so : Nat → Int32} {P Q : Nat → Prop} {n hd : Nat} (hf : ∀ j, j < n → qc_mk (f j) (P j)) (e : ∀ j, j < n → (P j ↔ Q j)) (h : mh_ok v Q n hd so) : hd ≤ n ∧ ms_so so hd ∧ (ml so hd).Perm (wl v f n) := by
  obtain ⟨h1, h2, f', h3, h4⟩ := h
  refine ⟨h1, h2, ?_⟩
  rw [wl_congr n (fun j hj => mk_eq (hf j hj) (h3 j hj) (e j hj))]
  exact h4
theorem ml_len (so : Nat → Int32) (hd : Nat) : (ml so hd).length = hd := by
  unfold ml; rw [List.length_map, List.length_range]
/-- the sum -/
def ls (l : List Int32) : Int32 := l.foldr (fun x y => x + y) 0
theorem ls_perm {l l' : List Int32} (h : l.Perm l') : ls l = ls l' := by
  induction h with
  | nil => rfl
  | @cons a l1 l2 h ih => show a + ls l1 = a + ls l2; rw [ih]
  | swap a c l => show c + (a + ls l) = a + (c + ls l); rw [← Int32.add_assoc, ← Int32.add_assoc, Int32.add_comm c a]
  | trans _ _ ih1 ih2 => exact ih1.trans ih2
theorem ls_snoc (l : List Int32) (a : Int32) : ls (l ++ [a]) = ls l + a := by
  rw [ls_perm (List.perm_append_singleton a l)]
  show a + ls l = ls l + a
  rw [Int32.add_comm]
theorem sum_ls (v f : Nat → Int32) : ∀ n, qc_sum v f n = ls (wl v f n)
  | 0 => rfl
  | n + 1 => by
    have ih := sum_ls v f n
    rw [qc_sum, wl_s]
    by_cases h : f n = 0
    · rw [if_pos h, if_pos h]; exact ih
    · rw [if_neg h, if_neg h, ls_snoc, ih]
theorem msum_ls (so : Nat → Int32) : ∀ k, ms_f so k = ls (ml so k)
  | 0 => rfl
  | k + 1 => by rw [ms_f, ml_s, ls_snoc, msum_ls so k]
theorem ml_mem {so : Nat → Int32} {k : Nat} {x : Int32} : x ∈ ml so k ↔ ∃ j, j < k ∧ so j = x := by
  unfold ml
  simp only [List.mem_map, List.mem_range]
theorem so_last {so : Nat → Int32} {hd k : Nat} (hs : ms_so so hd) (hk : k < hd) : so k ∈ ml so k ↔ 0 < k ∧ so k = so (k - 1) := by
  constructor
  · intro h
    obtain ⟨j, hj, e⟩ := ml_mem.mp h
    refine ⟨by omega, Int32.le_antisymm ?_ (hs (k - 1) k (by omega) hk)⟩
    rw [← e]
    exact hs j (k - 1) (by omega) (by omega)
  · rintro ⟨h1, h2⟩
    exact ml_mem.mpr ⟨k - 1, by omega, h2.symm⟩
theorem mun_nd {so : Nat → Int32} {hd : Nat} (hs : ms_so so hd) : ∀ k, k ≤ hd → mu_f so k = nd (ml so k)
  | 0, _ => rfl
  | k + 1, h => by
    rw [mu_f, ml_s, nd_snoc, mun_nd hs k (by omega)]
    by_cases c : so k ∈ ml so k
    · have q := (so_last hs h).mp c
      rw [if_pos c, if_neg (fun g => g.elim (fun g => absurd g (by omega)) (fun g => g q.2))]
    · rw [if_neg c, if_pos]
      rcases Nat.eq_zero_or_pos k with z | z
      · exact Or.inl z
      · exact Or.inr (fun g => c ((so_last hs h).mpr ⟨z, g⟩))
theorem mfq_uniq {l l' : List Int32} {x y : Int32} {c d : Nat} (hp : l.Perm l') (h1 : mfq l x c) (h2 : mfq l' y d) : x = y ∧ c = d := by
  have e : ∀ z, l.count z = l'.count z := fun z => hp.count_eq z
  have cd : c = d := by
    have := h2.2.1 x
    rw [← e, h1.1] at this
    have := h1.2.1 y
    rw [e, h2.1] at this
    omega
  refine ⟨?_, cd⟩
  subst cd
  refine Int32.le_antisymm (Int32.not_lt.mp fun g => ?_) (Int32.not_lt.mp fun g => ?_)
  · have := h1.2.2 y g
    rw [e, h2.1] at this
    omega
  · have := h2.2.2 x g
    rw [← e, h1.1] at this
    omega
theorem mo_spec {so : Nat → Int32} {hd : Nat} (hs : ms_so so hd) : ∀ k, k ≤ hd → (∀ j, (mo_f so k).1 = some j → mfq (ml so k) (so j) (mo_f so k).2.1 ∧ 0 < (mo_f so k).2.1) ∧ (∀ y, (ml so k).count y ≤ (mo_f so k).2.1) ∧ (0 < k → (mo_f so k).2.2 < k ∧ so (mo_f so k).2.2 = so (k - 1) ∧ (ml so k).count (so (k - 1)) = k - (mo_f so k).2.2) := by
  intro k
  induction k with
  | zero => intro _; exact ⟨fun j h => (by cases h), fun y => Nat.zero_le _, fun h => absurd h (Nat.lt_irrefl 0)⟩
  | succ k ih =>
    intro hk
    obtain ⟨h1, h2, h3⟩ := ih (by omega)
    obtain ⟨bo, f9, fr, hq⟩ : ∃ bo f9 fr, mo_f so k = (bo, f9, fr) := ⟨_, _, _, rfl⟩
    rw [hq] at h1 h2 h3
    dsimp only at h1 h2 h3
    rw [mo_st hq rfl, ml_s]
    obtain ⟨F, hF⟩ : ∃ F, F = if 0 < k ∧ ¬ so k = so (k - 1) then k else fr := ⟨_, rfl⟩
    rw [← hF]
    have hle : ∀ y ∈ ml so k, y ≤ so k := fun y hy => by
      obtain ⟨j, hj, e⟩ := ml_mem.mp hy
      rw [← e]; exact hs j k (by omega) (by omega)
    have key : F < k + 1 ∧ so F = so k ∧ (ml so k ++ [so k]).count (so k) = k - F + 1 := by
      rw [count_snoc, if_pos rfl]
      by_cases c : 0 < k ∧ ¬ so k = so (k - 1)
      · rw [hF, if_pos c]
        refine ⟨by omega, rfl, ?_⟩
        rw [List.count_eq_zero_of_not_mem (fun g => c.2 ((so_last hs (by omega)).mp g).2)]
        omega
      · rw [hF, if_neg c]
        rcases Nat.eq_zero_or_pos k with z | z
        · subst z
          have e : fr = 0 := (congrArg (fun x => x.2.2) hq).symm
          subst e
          exact ⟨by omega, rfl, rfl⟩
        · have e : so k = so (k - 1) := Decidable.byContradiction (fun g => c ⟨z, g⟩)
          obtain ⟨g1, g2, g3⟩ := h3 z
          refine ⟨by omega, by rw [g2, e], ?_⟩
          rw [e, g3]
    obtain ⟨k1, k2, k3⟩ := key
    have last : 0 < k + 1 → F < k + 1 ∧ so F = so (k + 1 - 1) ∧ (ml so k ++ [so k]).count (so (k + 1 - 1)) = k + 1 - F := fun _ => ⟨k1, k2, by
      rw [show k + 1 - 1 = k from rfl, k3]; omega⟩
    by_cases c : f9 < k - F + 1
    · rw [if_pos c]
      have all : ∀ y, (ml so k ++ [so k]).count y ≤ k - F + 1 := fun y => by
        by_cases e : so k = y
        · rw [← e, k3]; exact Nat.le_refl _
        · rw [count_snoc, if_neg e]; exact Nat.le_trans (h2 y) (Nat.le_of_lt c)
      refine ⟨fun j h => ?_, all, last⟩
      cases h
      refine ⟨⟨by rw [k2]; exact k3, all, fun y hy => ?_⟩, Nat.succ_pos _⟩
      rw [count_snoc, if_neg (fun e => by rw [k2, e] at hy; exact Int32.lt_irrefl hy)]
      exact Nat.lt_of_le_of_lt (h2 y) c
    · rw [if_neg c]
      have all : ∀ y, (ml so k ++ [so k]).count y ≤ f9 := fun y => by
        by_cases e : so k = y
        · rw [← e, k3]; exact Nat.not_lt.mp c
        · rw [count_snoc, if_neg e]; exact h2 y
      refine ⟨fun j h => ?_, all, last⟩
      obtain ⟨⟨g1, g2, g3⟩, g4⟩ := h1 j h
      have hjm : so j ∈ ml so k := List.count_pos_iff.mp (by rw [g1]; exact g4)
      have hne : ¬ so k = so j := fun e => by
        have q := all (so j)
        rw [count_snoc, if_pos e, g1] at q
        omega
      refine ⟨⟨by rw [count_snoc, if_neg hne]; exact g1, all, fun y hy => ?_⟩, g4⟩
      rw [count_snoc]
      by_cases e : so k = y
      · exact absurd (Int32.lt_of_lt_of_le (e ▸ hy) (hle _ hjm)) Int32.lt_irrefl
      · rw [if_neg e]; exact g3 y hy
theorem bel_countP (v f : Nat → Int32) (x : Int32) : ∀ n, qc_bel v f x n = (wl v f n).countP (fun y => decide (y < x))
  | 0 => rfl
  | n + 1 => by
    have ih := bel_countP v f x n
    rw [qc_bel, wl_s]
    by_cases h : f n = 0
    · rw [if_pos h, if_pos h]; exact ih
    · rw [if_neg h, if_neg h, List.countP_append, ih]
      by_cases e : x ≤ v n
      · rw [if_pos e, List.countP_singleton, if_neg (by simpa using Int32.not_lt.mpr e)]; rfl
      · rw [if_neg e, List.countP_singleton, if_pos (by simpa using Int32.not_le.mp e)]
theorem mb_countP (so : Nat → Int32) (x : Int32) : ∀ k, mb_f so x k = (ml so k).countP (fun y => decide (y < x))
  | 0 => rfl
  | k + 1 => by
    have ih := mb_countP so x k
    rw [mb_f, ml_s, List.countP_append, ih]
    by_cases e : x ≤ so k
    · rw [if_pos e, List.countP_singleton, if_neg (by simpa using Int32.not_lt.mpr e)]; rfl
    · rw [if_neg e, List.countP_singleton, if_pos (by simpa using Int32.not_le.mp e)]
theorem ml_isk {so : Nat → Int32} {hd j : Nat} (hs : ms_so so hd) (hj : j < hd) : isk (ml so hd) (so j) j := by
  obtain ⟨d, rfl⟩ : ∃ d, hd = j + (d + 1) := ⟨hd - j - 1, by omega⟩
  have e : ml so (j + (d + 1)) = ml so j ++ so j :: (List.range d).map (fun y => so (j + (y + 1))) := by
    unfold ml
    rw [List.range_add, List.map_append, List.map_map, List.range_succ_eq_map, List.map_cons, List.map_map]
    rfl
  rw [e]
  unfold isk
  refine ⟨?_, ?_⟩
  · have z : ((List.range d).map (fun y => so (j + (y + 1)))).countP (fun y => decide (y < so j)) = 0 := List.countP_eq_zero.mpr (fun x hx => by
      obtain ⟨y, hy, rfl⟩ := List.mem_map.mp hx
      have hy := List.mem_range.mp hy
      simpa using Int32.not_lt.mpr (hs j (j + (y + 1)) (by omega) (by omega)))
    have z2 := List.countP_le_length (p := fun y => decide (y < so j)) (l := ml so j)
    rw [ml_len] at z2
    rw [List.countP_append, List.countP_cons, z, if_neg (by simp [Int32.lt_irrefl])]
    omega
  · have z : (ml so j).countP (fun y => decide (y ≤ so j)) = (ml so j).length := List.countP_eq_length.mpr (fun x hx => by
      obtain ⟨y, hy, e⟩ := ml_mem.mp hx
      exact decide_eq_true (by rw [← e]; exact hs y j (by omega) (by omega)))
    rw [ml_len] at z
    rw [List.countP_append, List.countP_cons, z, if_pos (decide_eq_true (Int32.le_refl _))]
    omega
/-! the answers are alike -/
theorem eq_met {v f so : Nat → Int32} {b : Nat → Nat} {n hd : Nat} (hb : pb_ok b n) (hs : pb_so v b n) (h : hd ≤ n ∧ ms_so so hd ∧ (ml so hd).Perm (wl v f n)) (p2 : Int32) : qx_met v b f n p2 = mm_f so hd p2 := by
  obtain ⟨-, h2, h3⟩ := h
  have hw := (wb_perm (v := v) (f := f) hb)
  unfold qx_met mm_f
  by_cases c0 : p2 = 0
  · rw [if_pos c0, if_pos c0, cnt_len v, ← h3.length_eq, ml_len]
  · rw [if_neg c0, if_neg c0]
    by_cases c1 : p2 = 1
    · rw [if_pos c1, if_pos c1, sum_ls, msum_ls, ls_perm h3]
    · rw [if_neg c1, if_neg c1]
      by_cases c2 : p2 = 2
      · rw [if_pos c2, if_pos c2, (unl_spec (f := f) hs n (Nat.le_refl n)).1, mun_nd h2 hd (Nat.le_refl hd), nd_perm hw, nd_perm h3]
      · rw [if_neg c2, if_neg c2]
        obtain ⟨f1, f2, -, -⟩ := fmf_spec (f := f) hs n (Nat.le_refl n)
        obtain ⟨m1, m2, -⟩ := mo_spec h2 hd (Nat.le_refl hd)
        unfold qc_cmf
        cases hm : (qc_fmf v b f n).1 with
        | none =>
          have e := (f1 hm).1
          have z : hd = 0 := by
            have l1 := (h3.trans hw.symm).length_eq
            rw [e, ml_len] at l1
            exact l1
          subst z
          rfl
        | some j =>
          obtain ⟨g1, g2⟩ := f2 j hm
          have pos : 0 < hd := by
            have l1 := (h3.trans hw.symm).length_eq
            rw [ml_len] at l1
            have l2 := List.count_le_length (a := v j) (l := wb v b f n)
            rw [g1.1] at l2
            omega
          obtain ⟨i, hi⟩ := (mo_some so hd pos).2
          obtain ⟨k1, k2⟩ := m1 i hi
          have u := (mfq_uniq (h3.trans hw.symm) k1 g1).2
          show nI (qc_eqc v f (v j) n) = nI (mo_f so hd).2.1
          rw [eqc_count, ← hw.count_eq, g1.1, u]
theorem eq_frq {v f so : Nat → Int32} {b : Nat → Nat} {n hd j i : Nat} (hb : pb_ok b n) (hs : pb_so v b n) (h : hd ≤ n ∧ ms_so so hd ∧ (ml so hd).Perm (wl v f n)) (hj : (qc_fmf v b f n).1 = some j) (hi : (mo_f so hd).1 = some i) : v j = so i := by
  obtain ⟨-, h2, h3⟩ := h
  have hw := (wb_perm (v := v) (f := f) hb)
  obtain ⟨-, f2, -, -⟩ := fmf_spec (f := f) hs n (Nat.le_refl n)
  obtain ⟨m1, m2, -⟩ := mo_spec h2 hd (Nat.le_refl hd)
  exact (mfq_uniq (h3.trans hw.symm) (m1 i hi).1 (f2 j hj).1).1.symm
theorem eq_frz {v f so : Nat → Int32} {b : Nat → Nat} {n hd : Nat} (hb : pb_ok b n) (hs : pb_so v b n) (h : hd ≤ n ∧ ms_so so hd ∧ (ml so hd).Perm (wl v f n)) : (qc_fmf v b f n).1 = none ↔ hd = 0 := by
  obtain ⟨-, h2, h3⟩ := h
  have hw := (wb_perm (v := v) (f := f) hb)
  obtain ⟨f1, f2, -, -⟩ := fmf_spec (f := f) hs n (Nat.le_refl n)
  have l1 := (h3.trans hw.symm).length_eq
  rw [ml_len] at l1
  constructor
  · intro e
    rw [(f1 e).1] at l1
    exact l1
  · intro z
    cases hm : (qc_fmf v b f n).1 with
    | none => rfl
    | some j =>
      obtain ⟨g1, g2⟩ := f2 j hm
      have l2 := List.count_le_length (a := v j) (l := wb v b f n)
      rw [g1.1] at l2
      omega
theorem eq_bel {v f so : Nat → Int32} {n hd : Nat} (h : hd ≤ n ∧ ms_so so hd ∧ (ml so hd).Perm (wl v f n)) (x : Int32) : qc_bel v f x n = mb_f so x hd := by
  rw [bel_countP, mb_countP, h.2.2.countP_eq]
theorem nI_inj {a c : Nat} (ha : a < 1000) (hc : c < 1000) (h : nI a = nI c) : a = c := by
  have e := congrArg Int32.toInt h
  rw [nI_toInt (by omega), nI_toInt (by omega)] at e
  omega
theorem eq_kth {v f so : Nat → Int32} {b : Nat → Nat} {n hd q j : Nat} (hn : n ≤ 300) (hb : pb_ok b n) (hs : pb_so v b n) (h : hd ≤ n ∧ ms_so so hd ∧ (ml so hd).Perm (wl v f n)) (hq : q < n) (hf : f (b q) ≠ 0) (hj : j < hd) (e : nI (qc_cnb b f q) = nI j) : v (b q) = so j := by
  obtain ⟨h1, h2, h3⟩ := h
  have hw := (wb_perm (v := v) (f := f) hb)
  obtain ⟨k1, k2⟩ := kth_in hs hq hf
  have l1 := (h3.trans hw.symm).length_eq
  rw [ml_len] at l1
  have e2 : qc_cnb b f q = j := nI_inj (by omega) (by omega) e
  rw [e2] at k1
  exact isk_uniq k1 (isk_perm (h3.trans hw.symm) (ml_isk h2 hj))
theorem eq_ktz {v f so : Nat → Int32} {b : Nat → Nat} {n hd : Nat} {p2 : Int32} (hb : pb_ok b n) (hs : pb_so v b n) (h : hd ≤ n ∧ ms_so so hd ∧ (ml so hd).Perm (wl v f n)) : (∃ q, q < n ∧ f (b q) ≠ 0 ∧ nI (qc_cnb b f q) = p2) ↔ qx_win hd p2 := by
  obtain ⟨h1, h2, h3⟩ := h
  have hw := (wb_perm (v := v) (f := f) hb)
  have l1 := (h3.trans hw.symm).length_eq
  rw [ml_len] at l1
  constructor
  · rintro ⟨q, a, c, d⟩
    obtain ⟨k1, k2⟩ := kth_in (f := f) hs a c
    exact ⟨qc_cnb b f q, by omega, d.symm⟩
  · rintro ⟨j, hj, rfl⟩
    obtain ⟨q, a, c, d⟩ := kth_all (v := v) (b := b) (f := f) n j (by omega)
    exact ⟨q, a, c, by rw [d]⟩
/-! the state's facts are kept -/
theorem ji_clear (t : Nat → Int32) (k : Nat → Nat) (v : Nat → Int32) (b : Nat → Nat) (ln : Nat → Int32) : ji t k v b 0 ln 0 0 :=
  ⟨Nat.zero_le _, Nat.zero_le _, fun j h => absurd h (Nat.not_lt_zero j), pb_0 b, pb_so0 v b, fun j h => absurd h (Nat.not_lt_zero j), ⟨by decide, by decide⟩, fun j h => absurd h (Nat.not_lt_zero j)⟩
theorem ji_window {t : Nat → Int32} {k : Nat → Nat} {v : Nat → Int32} {b : Nat → Nat} {n : Nat} {ln : Nat → Int32} {w : Nat} {nw p2 : Int32} (h : ji t k v b n ln w nw) (hw : w < 6) (hp : qx_in p2 0 1000000) : ji t k v b n (upd ln w p2) (w + 1) nw := by
  obtain ⟨h1, h2, h3, h4, h5, h6, h7, h8⟩ := h
  refine ⟨h1, hw, h3, h4, h5, h6, h7, fun i hi => ?_⟩
  by_cases e : i = w
  · subst e; rw [pk_us]; exact hp
  · rw [pk_un e]; exact h8 i (by omega)
theorem ji_tick {t : Nat → Int32} {k : Nat → Nat} {v : Nat → Int32} {b : Nat → Nat} {n : Nat} {ln : Nat → Int32} {w : Nat} {nw p1 : Int32} (h : ji t k v b n ln w nw) (hp : qx_in p1 nw 1000000) : ji t k v b n ln w p1 := by
  obtain ⟨h1, h2, h3, h4, h5, h6, h7, h8⟩ := h
  exact ⟨h1, h2, h3, h4, h5, h6, ⟨Int32.le_trans h7.1 hp.1, hp.2⟩, h8⟩
theorem ji_tuple {t : Nat → Int32} {k : Nat → Nat} {v : Nat → Int32} {b u : Nat → Nat} {n kk : Nat} {ln : Nat → Int32} {w : Nat} {nw p1 p3 : Int32} (h : ji t k v b n ln w nw) (hn : n < 300) (hp : qx_in p1 nw 1000000) (hk : kk < 8) (hu : qc_ins (upd v n p3) b n u) : ji (upd t n p1) (vu k n kk) (upd v n p3) u (n + 1) ln w p1 := by
  obtain ⟨h1, h2, h3, h4, h5, h6, h7, h8⟩ := h
  have hb := pb_lt h4
  have r : rg p1 := ⟨Int32.le_trans h7.1 hp.1, hp.2⟩
  refine ⟨hn, h2, fun j hj => ?_, pb_ins h4 hu, pb_so_ins hb (fun _ _ => rfl) (fun i j hij hj => ?_) hu, fun j hj => ?_, r, h8⟩
  · unfold vu
    by_cases e : j = n
    · rw [if_pos e]; exact hk
    · rw [if_neg e]; exact h3 j (by omega)
  · have a := hb i (by omega)
    have c := hb j hj
    rw [pk_un (by omega), pk_un (by omega)]
    exact h5 i j hij hj
  · by_cases e : j = n
    · subst e; rw [pk_us]; exact r
    · rw [pk_un e]; exact h6 j (by omega)
end
section
/-! the law's wrappers: the class's cells and the row out -/
abbrev wo (ca : Nat → ClassId) (ad : Nat → Nat) (co : ClassId) (oa : Nat) (t : Nat → Int32) (k : Nat → Nat) (v : Nat → Int32) (b : Nat → Nat) (n : Nat) (kd : Nat → Int32) (ln : Nat → Int32) (w : Nat) (nw : Int32) (ins : Nat → Int32) (sn : Nat → Nat) (o : Nat → Int64) : va_W := [(ad 0, .inr (0, [.ref (ad 1), .ref (ad 2), .ref (ad 3), .ref (ad 4), .int (nI n), .ref (ad 5), .ref (ad 6), .int (nI w), .int nw, .ref (ad 7), .ref (ad 8)])), (ad 1, .inl (ca 1, 300, .inl t)), (ad 2, .inl (ca 2, 300, .inl (fun j => nI (k j)))), (ad 3, .inl (ca 3, 300, .inl v)), (ad 4, .inl (ca 4, 300, .inl (fun j => nI (b j)))), (ad 5, .inl (ca 5, 6, .inl kd)), (ad 6, .inl (ca 6, 6, .inl ln)), (ad 7, .inl (ca 7, 300, .inl ins)), (ad 8, .inl (ca 8, 8, .inl (fun j => nI (sn j)))), (oa, .inl (co, 1, .inr (.inl o)))]
abbrev woT (ca : Nat → ClassId) (co : ClassId) : List (ClassId × FieldType) := [(ca 1, .int), (ca 2, .int), (ca 3, .int), (ca 4, .int), (ca 5, .int), (ca 6, .int), (ca 7, .boolean), (ca 8, .int), (co, .long)]
abbrev woPre (dC : Nat → ClassId) (dI : Nat → Nat → Nat) (ca : Nat → ClassId) (ad : Nat → Nat) (co : ClassId) (oa : Nat) (sz : Nat) (t : Nat → Int32) (k : Nat → Nat) (v : Nat → Int32) (b : Nat → Nat) (n : Nat) (kd : Nat → Int32) (ln : Nat → Int32) (w : Nat) (nw : Int32) (ins : Nat → Int32) (sn : Nat → Nat) (o : Nat → Int64) (U : State) : Prop := U.heap.size = sz ∧ va_P (dC, dI) vwCl (wo ca ad co oa t k v b n kd ln w nw ins sn o) U.heap ∧ va_K (dC, dI) vwCl (woT ca co) U ∧ va_D (fun _ => True) (wo ca ad co oa t k v b n kd ln w nw ins sn o)
abbrev woAt (dC : Nat → ClassId) (dI : Nat → Nat → Nat) (ca : Nat → ClassId) (ad : Nat → Nat) (co : ClassId) (oa : Nat) (A : Nat → Prop) (t : Nat → Int32) (k : Nat → Nat) (v : Nat → Int32) (b : Nat → Nat) (n : Nat) (kd : Nat → Int32) (ln : Nat → Int32) (w : Nat) (nw : Int32) (ins : Nat → Int32) (sn : Nat → Nat) (o : Nat → Int64) (U : State) : Prop := va_P (dC, dI) vwCl (wo ca ad co oa t k v b n kd ln w nw ins sn o) U.heap ∧ va_K (dC, dI) vwCl (woT ca co) U ∧ va_D A (wo ca ad co oa t k v b n kd ln w nw ins sn o)
theorem yo_in : vp_in 0 1 := vp_in_nI (n := 0) (by decide) (by decide)
theorem yo_cast {args : Array Value} {s : State} {A : Nat → Prop} {E : String} (hX : xwP A s) (h : Cond.castable E E ∈ xwB) : (Cond.castable E E).before args s = true := va_any rfl (hX.1.1 _ h)
theorem yo_lcmp {p : Program} {l : Launch} {e : Env} {R : Room} {s : State} {m : MethodId} {args : Array Value} {below : List Frame} {meth : Method} {c : Code} {H : Heap} {locs : List Loc} {cells slots pc : Nat} {Q : State → Prop} {cc : ByteArray} {ls : Array Slot} {a b : Int64} {rest : List Value} (he : a = b) (hx : p.tables.exec = Jvm.exec) (hb : c.code = cc) (hdg : decode cc pc = .ok (.lcmp, 1)) (kk : W p l e R s m args below meth c H locs cells slots Q (F0 m (pc + 1) ls (.int 0 :: rest))) : W p l e R s m args below meth c H locs cells slots Q (F0 m pc ls (.long b :: .long a :: rest)) := by
  subst he
  intro T hT X
  obtain ⟨t, a1, b1⟩ := kk T hT X
  exact ⟨t, X.lcmpEq hx (by rw [hb]; exact hdg) t a1, b1⟩
set_option maxRecDepth 100000 in
set_option maxHeartbeats 4000000 in
/-- the wrapper of window -/
theorem c_L_window (l : Launch) (hlt : l.stackTraces = false) (dC : Nat → ClassId) (dI : Nat → Nat → Nat) (ca : Nat → ClassId) (ad : Nat → Nat) (co : ClassId) (oa : Nat) (sz : Nat) (t : Nat → Int32) (k : Nat → Nat) (v : Nat → Int32) (b : Nat → Nat) (n : Nat) (kd : Nat → Int32) (ln : Nat → Int32) (w : Nat) (nw : Int32) (ins : Nat → Int32) (sn : Nat → Nat) (o : Nat → Int64) (p1 p2 : Int32) (hw6 : w ≤ 6) : Met l yL_window wsL_window ({ frames := 7, cells := 1, slots := 6, locals := 113 }) (va_Pc [.ref (ad 0), .int p1, .int p2, .ref oa] (fun U => woPre dC dI ca ad co oa sz t k v b n kd ln w nw ins sn o U ∧ xwP (va_A (wo ca ad co oa t k v b n kd ln w nw ins sn o) sz) U)) (va_Qi (fun (r : Int32) (u : (Nat → Int32) × (Nat → Int32) × Nat × (Nat → Int64)) => (r = 0 ∧ (qx_in p1 0 5 ∧ qx_in p2 0 1000000) ∧ w < 6 ∧ u = (upd kd w p1, upd ln w p2, w + 1, vp_updL o 0 (nI w).toInt64)) ∨ (r = 1 ∧ ¬ (qx_in p1 0 5 ∧ qx_in p2 0 1000000) ∧ u = (kd, ln, w, o)) ∨ (r = 2 ∧ (qx_in p1 0 5 ∧ qx_in p2 0 1000000) ∧ w = 6 ∧ u = (kd, ln, w, o))) (fun u t9 => woAt dC dI ca ad co oa (va_A (wo ca ad co oa t k v b n kd ln w nw ins sn o) sz) t k v b n u.1 u.2.1 u.2.2.1 nw ins sn u.2.2.2 t9) (va_A (wo ca ad co oa t k v b n kd ln w nw ins sn o) sz)) 1 6 (va_A (wo ca ad co oa t k v b n kd ln w nw ins sn o) sz) := by
  refine va_MetW (cc := cL_window) (maxL := 5) (ret := (some .int)) (by decide) rfl ?_
  intro p e s m args below meth c s₁ B hml hv
  obtain ⟨rfl, ⟨hsz, hP, hK, hD0⟩, hX⟩ := hv
  have hx := B.exec
  have hb := B.bytes
  have hr := B.returns
  have hts := atoms_spec (ws := wsL_window) B.pre
  have htab := vx_table (x := yL_window) B (hts _ List.mem_cons_self)
  have hown : s.vm.findClass RL = some m.cls := findClass_of_methodNamed B.named
  have hlocks := B.notSynchronized
  subst hsz
  have hD := hD0.self (sz := s.heap.size)
  generalize hAe : va_A (wo ca ad co oa t k v b n kd ln w nw ins sn o) s.heap.size = A at hD hX ⊢
  have hA : ∀ q : Nat, s.heap.size ≤ q → A q := fun q h => by rw [← hAe]; exact Or.inr h
  have hS : va_S A s.heap s.heap [] := va_S.rf
  have hl := lv_entry ([.ref (ad 0), .int p1, .int p2, .ref oa]) (n := 5) (Nat.le_of_ble_eq_true rfl)
  rw [lg_entry_eq]
  generalize (lg_sl ([.ref (ad 0), .int p1, .int p2, .ref oa]) ++ List.replicate (5 - (lg_sl ([.ref (ad 0), .int p1, .int p2, .ref oa])).length) Slot.unset).toArray = ls at hl ⊢
  have hl : lv_has ls 5 [(0, .ref (ad 0)), (1, .int p1), (2, .int p2), (3, .ref oa)] := hl
  refine lv_aload_n hx hb dL_window_0 rfl (lv_at hl 3 rfl) ?_
  refine lv_iconst (v := 0) hx hb dL_window_1 (by decide) ?_
  refine lv_aload_n hx hb dL_window_2 rfl (lv_at hl 0 rfl) ?_
  refine lv_iload_n hx hb dL_window_3 rfl (lv_at hl 1 rfl) ?_
  refine lv_iload_n hx hb dL_window_4 rfl (lv_at hl 2 rfl) ?_
  have hPc := hP.sub (ws' := wm ca ad t k v b n kd ln w nw ins sn) [0, 1, 2, 3, 4, 5, 6, 7, 8] rfl
  have hDc := hD.sub (ws' := wm ca ad t k v b n kd ln w nw ins sn) [0, 1, 2, 3, 4, 5, 6, 7, 8] (by decide) rfl
  have hKc := hK.sub (tys' := wmT ca) [0, 1, 2, 3, 4, 5, 6, 7] rfl
  have hFc := va_free (wc := wm ca ad t k v b n kd ln w nw ins sn) hD hS hA [0, 1, 2, 3, 4, 5, 6, 7, 8] rfl
  refine vx_calli (vx_runV (As := [.int p1, .int p2]) (rest := [.int 0, .ref oa]) ⟨hx, hb, hml, hown, hts⟩ (c_window l hlt dC dI ca ad _ t k v b n kd ln w nw ins sn p1 p2 hw6) (cwV 2 hts (gg_V mlL_7 imX0_window seX0_window in_WindowMeters kwX0_window) rfl rfl rfl (by decide +kernel) ⟨Nat.le_of_ble_eq_true rfl, Nat.le_of_ble_eq_true rfl⟩) (wm_preX hKc hPc hDc hS hFc hX [.int p1, .int p2]) rfl rfl hl.1 rfl (lv_room (Nat.le_of_ble_eq_true rfl)) dL_window_5 ⟨Nat.le_of_ble_eq_true rfl, Nat.le_of_ble_eq_true rfl⟩) hS (fun q _ h => hFc q h) hFc (fun q _ h => hFc q h) (fun E ce q9 ux t9 H1 locs ht9 hvm _ hB hz1 hk1 hS hcell hcv hcl => ?_) (fun r9 u9 t9 H1 locs ht9 hvm hw9 hB hz1 hk1 hS => ?_)
  · obtain ⟨hE, hP1, -, hD1⟩ := hB
    rw [ht9] at hP1
    obtain ⟨hP, hD⟩ := va_join (wr := [(oa, .inl (co, 1, .inr (.inl o)))]) (w1 := wm ca ad t k v b n kd ln w nw ins sn) hP hD [0, 1, 2, 3, 4, 5, 6, 7, 8] [9] rfl rfl (by decide) (by decide) hk1 hFc hP1 hD1
    have hP := hP.sub (ws' := wo ca ad co oa t k v b n kd ln w nw ins sn o) [1, 2, 3, 4, 5, 6, 7, 8, 9, 0] rfl
    have hD := hD.sub (ws' := wo ca ad co oa t k v b n kd ln w nw ins sn o) [1, 2, 3, 4, 5, 6, 7, 8, 9, 0] (by decide) rfl
    skip
    rcases hE with ⟨rfl, hg⟩ | ⟨rfl, hg, hw⟩
    · refine vx_catch (E := xIAE) (name := xIAE) hown [] (⟨0, 10, 13, 13⟩ : ExceptionTableEntry) [(⟨0, 10, 17, 15⟩ : ExceptionTableEntry)] (by rw [htab]; rfl) (fun z h => absurd h List.not_mem_nil) (by decide) (by decide) (hts _ (List.mem_cons_of_mem _ klL_13)) (yo_cast hX (by decide +kernel)) hcell hcv hcl ?_
      refine W.eq (g2 := F0 m 13 ls [.ref q9]) rfl ?_
      refine lv_astore (lv' := [(4, .ref q9), (0, .ref (ad 0)), (1, .int p1), (2, .int p2), (3, .ref oa)]) hx hb dL_window_13 hl (by decide) rfl (fun ls hl => ?_)
      refine lv_iconst (v := 1) hx hb dL_window_15 (by decide) ?_
      refine W.widen (k := 1) (n := 6) (Nat.le_of_ble_eq_true rfl) (Nat.le_of_ble_eq_true rfl) ?_
      exact W.iret (v := 1) hx hb hr (fun t9 ht hW => ⟨⟨_, (kd, ln, w, o), rfl, Or.inr (Or.inl ⟨rfl, hg, rfl⟩), by rw [ht]; exact hP, va_K.moved hW.alike hK, hD⟩, hS.F ht⟩) hS.2.2 dL_window_16
    · refine vx_catch (E := xUOE) (name := xUOE) hown [(⟨0, 10, 13, 13⟩ : ExceptionTableEntry)] (⟨0, 10, 17, 15⟩ : ExceptionTableEntry) [] (by rw [htab]; rfl) (fun z h => by
        obtain rfl := List.mem_singleton.mp h
        exact Or.inr ⟨by decide, _, hts _ (List.mem_cons_of_mem _ klL_13), hX.1.2.2 (xUOE, xIAE) (by decide +kernel)⟩) (by decide) (by decide) (hts _ (List.mem_cons_of_mem _ klL_15)) (yo_cast hX (by decide +kernel)) hcell hcv hcl ?_
      refine W.eq (g2 := F0 m 17 ls [.ref q9]) rfl ?_
      refine lv_astore (lv' := [(4, .ref q9), (0, .ref (ad 0)), (1, .int p1), (2, .int p2), (3, .ref oa)]) hx hb dL_window_17 hl (by decide) rfl (fun ls hl => ?_)
      refine lv_iconst (v := 2) hx hb dL_window_19 (by decide) ?_
      refine W.widen (k := 1) (n := 6) (Nat.le_of_ble_eq_true rfl) (Nat.le_of_ble_eq_true rfl) ?_
      exact W.iret (v := 2) hx hb hr (fun t9 ht hW => ⟨⟨_, (kd, ln, w, o), rfl, Or.inr (Or.inr ⟨rfl, hg, hw, rfl⟩), by rw [ht]; exact hP, va_K.moved hW.alike hK, hD⟩, hS.F ht⟩) hS.2.2 dL_window_20
  · obtain ⟨hP1, -, hD1⟩ := hB
    rw [ht9] at hP1
    obtain ⟨hP, hD⟩ := va_join (wr := [(oa, .inl (co, 1, .inr (.inl o)))]) (w1 := wm ca ad t k v b n (upd kd w p1) (upd ln w p2) (w + 1) nw ins sn) hP hD [0, 1, 2, 3, 4, 5, 6, 7, 8] [9] rfl rfl (by decide) (by decide) hk1 hFc hP1 hD1
    have hP := hP.sub (ws' := wo ca ad co oa t k v b n (upd kd w p1) (upd ln w p2) (w + 1) nw ins sn o) [1, 2, 3, 4, 5, 6, 7, 8, 9, 0] rfl
    have hD := hD.sub (ws' := wo ca ad co oa t k v b n (upd kd w p1) (upd ln w p2) (w + 1) nw ins sn o) [1, 2, 3, 4, 5, 6, 7, 8, 9, 0] (by decide) rfl
    skip
    refine lv_i2l (v := r9.toInt64) hx hb dL_window_8 rfl ?_
    refine va_last hx hb hK hP hD hS 9 8 rfl rfl (x := r9.toInt64) yo_in dL_window_9 (fun H locs hP hD hS => ?_)
    have hP : va_P (dC, dI) vwCl (wo ca ad co oa t k v b n (upd kd w p1) (upd ln w p2) (w + 1) nw ins sn (vp_updL o 0 r9.toInt64)) H := hP
    have hD : va_D A (wo ca ad co oa t k v b n (upd kd w p1) (upd ln w p2) (w + 1) nw ins sn (vp_updL o 0 r9.toInt64)) := hD
    refine lv_goto (tgt := 21) hx hb dL_window_10 (by decide) ?_
    refine lv_iconst (v := 0) hx hb dL_window_21 (by decide) ?_
    refine W.widen (k := 1) (n := 6) (Nat.le_of_ble_eq_true rfl) (Nat.le_of_ble_eq_true rfl) ?_
    exact W.iret (v := 0) hx hb hr (fun t9 ht hW => ⟨⟨_, (upd kd w p1, upd ln w p2, w + 1, vp_updL o 0 r9.toInt64), rfl, Or.inl ⟨rfl, hw9.1, hw9.2.1, by rw [hw9.2.2]⟩, by rw [ht]; exact hP, va_K.moved hW.alike hK, hD⟩, hS.F ht⟩) hS.2.2 dL_window_22

set_option maxRecDepth 100000 in
set_option maxHeartbeats 4000000 in
/-- the wrapper of tuple -/
theorem c_L_tuple (l : Launch) (hlt : l.stackTraces = false) (dC : Nat → ClassId) (dI : Nat → Nat → Nat) (ca : Nat → ClassId) (ad : Nat → Nat) (co : ClassId) (oa : Nat) (sz : Nat) (t : Nat → Int32) (k : Nat → Nat) (v : Nat → Int32) (b : Nat → Nat) (n : Nat) (kd : Nat → Int32) (ln : Nat → Int32) (w : Nat) (nw : Int32) (ins : Nat → Int32) (sn : Nat → Nat) (o : Nat → Int64) (p1 p2 p3 : Int32) (hn : n ≤ 300) (hbn : ∀ j, j < n → b j < n) : Met l yL_tuple wsL_tuple ({ frames := 7, cells := 1, slots := 6, locals := 114 }) (va_Pc [.ref (ad 0), .int p1, .int p2, .int p3, .ref oa] (fun U => woPre dC dI ca ad co oa sz t k v b n kd ln w nw ins sn o U ∧ xwP (va_A (wo ca ad co oa t k v b n kd ln w nw ins sn o) sz) U)) (va_Qi (fun (r : Int32) (u : (Nat → Int32) × (Nat → Nat) × (Nat → Int32) × (Nat → Nat) × Nat × Int32 × (Nat → Int64)) => (r = 0 ∧ (qx_in p1 nw 1000000 ∧ qx_in p2 0 7) ∧ n < 300 ∧ ∃ kk b9, kk < 8 ∧ p2 = nI kk ∧ qc_ins (upd v n p3) b n b9 ∧ u = (upd t n p1, vu k n kk, upd v n p3, b9, n + 1, p1, vp_updL o 0 (nI (n + 1)).toInt64)) ∨ (r = 1 ∧ ¬ (qx_in p1 nw 1000000 ∧ qx_in p2 0 7) ∧ u = (t, k, v, b, n, nw, o)) ∨ (r = 2 ∧ (qx_in p1 nw 1000000 ∧ qx_in p2 0 7) ∧ n = 300 ∧ u = (t, k, v, b, n, nw, o))) (fun u t9 => woAt dC dI ca ad co oa (va_A (wo ca ad co oa t k v b n kd ln w nw ins sn o) sz) u.1 u.2.1 u.2.2.1 u.2.2.2.1 u.2.2.2.2.1 kd ln w u.2.2.2.2.2.1 ins sn u.2.2.2.2.2.2 t9) (va_A (wo ca ad co oa t k v b n kd ln w nw ins sn o) sz)) 1 6 (va_A (wo ca ad co oa t k v b n kd ln w nw ins sn o) sz) := by
  refine va_MetW (cc := cL_tuple) (maxL := 6) (ret := (some .int)) (by decide) rfl ?_
  intro p e s m args below meth c s₁ B hml hv
  obtain ⟨rfl, ⟨hsz, hP, hK, hD0⟩, hX⟩ := hv
  have hx := B.exec
  have hb := B.bytes
  have hr := B.returns
  have hts := atoms_spec (ws := wsL_tuple) B.pre
  have htab := vx_table (x := yL_tuple) B (hts _ List.mem_cons_self)
  have hown : s.vm.findClass RL = some m.cls := findClass_of_methodNamed B.named
  have hlocks := B.notSynchronized
  subst hsz
  have hD := hD0.self (sz := s.heap.size)
  generalize hAe : va_A (wo ca ad co oa t k v b n kd ln w nw ins sn o) s.heap.size = A at hD hX ⊢
  have hA : ∀ q : Nat, s.heap.size ≤ q → A q := fun q h => by rw [← hAe]; exact Or.inr h
  have hS : va_S A s.heap s.heap [] := va_S.rf
  have hl := lv_entry ([.ref (ad 0), .int p1, .int p2, .int p3, .ref oa]) (n := 6) (Nat.le_of_ble_eq_true rfl)
  rw [lg_entry_eq]
  generalize (lg_sl ([.ref (ad 0), .int p1, .int p2, .int p3, .ref oa]) ++ List.replicate (6 - (lg_sl ([.ref (ad 0), .int p1, .int p2, .int p3, .ref oa])).length) Slot.unset).toArray = ls at hl ⊢
  have hl : lv_has ls 6 [(0, .ref (ad 0)), (1, .int p1), (2, .int p2), (3, .int p3), (4, .ref oa)] := hl
  refine lv_aload hx hb dL_tuple_0 (lv_at hl 4 rfl) ?_
  refine lv_iconst (v := 0) hx hb dL_tuple_2 (by decide) ?_
  refine lv_aload_n hx hb dL_tuple_3 rfl (lv_at hl 0 rfl) ?_
  refine lv_iload_n hx hb dL_tuple_4 rfl (lv_at hl 1 rfl) ?_
  refine lv_iload_n hx hb dL_tuple_5 rfl (lv_at hl 2 rfl) ?_
  refine lv_iload_n hx hb dL_tuple_6 rfl (lv_at hl 3 rfl) ?_
  have hPc := hP.sub (ws' := wm ca ad t k v b n kd ln w nw ins sn) [0, 1, 2, 3, 4, 5, 6, 7, 8] rfl
  have hDc := hD.sub (ws' := wm ca ad t k v b n kd ln w nw ins sn) [0, 1, 2, 3, 4, 5, 6, 7, 8] (by decide) rfl
  have hKc := hK.sub (tys' := wmT ca) [0, 1, 2, 3, 4, 5, 6, 7] rfl
  have hFc := va_free (wc := wm ca ad t k v b n kd ln w nw ins sn) hD hS hA [0, 1, 2, 3, 4, 5, 6, 7, 8] rfl
  refine vx_calli (vx_runV (As := [.int p1, .int p2, .int p3]) (rest := [.int 0, .ref oa]) ⟨hx, hb, hml, hown, hts⟩ (c_tuple l hlt dC dI ca ad _ t k v b n kd ln w nw ins sn p1 p2 p3 hn hbn) (cwV 3 hts (gg_V mlL_17 imX0_tuple seX0_tuple in_WindowMeters kwX0_tuple) rfl rfl rfl (by decide +kernel) ⟨Nat.le_of_ble_eq_true rfl, Nat.le_of_ble_eq_true rfl⟩) (wm_preX hKc hPc hDc hS hFc hX [.int p1, .int p2, .int p3]) rfl rfl hl.1 rfl (lv_room (Nat.le_of_ble_eq_true rfl)) dL_tuple_7 ⟨Nat.le_of_ble_eq_true rfl, Nat.le_of_ble_eq_true rfl⟩) hS (fun q _ h => hFc q h) hFc (fun q _ h => hFc q h) (fun E ce q9 ux t9 H1 locs ht9 hvm _ hB hz1 hk1 hS hcell hcv hcl => ?_) (fun r9 u9 t9 H1 locs ht9 hvm hw9 hB hz1 hk1 hS => ?_)
  · obtain ⟨hE, hP1, -, hD1⟩ := hB
    rw [ht9] at hP1
    obtain ⟨hP, hD⟩ := va_join (wr := [(oa, .inl (co, 1, .inr (.inl o)))]) (w1 := wm ca ad t k v b n kd ln w nw ins sn) hP hD [0, 1, 2, 3, 4, 5, 6, 7, 8] [9] rfl rfl (by decide) (by decide) hk1 hFc hP1 hD1
    have hP := hP.sub (ws' := wo ca ad co oa t k v b n kd ln w nw ins sn o) [1, 2, 3, 4, 5, 6, 7, 8, 9, 0] rfl
    have hD := hD.sub (ws' := wo ca ad co oa t k v b n kd ln w nw ins sn o) [1, 2, 3, 4, 5, 6, 7, 8, 9, 0] (by decide) rfl
    skip
    rcases hE with ⟨rfl, hg⟩ | ⟨rfl, hg, hw⟩
    · refine vx_catch (E := xIAE) (name := xIAE) hown [] (⟨0, 12, 15, 13⟩ : ExceptionTableEntry) [(⟨0, 12, 19, 15⟩ : ExceptionTableEntry)] (by rw [htab]; rfl) (fun z h => absurd h List.not_mem_nil) (by decide) (by decide) (hts _ (List.mem_cons_of_mem _ klL_13)) (yo_cast hX (by decide +kernel)) hcell hcv hcl ?_
      refine W.eq (g2 := F0 m 15 ls [.ref q9]) rfl ?_
      refine lv_astore (lv' := [(5, .ref q9), (0, .ref (ad 0)), (1, .int p1), (2, .int p2), (3, .int p3), (4, .ref oa)]) hx hb dL_tuple_15 hl (by decide) rfl (fun ls hl => ?_)
      refine lv_iconst (v := 1) hx hb dL_tuple_17 (by decide) ?_
      refine W.widen (k := 1) (n := 6) (Nat.le_of_ble_eq_true rfl) (Nat.le_of_ble_eq_true rfl) ?_
      exact W.iret (v := 1) hx hb hr (fun t9 ht hW => ⟨⟨_, (t, k, v, b, n, nw, o), rfl, Or.inr (Or.inl ⟨rfl, hg, rfl⟩), by rw [ht]; exact hP, va_K.moved hW.alike hK, hD⟩, hS.F ht⟩) hS.2.2 dL_tuple_18
    · refine vx_catch (E := xUOE) (name := xUOE) hown [(⟨0, 12, 15, 13⟩ : ExceptionTableEntry)] (⟨0, 12, 19, 15⟩ : ExceptionTableEntry) [] (by rw [htab]; rfl) (fun z h => by
        obtain rfl := List.mem_singleton.mp h
        exact Or.inr ⟨by decide, _, hts _ (List.mem_cons_of_mem _ klL_13), hX.1.2.2 (xUOE, xIAE) (by decide +kernel)⟩) (by decide) (by decide) (hts _ (List.mem_cons_of_mem _ klL_15)) (yo_cast hX (by decide +kernel)) hcell hcv hcl ?_
      refine W.eq (g2 := F0 m 19 ls [.ref q9]) rfl ?_
      refine lv_astore (lv' := [(5, .ref q9), (0, .ref (ad 0)), (1, .int p1), (2, .int p2), (3, .int p3), (4, .ref oa)]) hx hb dL_tuple_19 hl (by decide) rfl (fun ls hl => ?_)
      refine lv_iconst (v := 2) hx hb dL_tuple_21 (by decide) ?_
      refine W.widen (k := 1) (n := 6) (Nat.le_of_ble_eq_true rfl) (Nat.le_of_ble_eq_true rfl) ?_
      exact W.iret (v := 2) hx hb hr (fun t9 ht hW => ⟨⟨_, (t, k, v, b, n, nw, o), rfl, Or.inr (Or.inr ⟨rfl, hg, hw, rfl⟩), by rw [ht]; exact hP, va_K.moved hW.alike hK, hD⟩, hS.F ht⟩) hS.2.2 dL_tuple_22
  · obtain ⟨hP1, -, hD1⟩ := hB
    rw [ht9] at hP1
    obtain ⟨hP, hD⟩ := va_join (wr := [(oa, .inl (co, 1, .inr (.inl o)))]) (w1 := wm ca ad (upd t n p1) (vu k n u9.1) (upd v n p3) u9.2 (n + 1) kd ln w p1 ins sn) hP hD [0, 1, 2, 3, 4, 5, 6, 7, 8] [9] rfl rfl (by decide) (by decide) hk1 hFc hP1 hD1
    have hP := hP.sub (ws' := wo ca ad co oa (upd t n p1) (vu k n u9.1) (upd v n p3) u9.2 (n + 1) kd ln w p1 ins sn o) [1, 2, 3, 4, 5, 6, 7, 8, 9, 0] rfl
    have hD := hD.sub (ws' := wo ca ad co oa (upd t n p1) (vu k n u9.1) (upd v n p3) u9.2 (n + 1) kd ln w p1 ins sn o) [1, 2, 3, 4, 5, 6, 7, 8, 9, 0] (by decide) rfl
    skip
    refine lv_i2l (v := r9.toInt64) hx hb dL_tuple_10 rfl ?_
    refine va_last hx hb hK hP hD hS 9 8 rfl rfl (x := r9.toInt64) yo_in dL_tuple_11 (fun H locs hP hD hS => ?_)
    have hP : va_P (dC, dI) vwCl (wo ca ad co oa (upd t n p1) (vu k n u9.1) (upd v n p3) u9.2 (n + 1) kd ln w p1 ins sn (vp_updL o 0 r9.toInt64)) H := hP
    have hD : va_D A (wo ca ad co oa (upd t n p1) (vu k n u9.1) (upd v n p3) u9.2 (n + 1) kd ln w p1 ins sn (vp_updL o 0 r9.toInt64)) := hD
    refine lv_goto (tgt := 23) hx hb dL_tuple_12 (by decide) ?_
    refine lv_iconst (v := 0) hx hb dL_tuple_23 (by decide) ?_
    refine W.widen (k := 1) (n := 6) (Nat.le_of_ble_eq_true rfl) (Nat.le_of_ble_eq_true rfl) ?_
    exact W.iret (v := 0) hx hb hr (fun t9 ht hW => ⟨⟨_, (upd t n p1, vu k n u9.1, upd v n p3, u9.2, n + 1, p1, vp_updL o 0 r9.toInt64), rfl, Or.inl ⟨rfl, hw9.1, hw9.2.1, u9.1, u9.2, hw9.2.2.2.1, hw9.2.2.2.2.1, hw9.2.2.2.2.2, by rw [hw9.2.2.1]⟩, by rw [ht]; exact hP, va_K.moved hW.alike hK, hD⟩, hS.F ht⟩) hS.2.2 dL_tuple_24

set_option maxRecDepth 100000 in
set_option maxHeartbeats 4000000 in
/-- the wrapper of tick -/
theorem c_L_tick (l : Launch) (hlt : l.stackTraces = false) (dC : Nat → ClassId) (dI : Nat → Nat → Nat) (ca : Nat → ClassId) (ad : Nat → Nat) (sz : Nat) (t : Nat → Int32) (k : Nat → Nat) (v : Nat → Int32) (b : Nat → Nat) (n : Nat) (kd : Nat → Int32) (ln : Nat → Int32) (w : Nat) (nw : Int32) (ins : Nat → Int32) (sn : Nat → Nat) (p1 : Int32)  : Met l yL_tick wsL_tick ({ frames := 7, cells := 1, slots := 6, locals := 111 }) (va_Pc [.ref (ad 0), .int p1] (fun U => wmPre dC dI ca ad sz t k v b n kd ln w nw ins sn U ∧ xwP (va_A (wm ca ad t k v b n kd ln w nw ins sn) sz) U)) (va_Qi (fun (r : Int32) (u : Int32) => (r = 0 ∧ qx_in p1 nw 1000000 ∧ u = p1) ∨ (r = 1 ∧ ¬ qx_in p1 nw 1000000 ∧ u = nw)) (fun u t9 => wmAt dC dI ca ad (va_A (wm ca ad t k v b n kd ln w nw ins sn) sz) t k v b n kd ln w u ins sn t9) (va_A (wm ca ad t k v b n kd ln w nw ins sn) sz)) 1 6 (va_A (wm ca ad t k v b n kd ln w nw ins sn) sz) := by
  refine va_MetW (cc := cL_tick) (maxL := 3) (ret := (some .int)) (by decide) rfl ?_
  intro p e s m args below meth c s₁ B hml hv
  obtain ⟨rfl, ⟨hsz, hP, hK, hD0⟩, hX⟩ := hv
  have hx := B.exec
  have hb := B.bytes
  have hr := B.returns
  have hts := atoms_spec (ws := wsL_tick) B.pre
  have htab := vx_table (x := yL_tick) B (hts _ List.mem_cons_self)
  have hown : s.vm.findClass RL = some m.cls := findClass_of_methodNamed B.named
  have hlocks := B.notSynchronized
  subst hsz
  have hD := hD0.self (sz := s.heap.size)
  generalize hAe : va_A (wm ca ad t k v b n kd ln w nw ins sn) s.heap.size = A at hD hX ⊢
  have hA : ∀ q : Nat, s.heap.size ≤ q → A q := fun q h => by rw [← hAe]; exact Or.inr h
  have hS : va_S A s.heap s.heap [] := va_S.rf
  have hl := lv_entry ([.ref (ad 0), .int p1]) (n := 3) (Nat.le_of_ble_eq_true rfl)
  rw [lg_entry_eq]
  generalize (lg_sl ([.ref (ad 0), .int p1]) ++ List.replicate (3 - (lg_sl ([.ref (ad 0), .int p1])).length) Slot.unset).toArray = ls at hl ⊢
  have hl : lv_has ls 3 [(0, .ref (ad 0)), (1, .int p1)] := hl
  refine lv_aload_n hx hb dL_tick_0 rfl (lv_at hl 0 rfl) ?_
  refine lv_iload_n hx hb dL_tick_1 rfl (lv_at hl 1 rfl) ?_
  have hPc := hP.sub (ws' := wm ca ad t k v b n kd ln w nw ins sn) [0, 1, 2, 3, 4, 5, 6, 7, 8] rfl
  have hDc := hD.sub (ws' := wm ca ad t k v b n kd ln w nw ins sn) [0, 1, 2, 3, 4, 5, 6, 7, 8] (by decide) rfl
  have hKc := hK.sub (tys' := wmT ca) [0, 1, 2, 3, 4, 5, 6, 7] rfl
  have hFc := va_free (wc := wm ca ad t k v b n kd ln w nw ins sn) hD hS hA [0, 1, 2, 3, 4, 5, 6, 7, 8] rfl
  refine vx_callv (vx_runV (As := [.int p1]) (rest := []) ⟨hx, hb, hml, hown, hts⟩ (c_tick l hlt dC dI ca ad _ t k v b n kd ln w nw ins sn p1 ) (cwV 1 hts (gg_V mlL_21 imX0_tick seX0_tick in_WindowMeters kwX0_tick) rfl rfl rfl (by decide +kernel) ⟨Nat.le_of_ble_eq_true rfl, Nat.le_of_ble_eq_true rfl⟩) (wm_preX hKc hPc hDc hS hFc hX [.int p1]) rfl rfl hl.1 rfl (lv_room (Nat.le_of_ble_eq_true rfl)) dL_tick_2 ⟨Nat.le_of_ble_eq_true rfl, Nat.le_of_ble_eq_true rfl⟩) hS (fun q _ h => hFc q h) hFc (fun q _ h => hFc q h) (fun E ce q9 ux t9 H1 locs ht9 hvm _ hB hz1 hk1 hS hcell hcv hcl => ?_) (fun u9 t9 H1 locs ht9 hvm hw9 hB hz1 hk1 hS => ?_)
  · obtain ⟨hE, hP1, -, hD1⟩ := hB
    rw [ht9] at hP1
    have hP : va_P (dC, dI) vwCl (wm ca ad t k v b n kd ln w nw ins sn) H1 := hP1
    have hD : va_D A (wm ca ad t k v b n kd ln w nw ins sn) := hD1.weaken (fun k q hk h => hFc q.1 h)
    skip
    obtain ⟨rfl, hg⟩ := hE
    refine vx_catch (E := xIAE) (name := xIAE) hown [] (⟨0, 5, 8, 13⟩ : ExceptionTableEntry) [] (by rw [htab]; rfl) (fun z h => absurd h List.not_mem_nil) (by decide) (by decide) (hts _ (List.mem_cons_of_mem _ klL_13)) (yo_cast hX (by decide +kernel)) hcell hcv hcl ?_
    refine W.eq (g2 := F0 m 8 ls [.ref q9]) rfl ?_
    refine lv_astore_n (lv' := [(2, .ref q9), (0, .ref (ad 0)), (1, .int p1)]) hx hb dL_tick_8 rfl hl (by decide) rfl (fun ls hl => ?_)
    refine lv_iconst (v := 1) hx hb dL_tick_9 (by decide) ?_
    refine W.widen (k := 1) (n := 6) (Nat.le_of_ble_eq_true rfl) (Nat.le_of_ble_eq_true rfl) ?_
    exact W.iret (v := 1) hx hb hr (fun t9 ht hW => ⟨⟨_, nw, rfl, Or.inr ⟨rfl, hg, rfl⟩, by rw [ht]; exact hP, va_K.moved hW.alike hK, hD⟩, hS.F ht⟩) hS.2.2 dL_tick_10
  · obtain ⟨hP1, -, hD1⟩ := hB
    rw [ht9] at hP1
    have hP : va_P (dC, dI) vwCl (wm ca ad t k v b n kd ln w p1 ins sn) H1 := hP1
    have hD : va_D A (wm ca ad t k v b n kd ln w p1 ins sn) := hD1.weaken (fun k q hk h => hFc q.1 h)
    skip
    refine lv_goto (tgt := 11) hx hb dL_tick_5 (by decide) ?_
    refine lv_iconst (v := 0) hx hb dL_tick_11 (by decide) ?_
    refine W.widen (k := 1) (n := 6) (Nat.le_of_ble_eq_true rfl) (Nat.le_of_ble_eq_true rfl) ?_
    exact W.iret (v := 0) hx hb hr (fun t9 ht hW => ⟨⟨_, p1, rfl, Or.inl ⟨rfl, hw9, rfl⟩, by rw [ht]; exact hP, va_K.moved hW.alike hK, hD⟩, hS.F ht⟩) hS.2.2 dL_tick_12

set_option maxRecDepth 100000 in
set_option maxHeartbeats 4000000 in
/-- the wrapper of meter -/
theorem c_L_meter (l : Launch) (hlt : l.stackTraces = false) (dC : Nat → ClassId) (dI : Nat → Nat → Nat) (ca : Nat → ClassId) (ad : Nat → Nat) (co : ClassId) (oa : Nat) (sz : Nat) (t : Nat → Int32) (k : Nat → Nat) (v : Nat → Int32) (b : Nat → Nat) (n : Nat) (kd : Nat → Int32) (ln : Nat → Int32) (w : Nat) (nw : Int32) (ins : Nat → Int32) (sn : Nat → Nat) (o : Nat → Int64) (p1 p2 : Int32) (hn : n ≤ 300) (hk8 : ∀ j, j < n → k j < 8) (hw6 : w ≤ 6) (hbn : ∀ j, j < n → b j < n) : Met l yL_meter wsL_meter ({ frames := 8, cells := 2, slots := 12, locals := 133 }) (va_Pc [.ref (ad 0), .int p1, .int p2, .ref oa] (fun U => woPre dC dI ca ad co oa sz t k v b n kd ln w nw ins sn o U ∧ xwP (va_A (wo ca ad co oa t k v b n kd ln w nw ins sn o) sz) U)) (va_Qi (fun (r : Int32) (u : (Nat → Int32) × (Nat → Nat) × (Nat → Int64)) => (r = 0 ∧ ∃ wi x9, wi < w ∧ p1 = nI wi ∧ qx_in p2 0 3 ∧ (∀ j, j < n → qc_mk (u.1 j) (qc_in t k n nw (kd wi) (ln wi) j)) ∧ x9 = qx_met v b u.1 n p2 ∧ u.2.2 = vp_updL o 0 (Int32.toInt64 x9)) ∨ (r = 1 ∧ ¬ qx_win w p1 ∧ u = (ins, sn, o)) ∨ (r = 2 ∧ qx_win w p1 ∧ ¬ qx_in p2 0 3 ∧ u = (ins, sn, o))) (fun u t9 => woAt dC dI ca ad co oa (va_A (wo ca ad co oa t k v b n kd ln w nw ins sn o) sz) t k v b n kd ln w nw u.1 u.2.1 u.2.2 t9) (va_A (wo ca ad co oa t k v b n kd ln w nw ins sn o) sz)) 2 12 (va_A (wo ca ad co oa t k v b n kd ln w nw ins sn o) sz) := by
  refine va_MetW (cc := cL_meter) (maxL := 5) (ret := (some .int)) (by decide) rfl ?_
  intro p e s m args below meth c s₁ B hml hv
  obtain ⟨rfl, ⟨hsz, hP, hK, hD0⟩, hX⟩ := hv
  have hx := B.exec
  have hb := B.bytes
  have hr := B.returns
  have hts := atoms_spec (ws := wsL_meter) B.pre
  have htab := vx_table (x := yL_meter) B (hts _ List.mem_cons_self)
  have hown : s.vm.findClass RL = some m.cls := findClass_of_methodNamed B.named
  have hlocks := B.notSynchronized
  subst hsz
  have hD := hD0.self (sz := s.heap.size)
  generalize hAe : va_A (wo ca ad co oa t k v b n kd ln w nw ins sn o) s.heap.size = A at hD hX ⊢
  have hA : ∀ q : Nat, s.heap.size ≤ q → A q := fun q h => by rw [← hAe]; exact Or.inr h
  have hS : va_S A s.heap s.heap [] := va_S.rf
  have hl := lv_entry ([.ref (ad 0), .int p1, .int p2, .ref oa]) (n := 5) (Nat.le_of_ble_eq_true rfl)
  rw [lg_entry_eq]
  generalize (lg_sl ([.ref (ad 0), .int p1, .int p2, .ref oa]) ++ List.replicate (5 - (lg_sl ([.ref (ad 0), .int p1, .int p2, .ref oa])).length) Slot.unset).toArray = ls at hl ⊢
  have hl : lv_has ls 5 [(0, .ref (ad 0)), (1, .int p1), (2, .int p2), (3, .ref oa)] := hl
  refine lv_aload_n hx hb dL_meter_0 rfl (lv_at hl 3 rfl) ?_
  refine lv_iconst (v := 0) hx hb dL_meter_1 (by decide) ?_
  refine lv_aload_n hx hb dL_meter_2 rfl (lv_at hl 0 rfl) ?_
  refine lv_iload_n hx hb dL_meter_3 rfl (lv_at hl 1 rfl) ?_
  refine lv_iload_n hx hb dL_meter_4 rfl (lv_at hl 2 rfl) ?_
  have hPc := hP.sub (ws' := wm ca ad t k v b n kd ln w nw ins sn) [0, 1, 2, 3, 4, 5, 6, 7, 8] rfl
  have hDc := hD.sub (ws' := wm ca ad t k v b n kd ln w nw ins sn) [0, 1, 2, 3, 4, 5, 6, 7, 8] (by decide) rfl
  have hKc := hK.sub (tys' := wmT ca) [0, 1, 2, 3, 4, 5, 6, 7] rfl
  have hFc := va_free (wc := wm ca ad t k v b n kd ln w nw ins sn) hD hS hA [0, 1, 2, 3, 4, 5, 6, 7, 8] rfl
  refine vx_calli (vx_runV (As := [.int p1, .int p2]) (rest := [.int 0, .ref oa]) ⟨hx, hb, hml, hown, hts⟩ (c_meter l hlt dC dI ca ad _ t k v b n kd ln w nw ins sn p1 p2 hn hk8 hw6 hbn) (cwV 2 hts (gg_V mlL_25 imX0_meter seX0_meter in_WindowMeters kwX0_meter) rfl rfl rfl (by decide +kernel) ⟨Nat.le_of_ble_eq_true rfl, Nat.le_of_ble_eq_true rfl⟩) (wm_preX hKc hPc hDc hS hFc hX [.int p1, .int p2]) rfl rfl hl.1 rfl (lv_room (Nat.le_of_ble_eq_true rfl)) dL_meter_5 ⟨Nat.le_of_ble_eq_true rfl, Nat.le_of_ble_eq_true rfl⟩) hS (fun q _ h => hFc q h) hFc (fun q _ h => hFc q h) (fun E ce q9 ux t9 H1 locs ht9 hvm _ hB hz1 hk1 hS hcell hcv hcl => ?_) (fun r9 u9 t9 H1 locs ht9 hvm hw9 hB hz1 hk1 hS => ?_)
  · obtain ⟨hE, hP1, -, hD1⟩ := hB
    rw [ht9] at hP1
    obtain ⟨hP, hD⟩ := va_join (wr := [(oa, .inl (co, 1, .inr (.inl o)))]) (w1 := wm ca ad t k v b n kd ln w nw ins sn) hP hD [0, 1, 2, 3, 4, 5, 6, 7, 8] [9] rfl rfl (by decide) (by decide) hk1 hFc hP1 hD1
    have hP := hP.sub (ws' := wo ca ad co oa t k v b n kd ln w nw ins sn o) [1, 2, 3, 4, 5, 6, 7, 8, 9, 0] rfl
    have hD := hD.sub (ws' := wo ca ad co oa t k v b n kd ln w nw ins sn o) [1, 2, 3, 4, 5, 6, 7, 8, 9, 0] (by decide) rfl
    skip
    rcases hE with ⟨rfl, hg⟩ | ⟨rfl, hg, hw⟩
    · refine vx_catch (E := xIOB) (name := xIOB) hown [] (⟨0, 10, 13, 28⟩ : ExceptionTableEntry) [(⟨0, 10, 17, 13⟩ : ExceptionTableEntry)] (by rw [htab]; rfl) (fun z h => absurd h List.not_mem_nil) (by decide) (by decide) (hts _ (List.mem_cons_of_mem _ klL_28)) (yo_cast hX (by decide +kernel)) hcell hcv hcl ?_
      refine W.eq (g2 := F0 m 13 ls [.ref q9]) rfl ?_
      refine lv_astore (lv' := [(4, .ref q9), (0, .ref (ad 0)), (1, .int p1), (2, .int p2), (3, .ref oa)]) hx hb dL_meter_13 hl (by decide) rfl (fun ls hl => ?_)
      refine lv_iconst (v := 1) hx hb dL_meter_15 (by decide) ?_
      refine W.widen (k := 2) (n := 12) (Nat.le_of_ble_eq_true rfl) (Nat.le_of_ble_eq_true rfl) ?_
      exact W.iret (v := 1) hx hb hr (fun t9 ht hW => ⟨⟨_, (ins, sn, o), rfl, Or.inr (Or.inl ⟨rfl, hg, rfl⟩), by rw [ht]; exact hP, va_K.moved hW.alike hK, hD⟩, hS.F ht⟩) hS.2.2 dL_meter_16
    · refine vx_catch (E := xIAE) (name := xIAE) hown [(⟨0, 10, 13, 28⟩ : ExceptionTableEntry)] (⟨0, 10, 17, 13⟩ : ExceptionTableEntry) [] (by rw [htab]; rfl) (fun z h => by
        obtain rfl := List.mem_singleton.mp h
        exact Or.inr ⟨by decide, _, hts _ (List.mem_cons_of_mem _ klL_28), hX.1.2.2 (xIAE, xIOB) (by decide +kernel)⟩) (by decide) (by decide) (hts _ (List.mem_cons_of_mem _ klL_13)) (yo_cast hX (by decide +kernel)) hcell hcv hcl ?_
      refine W.eq (g2 := F0 m 17 ls [.ref q9]) rfl ?_
      refine lv_astore (lv' := [(4, .ref q9), (0, .ref (ad 0)), (1, .int p1), (2, .int p2), (3, .ref oa)]) hx hb dL_meter_17 hl (by decide) rfl (fun ls hl => ?_)
      refine lv_iconst (v := 2) hx hb dL_meter_19 (by decide) ?_
      refine W.widen (k := 2) (n := 12) (Nat.le_of_ble_eq_true rfl) (Nat.le_of_ble_eq_true rfl) ?_
      exact W.iret (v := 2) hx hb hr (fun t9 ht hW => ⟨⟨_, (ins, sn, o), rfl, Or.inr (Or.inr ⟨rfl, hg, hw, rfl⟩), by rw [ht]; exact hP, va_K.moved hW.alike hK, hD⟩, hS.F ht⟩) hS.2.2 dL_meter_20
  · obtain ⟨hP1, -, hD1⟩ := hB
    rw [ht9] at hP1
    obtain ⟨hP, hD⟩ := va_join (wr := [(oa, .inl (co, 1, .inr (.inl o)))]) (w1 := wm ca ad t k v b n kd ln w nw u9.1 u9.2) hP hD [0, 1, 2, 3, 4, 5, 6, 7, 8] [9] rfl rfl (by decide) (by decide) hk1 hFc hP1 hD1
    have hP := hP.sub (ws' := wo ca ad co oa t k v b n kd ln w nw u9.1 u9.2 o) [1, 2, 3, 4, 5, 6, 7, 8, 9, 0] rfl
    have hD := hD.sub (ws' := wo ca ad co oa t k v b n kd ln w nw u9.1 u9.2 o) [1, 2, 3, 4, 5, 6, 7, 8, 9, 0] (by decide) rfl
    skip
    refine lv_i2l (v := r9.toInt64) hx hb dL_meter_8 rfl ?_
    refine va_last hx hb hK hP hD hS 9 8 rfl rfl (x := r9.toInt64) yo_in dL_meter_9 (fun H locs hP hD hS => ?_)
    have hP : va_P (dC, dI) vwCl (wo ca ad co oa t k v b n kd ln w nw u9.1 u9.2 (vp_updL o 0 r9.toInt64)) H := hP
    have hD : va_D A (wo ca ad co oa t k v b n kd ln w nw u9.1 u9.2 (vp_updL o 0 r9.toInt64)) := hD
    refine lv_goto (tgt := 21) hx hb dL_meter_10 (by decide) ?_
    refine lv_iconst (v := 0) hx hb dL_meter_21 (by decide) ?_
    refine W.widen (k := 2) (n := 12) (Nat.le_of_ble_eq_true rfl) (Nat.le_of_ble_eq_true rfl) ?_
    exact W.iret (v := 0) hx hb hr (fun t9 ht hW => ⟨⟨_, (u9.1, u9.2, vp_updL o 0 r9.toInt64), rfl, Or.inl ⟨rfl, by obtain ⟨wi, h1, h2, h3, h4, h5⟩ := hw9; exact ⟨wi, r9, h1, h2, h3, h4, h5, rfl⟩⟩, by rw [ht]; exact hP, va_K.moved hW.alike hK, hD⟩, hS.F ht⟩) hS.2.2 dL_meter_22

set_option maxRecDepth 100000 in
set_option maxHeartbeats 4000000 in
/-- the wrapper of kth -/
theorem c_L_kth (l : Launch) (hlt : l.stackTraces = false) (dC : Nat → ClassId) (dI : Nat → Nat → Nat) (ca : Nat → ClassId) (ad : Nat → Nat) (co : ClassId) (oa : Nat) (sz : Nat) (t : Nat → Int32) (k : Nat → Nat) (v : Nat → Int32) (b : Nat → Nat) (n : Nat) (kd : Nat → Int32) (ln : Nat → Int32) (w : Nat) (nw : Int32) (ins : Nat → Int32) (sn : Nat → Nat) (o : Nat → Int64) (p1 p2 : Int32) (hn : n ≤ 300) (hk8 : ∀ j, j < n → k j < 8) (hw6 : w ≤ 6) (hbn : ∀ j, j < n → b j < n) : Met l yL_kth wsL_kth ({ frames := 8, cells := 2, slots := 12, locals := 134 }) (va_Pc [.ref (ad 0), .int p1, .int p2, .ref oa] (fun U => woPre dC dI ca ad co oa sz t k v b n kd ln w nw ins sn o U ∧ xwP (va_A (wo ca ad co oa t k v b n kd ln w nw ins sn o) sz) U)) (va_Qi (fun (r : Int32) (u : (Nat → Int32) × (Nat → Nat) × (Nat → Int64)) => (r = 0 ∧ ∃ wi q9 x9, wi < w ∧ p1 = nI wi ∧ (∀ j, j < n → qc_mk (u.1 j) (qc_in t k n nw (kd wi) (ln wi) j)) ∧ q9 < n ∧ u.1 (b q9) ≠ 0 ∧ nI (qc_cnb b u.1 q9) = p2 ∧ x9 = v (b q9) ∧ u.2.2 = vp_updL o 0 (Int32.toInt64 x9)) ∨ (r = 1 ∧ ¬ qx_win w p1) ∨ (r = 2 ∧ ∃ wi, wi < w ∧ p1 = nI wi ∧ (∀ j, j < n → qc_mk (u.1 j) (qc_in t k n nw (kd wi) (ln wi) j)) ∧ ∀ q, q < n → u.1 (b q) ≠ 0 → nI (qc_cnb b u.1 q) ≠ p2)) (fun u t9 => woAt dC dI ca ad co oa (va_A (wo ca ad co oa t k v b n kd ln w nw ins sn o) sz) t k v b n kd ln w nw u.1 u.2.1 u.2.2 t9) (va_A (wo ca ad co oa t k v b n kd ln w nw ins sn o) sz)) 2 12 (va_A (wo ca ad co oa t k v b n kd ln w nw ins sn o) sz) := by
  refine va_MetW (cc := cL_kth) (maxL := 5) (ret := (some .int)) (by decide) rfl ?_
  intro p e s m args below meth c s₁ B hml hv
  obtain ⟨rfl, ⟨hsz, hP, hK, hD0⟩, hX⟩ := hv
  have hx := B.exec
  have hb := B.bytes
  have hr := B.returns
  have hts := atoms_spec (ws := wsL_kth) B.pre
  have htab := vx_table (x := yL_kth) B (hts _ List.mem_cons_self)
  have hown : s.vm.findClass RL = some m.cls := findClass_of_methodNamed B.named
  have hlocks := B.notSynchronized
  subst hsz
  have hD := hD0.self (sz := s.heap.size)
  generalize hAe : va_A (wo ca ad co oa t k v b n kd ln w nw ins sn o) s.heap.size = A at hD hX ⊢
  have hA : ∀ q : Nat, s.heap.size ≤ q → A q := fun q h => by rw [← hAe]; exact Or.inr h
  have hS : va_S A s.heap s.heap [] := va_S.rf
  have hl := lv_entry ([.ref (ad 0), .int p1, .int p2, .ref oa]) (n := 5) (Nat.le_of_ble_eq_true rfl)
  rw [lg_entry_eq]
  generalize (lg_sl ([.ref (ad 0), .int p1, .int p2, .ref oa]) ++ List.replicate (5 - (lg_sl ([.ref (ad 0), .int p1, .int p2, .ref oa])).length) Slot.unset).toArray = ls at hl ⊢
  have hl : lv_has ls 5 [(0, .ref (ad 0)), (1, .int p1), (2, .int p2), (3, .ref oa)] := hl
  refine lv_aload_n hx hb dL_kth_0 rfl (lv_at hl 3 rfl) ?_
  refine lv_iconst (v := 0) hx hb dL_kth_1 (by decide) ?_
  refine lv_aload_n hx hb dL_kth_2 rfl (lv_at hl 0 rfl) ?_
  refine lv_iload_n hx hb dL_kth_3 rfl (lv_at hl 1 rfl) ?_
  refine lv_iload_n hx hb dL_kth_4 rfl (lv_at hl 2 rfl) ?_
  have hPc := hP.sub (ws' := wm ca ad t k v b n kd ln w nw ins sn) [0, 1, 2, 3, 4, 5, 6, 7, 8] rfl
  have hDc := hD.sub (ws' := wm ca ad t k v b n kd ln w nw ins sn) [0, 1, 2, 3, 4, 5, 6, 7, 8] (by decide) rfl
  have hKc := hK.sub (tys' := wmT ca) [0, 1, 2, 3, 4, 5, 6, 7] rfl
  have hFc := va_free (wc := wm ca ad t k v b n kd ln w nw ins sn) hD hS hA [0, 1, 2, 3, 4, 5, 6, 7, 8] rfl
  refine vx_calli (vx_runV (As := [.int p1, .int p2]) (rest := [.int 0, .ref oa]) ⟨hx, hb, hml, hown, hts⟩ (c_kth l hlt dC dI ca ad _ t k v b n kd ln w nw ins sn p1 p2 hn hk8 hw6 hbn) (cwV 2 hts (gg_V mlL_30 imX0_kth seX0_kth in_WindowMeters kwX0_kth) rfl rfl rfl (by decide +kernel) ⟨Nat.le_of_ble_eq_true rfl, Nat.le_of_ble_eq_true rfl⟩) (wm_preX hKc hPc hDc hS hFc hX [.int p1, .int p2]) rfl rfl hl.1 rfl (lv_room (Nat.le_of_ble_eq_true rfl)) dL_kth_5 ⟨Nat.le_of_ble_eq_true rfl, Nat.le_of_ble_eq_true rfl⟩) hS (fun q _ h => hFc q h) hFc (fun q _ h => hFc q h) (fun E ce q9 ux t9 H1 locs ht9 hvm _ hB hz1 hk1 hS hcell hcv hcl => ?_) (fun r9 u9 t9 H1 locs ht9 hvm hw9 hB hz1 hk1 hS => ?_)
  · obtain ⟨hE, hP1, -, hD1⟩ := hB
    rw [ht9] at hP1
    obtain ⟨hP, hD⟩ := va_join (wr := [(oa, .inl (co, 1, .inr (.inl o)))]) (w1 := wm ca ad t k v b n kd ln w nw ux.1 ux.2) hP hD [0, 1, 2, 3, 4, 5, 6, 7, 8] [9] rfl rfl (by decide) (by decide) hk1 hFc hP1 hD1
    have hP := hP.sub (ws' := wo ca ad co oa t k v b n kd ln w nw ux.1 ux.2 o) [1, 2, 3, 4, 5, 6, 7, 8, 9, 0] rfl
    have hD := hD.sub (ws' := wo ca ad co oa t k v b n kd ln w nw ux.1 ux.2 o) [1, 2, 3, 4, 5, 6, 7, 8, 9, 0] (by decide) rfl
    skip
    rcases hE with ⟨rfl, hg⟩ | ⟨rfl, hg⟩
    · refine vx_catch (E := xIOB) (name := xIOB) hown [] (⟨0, 10, 13, 28⟩ : ExceptionTableEntry) [(⟨0, 10, 17, 33⟩ : ExceptionTableEntry)] (by rw [htab]; rfl) (fun z h => absurd h List.not_mem_nil) (by decide) (by decide) (hts _ (List.mem_cons_of_mem _ klL_28)) (yo_cast hX (by decide +kernel)) hcell hcv hcl ?_
      refine W.eq (g2 := F0 m 13 ls [.ref q9]) rfl ?_
      refine lv_astore (lv' := [(4, .ref q9), (0, .ref (ad 0)), (1, .int p1), (2, .int p2), (3, .ref oa)]) hx hb dL_kth_13 hl (by decide) rfl (fun ls hl => ?_)
      refine lv_iconst (v := 1) hx hb dL_kth_15 (by decide) ?_
      refine W.widen (k := 2) (n := 12) (Nat.le_of_ble_eq_true rfl) (Nat.le_of_ble_eq_true rfl) ?_
      exact W.iret (v := 1) hx hb hr (fun t9 ht hW => ⟨⟨_, (ux.1, ux.2, o), rfl, Or.inr (Or.inl ⟨rfl, hg⟩), by rw [ht]; exact hP, va_K.moved hW.alike hK, hD⟩, hS.F ht⟩) hS.2.2 dL_kth_16
    · refine vx_catch (E := xNSE) (name := xNSE) hown [(⟨0, 10, 13, 28⟩ : ExceptionTableEntry)] (⟨0, 10, 17, 33⟩ : ExceptionTableEntry) [] (by rw [htab]; rfl) (fun z h => by
        obtain rfl := List.mem_singleton.mp h
        exact Or.inr ⟨by decide, _, hts _ (List.mem_cons_of_mem _ klL_28), hX.1.2.2 (xNSE, xIOB) (by decide +kernel)⟩) (by decide) (by decide) (hts _ (List.mem_cons_of_mem _ klL_33)) (yo_cast hX (by decide +kernel)) hcell hcv hcl ?_
      refine W.eq (g2 := F0 m 17 ls [.ref q9]) rfl ?_
      refine lv_astore (lv' := [(4, .ref q9), (0, .ref (ad 0)), (1, .int p1), (2, .int p2), (3, .ref oa)]) hx hb dL_kth_17 hl (by decide) rfl (fun ls hl => ?_)
      refine lv_iconst (v := 2) hx hb dL_kth_19 (by decide) ?_
      refine W.widen (k := 2) (n := 12) (Nat.le_of_ble_eq_true rfl) (Nat.le_of_ble_eq_true rfl) ?_
      exact W.iret (v := 2) hx hb hr (fun t9 ht hW => ⟨⟨_, (ux.1, ux.2, o), rfl, Or.inr (Or.inr ⟨rfl, hg⟩), by rw [ht]; exact hP, va_K.moved hW.alike hK, hD⟩, hS.F ht⟩) hS.2.2 dL_kth_20
  · obtain ⟨hP1, -, hD1⟩ := hB
    rw [ht9] at hP1
    obtain ⟨hP, hD⟩ := va_join (wr := [(oa, .inl (co, 1, .inr (.inl o)))]) (w1 := wm ca ad t k v b n kd ln w nw u9.1 u9.2) hP hD [0, 1, 2, 3, 4, 5, 6, 7, 8] [9] rfl rfl (by decide) (by decide) hk1 hFc hP1 hD1
    have hP := hP.sub (ws' := wo ca ad co oa t k v b n kd ln w nw u9.1 u9.2 o) [1, 2, 3, 4, 5, 6, 7, 8, 9, 0] rfl
    have hD := hD.sub (ws' := wo ca ad co oa t k v b n kd ln w nw u9.1 u9.2 o) [1, 2, 3, 4, 5, 6, 7, 8, 9, 0] (by decide) rfl
    skip
    refine lv_i2l (v := r9.toInt64) hx hb dL_kth_8 rfl ?_
    refine va_last hx hb hK hP hD hS 9 8 rfl rfl (x := r9.toInt64) yo_in dL_kth_9 (fun H locs hP hD hS => ?_)
    have hP : va_P (dC, dI) vwCl (wo ca ad co oa t k v b n kd ln w nw u9.1 u9.2 (vp_updL o 0 r9.toInt64)) H := hP
    have hD : va_D A (wo ca ad co oa t k v b n kd ln w nw u9.1 u9.2 (vp_updL o 0 r9.toInt64)) := hD
    refine lv_goto (tgt := 21) hx hb dL_kth_10 (by decide) ?_
    refine lv_iconst (v := 0) hx hb dL_kth_21 (by decide) ?_
    refine W.widen (k := 2) (n := 12) (Nat.le_of_ble_eq_true rfl) (Nat.le_of_ble_eq_true rfl) ?_
    exact W.iret (v := 0) hx hb hr (fun t9 ht hW => ⟨⟨_, (u9.1, u9.2, vp_updL o 0 r9.toInt64), rfl, Or.inl ⟨rfl, by obtain ⟨wi, q, h1, h2, h3, h4, h5, h6, h7⟩ := hw9; exact ⟨wi, q, r9, h1, h2, h3, h4, h5, h6, h7, rfl⟩⟩, by rw [ht]; exact hP, va_K.moved hW.alike hK, hD⟩, hS.F ht⟩) hS.2.2 dL_kth_22

set_option maxRecDepth 100000 in
set_option maxHeartbeats 4000000 in
/-- the wrapper of frequent -/
theorem c_L_frequent (l : Launch) (hlt : l.stackTraces = false) (dC : Nat → ClassId) (dI : Nat → Nat → Nat) (ca : Nat → ClassId) (ad : Nat → Nat) (co : ClassId) (oa : Nat) (sz : Nat) (t : Nat → Int32) (k : Nat → Nat) (v : Nat → Int32) (b : Nat → Nat) (n : Nat) (kd : Nat → Int32) (ln : Nat → Int32) (w : Nat) (nw : Int32) (ins : Nat → Int32) (sn : Nat → Nat) (o : Nat → Int64) (p1 : Int32) (hn : n ≤ 300) (hk8 : ∀ j, j < n → k j < 8) (hw6 : w ≤ 6) (hbn : ∀ j, j < n → b j < n) : Met l yL_frequent wsL_frequent ({ frames := 8, cells := 2, slots := 12, locals := 133 }) (va_Pc [.ref (ad 0), .int p1, .ref oa] (fun U => woPre dC dI ca ad co oa sz t k v b n kd ln w nw ins sn o U ∧ xwP (va_A (wo ca ad co oa t k v b n kd ln w nw ins sn o) sz) U)) (va_Qi (fun (r : Int32) (u : (Nat → Int32) × (Nat → Nat) × (Nat → Int64)) => (r = 0 ∧ ∃ wi j9 x9, wi < w ∧ p1 = nI wi ∧ (∀ j, j < n → qc_mk (u.1 j) (qc_in t k n nw (kd wi) (ln wi) j)) ∧ (qc_fmf v b u.1 n).1 = some j9 ∧ x9 = v j9 ∧ u.2.2 = vp_updL o 0 (Int32.toInt64 x9)) ∨ (r = 1 ∧ ¬ qx_win w p1) ∨ (r = 2 ∧ ∃ wi, wi < w ∧ p1 = nI wi ∧ (∀ j, j < n → qc_mk (u.1 j) (qc_in t k n nw (kd wi) (ln wi) j)) ∧ (qc_fmf v b u.1 n).1 = none)) (fun u t9 => woAt dC dI ca ad co oa (va_A (wo ca ad co oa t k v b n kd ln w nw ins sn o) sz) t k v b n kd ln w nw u.1 u.2.1 u.2.2 t9) (va_A (wo ca ad co oa t k v b n kd ln w nw ins sn o) sz)) 2 12 (va_A (wo ca ad co oa t k v b n kd ln w nw ins sn o) sz) := by
  refine va_MetW (cc := cL_frequent) (maxL := 4) (ret := (some .int)) (by decide) rfl ?_
  intro p e s m args below meth c s₁ B hml hv
  obtain ⟨rfl, ⟨hsz, hP, hK, hD0⟩, hX⟩ := hv
  have hx := B.exec
  have hb := B.bytes
  have hr := B.returns
  have hts := atoms_spec (ws := wsL_frequent) B.pre
  have htab := vx_table (x := yL_frequent) B (hts _ List.mem_cons_self)
  have hown : s.vm.findClass RL = some m.cls := findClass_of_methodNamed B.named
  have hlocks := B.notSynchronized
  subst hsz
  have hD := hD0.self (sz := s.heap.size)
  generalize hAe : va_A (wo ca ad co oa t k v b n kd ln w nw ins sn o) s.heap.size = A at hD hX ⊢
  have hA : ∀ q : Nat, s.heap.size ≤ q → A q := fun q h => by rw [← hAe]; exact Or.inr h
  have hS : va_S A s.heap s.heap [] := va_S.rf
  have hl := lv_entry ([.ref (ad 0), .int p1, .ref oa]) (n := 4) (Nat.le_of_ble_eq_true rfl)
  rw [lg_entry_eq]
  generalize (lg_sl ([.ref (ad 0), .int p1, .ref oa]) ++ List.replicate (4 - (lg_sl ([.ref (ad 0), .int p1, .ref oa])).length) Slot.unset).toArray = ls at hl ⊢
  have hl : lv_has ls 4 [(0, .ref (ad 0)), (1, .int p1), (2, .ref oa)] := hl
  refine lv_aload_n hx hb dL_frequent_0 rfl (lv_at hl 2 rfl) ?_
  refine lv_iconst (v := 0) hx hb dL_frequent_1 (by decide) ?_
  refine lv_aload_n hx hb dL_frequent_2 rfl (lv_at hl 0 rfl) ?_
  refine lv_iload_n hx hb dL_frequent_3 rfl (lv_at hl 1 rfl) ?_
  have hPc := hP.sub (ws' := wm ca ad t k v b n kd ln w nw ins sn) [0, 1, 2, 3, 4, 5, 6, 7, 8] rfl
  have hDc := hD.sub (ws' := wm ca ad t k v b n kd ln w nw ins sn) [0, 1, 2, 3, 4, 5, 6, 7, 8] (by decide) rfl
  have hKc := hK.sub (tys' := wmT ca) [0, 1, 2, 3, 4, 5, 6, 7] rfl
  have hFc := va_free (wc := wm ca ad t k v b n kd ln w nw ins sn) hD hS hA [0, 1, 2, 3, 4, 5, 6, 7, 8] rfl
  refine vx_calli (vx_runV (As := [.int p1]) (rest := [.int 0, .ref oa]) ⟨hx, hb, hml, hown, hts⟩ (c_frequent l hlt dC dI ca ad _ t k v b n kd ln w nw ins sn p1 hn hk8 hw6 hbn) (cwV 1 hts (gg_V mlL_35 imX0_frequent seX0_frequent in_WindowMeters kwX0_frequent) rfl rfl rfl (by decide +kernel) ⟨Nat.le_of_ble_eq_true rfl, Nat.le_of_ble_eq_true rfl⟩) (wm_preX hKc hPc hDc hS hFc hX [.int p1]) rfl rfl hl.1 rfl (lv_room (Nat.le_of_ble_eq_true rfl)) dL_frequent_4 ⟨Nat.le_of_ble_eq_true rfl, Nat.le_of_ble_eq_true rfl⟩) hS (fun q _ h => hFc q h) hFc (fun q _ h => hFc q h) (fun E ce q9 ux t9 H1 locs ht9 hvm _ hB hz1 hk1 hS hcell hcv hcl => ?_) (fun r9 u9 t9 H1 locs ht9 hvm hw9 hB hz1 hk1 hS => ?_)
  · obtain ⟨hE, hP1, -, hD1⟩ := hB
    rw [ht9] at hP1
    obtain ⟨hP, hD⟩ := va_join (wr := [(oa, .inl (co, 1, .inr (.inl o)))]) (w1 := wm ca ad t k v b n kd ln w nw ux.1 ux.2) hP hD [0, 1, 2, 3, 4, 5, 6, 7, 8] [9] rfl rfl (by decide) (by decide) hk1 hFc hP1 hD1
    have hP := hP.sub (ws' := wo ca ad co oa t k v b n kd ln w nw ux.1 ux.2 o) [1, 2, 3, 4, 5, 6, 7, 8, 9, 0] rfl
    have hD := hD.sub (ws' := wo ca ad co oa t k v b n kd ln w nw ux.1 ux.2 o) [1, 2, 3, 4, 5, 6, 7, 8, 9, 0] (by decide) rfl
    skip
    rcases hE with ⟨rfl, hg⟩ | ⟨rfl, hg⟩
    · refine vx_catch (E := xIOB) (name := xIOB) hown [] (⟨0, 9, 12, 28⟩ : ExceptionTableEntry) [(⟨0, 9, 15, 33⟩ : ExceptionTableEntry)] (by rw [htab]; rfl) (fun z h => absurd h List.not_mem_nil) (by decide) (by decide) (hts _ (List.mem_cons_of_mem _ klL_28)) (yo_cast hX (by decide +kernel)) hcell hcv hcl ?_
      refine W.eq (g2 := F0 m 12 ls [.ref q9]) rfl ?_
      refine lv_astore_n (lv' := [(3, .ref q9), (0, .ref (ad 0)), (1, .int p1), (2, .ref oa)]) hx hb dL_frequent_12 rfl hl (by decide) rfl (fun ls hl => ?_)
      refine lv_iconst (v := 1) hx hb dL_frequent_13 (by decide) ?_
      refine W.widen (k := 2) (n := 12) (Nat.le_of_ble_eq_true rfl) (Nat.le_of_ble_eq_true rfl) ?_
      exact W.iret (v := 1) hx hb hr (fun t9 ht hW => ⟨⟨_, (ux.1, ux.2, o), rfl, Or.inr (Or.inl ⟨rfl, hg⟩), by rw [ht]; exact hP, va_K.moved hW.alike hK, hD⟩, hS.F ht⟩) hS.2.2 dL_frequent_14
    · refine vx_catch (E := xNSE) (name := xNSE) hown [(⟨0, 9, 12, 28⟩ : ExceptionTableEntry)] (⟨0, 9, 15, 33⟩ : ExceptionTableEntry) [] (by rw [htab]; rfl) (fun z h => by
        obtain rfl := List.mem_singleton.mp h
        exact Or.inr ⟨by decide, _, hts _ (List.mem_cons_of_mem _ klL_28), hX.1.2.2 (xNSE, xIOB) (by decide +kernel)⟩) (by decide) (by decide) (hts _ (List.mem_cons_of_mem _ klL_33)) (yo_cast hX (by decide +kernel)) hcell hcv hcl ?_
      refine W.eq (g2 := F0 m 15 ls [.ref q9]) rfl ?_
      refine lv_astore_n (lv' := [(3, .ref q9), (0, .ref (ad 0)), (1, .int p1), (2, .ref oa)]) hx hb dL_frequent_15 rfl hl (by decide) rfl (fun ls hl => ?_)
      refine lv_iconst (v := 2) hx hb dL_frequent_16 (by decide) ?_
      refine W.widen (k := 2) (n := 12) (Nat.le_of_ble_eq_true rfl) (Nat.le_of_ble_eq_true rfl) ?_
      exact W.iret (v := 2) hx hb hr (fun t9 ht hW => ⟨⟨_, (ux.1, ux.2, o), rfl, Or.inr (Or.inr ⟨rfl, hg⟩), by rw [ht]; exact hP, va_K.moved hW.alike hK, hD⟩, hS.F ht⟩) hS.2.2 dL_frequent_17
  · obtain ⟨hP1, -, hD1⟩ := hB
    rw [ht9] at hP1
    obtain ⟨hP, hD⟩ := va_join (wr := [(oa, .inl (co, 1, .inr (.inl o)))]) (w1 := wm ca ad t k v b n kd ln w nw u9.1 u9.2) hP hD [0, 1, 2, 3, 4, 5, 6, 7, 8] [9] rfl rfl (by decide) (by decide) hk1 hFc hP1 hD1
    have hP := hP.sub (ws' := wo ca ad co oa t k v b n kd ln w nw u9.1 u9.2 o) [1, 2, 3, 4, 5, 6, 7, 8, 9, 0] rfl
    have hD := hD.sub (ws' := wo ca ad co oa t k v b n kd ln w nw u9.1 u9.2 o) [1, 2, 3, 4, 5, 6, 7, 8, 9, 0] (by decide) rfl
    skip
    refine lv_i2l (v := r9.toInt64) hx hb dL_frequent_7 rfl ?_
    refine va_last hx hb hK hP hD hS 9 8 rfl rfl (x := r9.toInt64) yo_in dL_frequent_8 (fun H locs hP hD hS => ?_)
    have hP : va_P (dC, dI) vwCl (wo ca ad co oa t k v b n kd ln w nw u9.1 u9.2 (vp_updL o 0 r9.toInt64)) H := hP
    have hD : va_D A (wo ca ad co oa t k v b n kd ln w nw u9.1 u9.2 (vp_updL o 0 r9.toInt64)) := hD
    refine lv_goto (tgt := 18) hx hb dL_frequent_9 (by decide) ?_
    refine lv_iconst (v := 0) hx hb dL_frequent_18 (by decide) ?_
    refine W.widen (k := 2) (n := 12) (Nat.le_of_ble_eq_true rfl) (Nat.le_of_ble_eq_true rfl) ?_
    exact W.iret (v := 0) hx hb hr (fun t9 ht hW => ⟨⟨_, (u9.1, u9.2, vp_updL o 0 r9.toInt64), rfl, Or.inl ⟨rfl, by obtain ⟨wi, q, h1, h2, h3, h4, h5⟩ := hw9; exact ⟨wi, q, r9, h1, h2, h3, h4, h5, rfl⟩⟩, by rw [ht]; exact hP, va_K.moved hW.alike hK, hD⟩, hS.F ht⟩) hS.2.2 dL_frequent_19

set_option maxRecDepth 100000 in
set_option maxHeartbeats 4000000 in
/-- the wrapper of below -/
theorem c_L_below (l : Launch) (hlt : l.stackTraces = false) (dC : Nat → ClassId) (dI : Nat → Nat → Nat) (ca : Nat → ClassId) (ad : Nat → Nat) (co : ClassId) (oa : Nat) (sz : Nat) (t : Nat → Int32) (k : Nat → Nat) (v : Nat → Int32) (b : Nat → Nat) (n : Nat) (kd : Nat → Int32) (ln : Nat → Int32) (w : Nat) (nw : Int32) (ins : Nat → Int32) (sn : Nat → Nat) (o : Nat → Int64) (p1 p2 : Int32) (hn : n ≤ 300) (hk8 : ∀ j, j < n → k j < 8) (hw6 : w ≤ 6) (hbn : ∀ j, j < n → b j < n) : Met l yL_below wsL_below ({ frames := 8, cells := 1, slots := 6, locals := 135 }) (va_Pc [.ref (ad 0), .int p1, .int p2, .ref oa] (fun U => woPre dC dI ca ad co oa sz t k v b n kd ln w nw ins sn o U ∧ xwP (va_A (wo ca ad co oa t k v b n kd ln w nw ins sn o) sz) U)) (va_Qi (fun (r : Int32) (u : (Nat → Int32) × (Nat → Nat) × (Nat → Int64)) => (r = 0 ∧ ∃ wi x9, wi < w ∧ p1 = nI wi ∧ (∀ j, j < n → qc_mk (u.1 j) (qc_in t k n nw (kd wi) (ln wi) j)) ∧ x9 = nI (qc_bel v u.1 p2 n) ∧ u.2.2 = vp_updL o 0 (Int32.toInt64 x9)) ∨ (r = 1 ∧ ¬ qx_win w p1)) (fun u t9 => woAt dC dI ca ad co oa (va_A (wo ca ad co oa t k v b n kd ln w nw ins sn o) sz) t k v b n kd ln w nw u.1 u.2.1 u.2.2 t9) (va_A (wo ca ad co oa t k v b n kd ln w nw ins sn o) sz)) 1 6 (va_A (wo ca ad co oa t k v b n kd ln w nw ins sn o) sz) := by
  refine va_MetW (cc := cL_below) (maxL := 5) (ret := (some .int)) (by decide) rfl ?_
  intro p e s m args below meth c s₁ B hml hv
  obtain ⟨rfl, ⟨hsz, hP, hK, hD0⟩, hX⟩ := hv
  have hx := B.exec
  have hb := B.bytes
  have hr := B.returns
  have hts := atoms_spec (ws := wsL_below) B.pre
  have htab := vx_table (x := yL_below) B (hts _ List.mem_cons_self)
  have hown : s.vm.findClass RL = some m.cls := findClass_of_methodNamed B.named
  have hlocks := B.notSynchronized
  subst hsz
  have hD := hD0.self (sz := s.heap.size)
  generalize hAe : va_A (wo ca ad co oa t k v b n kd ln w nw ins sn o) s.heap.size = A at hD hX ⊢
  have hA : ∀ q : Nat, s.heap.size ≤ q → A q := fun q h => by rw [← hAe]; exact Or.inr h
  have hS : va_S A s.heap s.heap [] := va_S.rf
  have hl := lv_entry ([.ref (ad 0), .int p1, .int p2, .ref oa]) (n := 5) (Nat.le_of_ble_eq_true rfl)
  rw [lg_entry_eq]
  generalize (lg_sl ([.ref (ad 0), .int p1, .int p2, .ref oa]) ++ List.replicate (5 - (lg_sl ([.ref (ad 0), .int p1, .int p2, .ref oa])).length) Slot.unset).toArray = ls at hl ⊢
  have hl : lv_has ls 5 [(0, .ref (ad 0)), (1, .int p1), (2, .int p2), (3, .ref oa)] := hl
  refine lv_aload_n hx hb dL_below_0 rfl (lv_at hl 3 rfl) ?_
  refine lv_iconst (v := 0) hx hb dL_below_1 (by decide) ?_
  refine lv_aload_n hx hb dL_below_2 rfl (lv_at hl 0 rfl) ?_
  refine lv_iload_n hx hb dL_below_3 rfl (lv_at hl 1 rfl) ?_
  refine lv_iload_n hx hb dL_below_4 rfl (lv_at hl 2 rfl) ?_
  have hPc := hP.sub (ws' := wm ca ad t k v b n kd ln w nw ins sn) [0, 1, 2, 3, 4, 5, 6, 7, 8] rfl
  have hDc := hD.sub (ws' := wm ca ad t k v b n kd ln w nw ins sn) [0, 1, 2, 3, 4, 5, 6, 7, 8] (by decide) rfl
  have hKc := hK.sub (tys' := wmT ca) [0, 1, 2, 3, 4, 5, 6, 7] rfl
  have hFc := va_free (wc := wm ca ad t k v b n kd ln w nw ins sn) hD hS hA [0, 1, 2, 3, 4, 5, 6, 7, 8] rfl
  refine vx_calli (vx_runV (As := [.int p1, .int p2]) (rest := [.int 0, .ref oa]) ⟨hx, hb, hml, hown, hts⟩ (c_below l hlt dC dI ca ad _ t k v b n kd ln w nw ins sn p1 p2 hn hk8 hw6 hbn) (cwV 2 hts (gg_V mlL_39 imX0_below seX0_below in_WindowMeters kwX0_below) rfl rfl rfl (by decide +kernel) ⟨Nat.le_of_ble_eq_true rfl, Nat.le_of_ble_eq_true rfl⟩) (wm_preX hKc hPc hDc hS hFc hX [.int p1, .int p2]) rfl rfl hl.1 rfl (lv_room (Nat.le_of_ble_eq_true rfl)) dL_below_5 ⟨Nat.le_of_ble_eq_true rfl, Nat.le_of_ble_eq_true rfl⟩) hS (fun q _ h => hFc q h) hFc (fun q _ h => hFc q h) (fun E ce q9 ux t9 H1 locs ht9 hvm _ hB hz1 hk1 hS hcell hcv hcl => ?_) (fun r9 u9 t9 H1 locs ht9 hvm hw9 hB hz1 hk1 hS => ?_)
  · obtain ⟨hE, hP1, -, hD1⟩ := hB
    rw [ht9] at hP1
    obtain ⟨hP, hD⟩ := va_join (wr := [(oa, .inl (co, 1, .inr (.inl o)))]) (w1 := wm ca ad t k v b n kd ln w nw ins sn) hP hD [0, 1, 2, 3, 4, 5, 6, 7, 8] [9] rfl rfl (by decide) (by decide) hk1 hFc hP1 hD1
    have hP := hP.sub (ws' := wo ca ad co oa t k v b n kd ln w nw ins sn o) [1, 2, 3, 4, 5, 6, 7, 8, 9, 0] rfl
    have hD := hD.sub (ws' := wo ca ad co oa t k v b n kd ln w nw ins sn o) [1, 2, 3, 4, 5, 6, 7, 8, 9, 0] (by decide) rfl
    skip
    obtain ⟨rfl, hg⟩ := hE
    refine vx_catch (E := xIOB) (name := xIOB) hown [] (⟨0, 10, 13, 28⟩ : ExceptionTableEntry) [] (by rw [htab]; rfl) (fun z h => absurd h List.not_mem_nil) (by decide) (by decide) (hts _ (List.mem_cons_of_mem _ klL_28)) (yo_cast hX (by decide +kernel)) hcell hcv hcl ?_
    refine W.eq (g2 := F0 m 13 ls [.ref q9]) rfl ?_
    refine lv_astore (lv' := [(4, .ref q9), (0, .ref (ad 0)), (1, .int p1), (2, .int p2), (3, .ref oa)]) hx hb dL_below_13 hl (by decide) rfl (fun ls hl => ?_)
    refine lv_iconst (v := 1) hx hb dL_below_15 (by decide) ?_
    refine W.widen (k := 1) (n := 6) (Nat.le_of_ble_eq_true rfl) (Nat.le_of_ble_eq_true rfl) ?_
    exact W.iret (v := 1) hx hb hr (fun t9 ht hW => ⟨⟨_, (ins, sn, o), rfl, Or.inr ⟨rfl, hg⟩, by rw [ht]; exact hP, va_K.moved hW.alike hK, hD⟩, hS.F ht⟩) hS.2.2 dL_below_16
  · obtain ⟨hP1, -, hD1⟩ := hB
    rw [ht9] at hP1
    obtain ⟨hP, hD⟩ := va_join (wr := [(oa, .inl (co, 1, .inr (.inl o)))]) (w1 := wm ca ad t k v b n kd ln w nw u9.1 u9.2) hP hD [0, 1, 2, 3, 4, 5, 6, 7, 8] [9] rfl rfl (by decide) (by decide) hk1 hFc hP1 hD1
    have hP := hP.sub (ws' := wo ca ad co oa t k v b n kd ln w nw u9.1 u9.2 o) [1, 2, 3, 4, 5, 6, 7, 8, 9, 0] rfl
    have hD := hD.sub (ws' := wo ca ad co oa t k v b n kd ln w nw u9.1 u9.2 o) [1, 2, 3, 4, 5, 6, 7, 8, 9, 0] (by decide) rfl
    skip
    refine lv_i2l (v := r9.toInt64) hx hb dL_below_8 rfl ?_
    refine va_last hx hb hK hP hD hS 9 8 rfl rfl (x := r9.toInt64) yo_in dL_below_9 (fun H locs hP hD hS => ?_)
    have hP : va_P (dC, dI) vwCl (wo ca ad co oa t k v b n kd ln w nw u9.1 u9.2 (vp_updL o 0 r9.toInt64)) H := hP
    have hD : va_D A (wo ca ad co oa t k v b n kd ln w nw u9.1 u9.2 (vp_updL o 0 r9.toInt64)) := hD
    refine lv_goto (tgt := 17) hx hb dL_below_10 (by decide) ?_
    refine lv_iconst (v := 0) hx hb dL_below_17 (by decide) ?_
    refine W.widen (k := 1) (n := 6) (Nat.le_of_ble_eq_true rfl) (Nat.le_of_ble_eq_true rfl) ?_
    exact W.iret (v := 0) hx hb hr (fun t9 ht hW => ⟨⟨_, (u9.1, u9.2, vp_updL o 0 r9.toInt64), rfl, Or.inl ⟨rfl, by obtain ⟨wi, h1, h2, h3, h4⟩ := hw9; exact ⟨wi, r9, h1, h2, h3, h4, rfl⟩⟩, by rw [ht]; exact hP, va_K.moved hW.alike hK, hD⟩, hS.F ht⟩) hS.2.2 dL_below_18

set_option maxRecDepth 100000 in
set_option maxHeartbeats 4000000 in
/-- the wrapper of has -/
theorem c_L_has (l : Launch) (hlt : l.stackTraces = false) (dC : Nat → ClassId) (dI : Nat → Nat → Nat) (ca : Nat → ClassId) (ad : Nat → Nat) (co : ClassId) (oa : Nat) (sz : Nat) (t : Nat → Int32) (k : Nat → Nat) (v : Nat → Int32) (b : Nat → Nat) (n : Nat) (kd : Nat → Int32) (ln : Nat → Int32) (w : Nat) (nw : Int32) (ins : Nat → Int32) (sn : Nat → Nat) (o : Nat → Int64) (p1 p2 : Int32) (hn : n ≤ 300) (hk8 : ∀ j, j < n → k j < 8) (hw6 : w ≤ 6) (hbn : ∀ j, j < n → b j < n) : Met l yL_has wsL_has ({ frames := 8, cells := 2, slots := 12, locals := 133 }) (va_Pc [.ref (ad 0), .int p1, .int p2, .ref oa] (fun U => woPre dC dI ca ad co oa sz t k v b n kd ln w nw ins sn o U ∧ xwP (va_A (wo ca ad co oa t k v b n kd ln w nw ins sn o) sz) U)) (va_Qi (fun (r : Int32) (u : (Nat → Int32) × (Nat → Nat) × (Nat → Int64)) => (r = 0 ∧ ∃ wi i9, wi < w ∧ p1 = nI wi ∧ i9 < n ∧ p2 = nI i9 ∧ ((qc_in t k n nw (kd wi) (ln wi) i9 ∧ u.2.2 = vp_updL o 0 1) ∨ (¬ qc_in t k n nw (kd wi) (ln wi) i9 ∧ u.2.2 = vp_updL o 0 0))) ∨ (r = 1 ∧ ¬ (qx_win w p1 ∧ qx_win n p2))) (fun u t9 => woAt dC dI ca ad co oa (va_A (wo ca ad co oa t k v b n kd ln w nw ins sn o) sz) t k v b n kd ln w nw u.1 u.2.1 u.2.2 t9) (va_A (wo ca ad co oa t k v b n kd ln w nw ins sn o) sz)) 2 12 (va_A (wo ca ad co oa t k v b n kd ln w nw ins sn o) sz) := by
  refine va_MetW (cc := cL_has) (maxL := 5) (ret := (some .int)) (by decide) rfl ?_
  intro p e s m args below meth c s₁ B hml hv
  obtain ⟨rfl, ⟨hsz, hP, hK, hD0⟩, hX⟩ := hv
  have hx := B.exec
  have hb := B.bytes
  have hr := B.returns
  have hts := atoms_spec (ws := wsL_has) B.pre
  have htab := vx_table (x := yL_has) B (hts _ List.mem_cons_self)
  have hown : s.vm.findClass RL = some m.cls := findClass_of_methodNamed B.named
  have hlocks := B.notSynchronized
  subst hsz
  have hD := hD0.self (sz := s.heap.size)
  generalize hAe : va_A (wo ca ad co oa t k v b n kd ln w nw ins sn o) s.heap.size = A at hD hX ⊢
  have hA : ∀ q : Nat, s.heap.size ≤ q → A q := fun q h => by rw [← hAe]; exact Or.inr h
  have hS : va_S A s.heap s.heap [] := va_S.rf
  have hl := lv_entry ([.ref (ad 0), .int p1, .int p2, .ref oa]) (n := 5) (Nat.le_of_ble_eq_true rfl)
  rw [lg_entry_eq]
  generalize (lg_sl ([.ref (ad 0), .int p1, .int p2, .ref oa]) ++ List.replicate (5 - (lg_sl ([.ref (ad 0), .int p1, .int p2, .ref oa])).length) Slot.unset).toArray = ls at hl ⊢
  have hl : lv_has ls 5 [(0, .ref (ad 0)), (1, .int p1), (2, .int p2), (3, .ref oa)] := hl
  refine lv_aload_n hx hb dL_has_0 rfl (lv_at hl 3 rfl) ?_
  refine lv_iconst (v := 0) hx hb dL_has_1 (by decide) ?_
  refine lv_aload_n hx hb dL_has_2 rfl (lv_at hl 0 rfl) ?_
  refine lv_iload_n hx hb dL_has_3 rfl (lv_at hl 1 rfl) ?_
  refine lv_iload_n hx hb dL_has_4 rfl (lv_at hl 2 rfl) ?_
  have hPc := hP.sub (ws' := wm ca ad t k v b n kd ln w nw ins sn) [0, 1, 2, 3, 4, 5, 6, 7, 8] rfl
  have hDc := hD.sub (ws' := wm ca ad t k v b n kd ln w nw ins sn) [0, 1, 2, 3, 4, 5, 6, 7, 8] (by decide) rfl
  have hKc := hK.sub (tys' := wmT ca) [0, 1, 2, 3, 4, 5, 6, 7] rfl
  have hFc := va_free (wc := wm ca ad t k v b n kd ln w nw ins sn) hD hS hA [0, 1, 2, 3, 4, 5, 6, 7, 8] rfl
  refine vx_calli (vx_runV (As := [.int p1, .int p2]) (rest := [.int 0, .ref oa]) ⟨hx, hb, hml, hown, hts⟩ (c_has l hlt dC dI ca ad _ t k v b n kd ln w nw ins sn p1 p2 hn hk8 hw6 hbn) (cwV 2 hts (gg_V mlL_42 imX0_has seX0_has in_WindowMeters kwX0_has) rfl rfl rfl (by decide +kernel) ⟨Nat.le_of_ble_eq_true rfl, Nat.le_of_ble_eq_true rfl⟩) (wm_preX hKc hPc hDc hS hFc hX [.int p1, .int p2]) rfl rfl hl.1 rfl (lv_room (Nat.le_of_ble_eq_true rfl)) dL_has_5 ⟨Nat.le_of_ble_eq_true rfl, Nat.le_of_ble_eq_true rfl⟩) hS (fun q _ h => hFc q h) hFc (fun q _ h => hFc q h) (fun E ce q9 ux t9 H1 locs ht9 hvm _ hB hz1 hk1 hS hcell hcv hcl => ?_) (fun r9 u9 t9 H1 locs ht9 hvm hw9 hB hz1 hk1 hS => ?_)
  · obtain ⟨hE, hP1, -, hD1⟩ := hB
    rw [ht9] at hP1
    obtain ⟨hP, hD⟩ := va_join (wr := [(oa, .inl (co, 1, .inr (.inl o)))]) (w1 := wm ca ad t k v b n kd ln w nw ins sn) hP hD [0, 1, 2, 3, 4, 5, 6, 7, 8] [9] rfl rfl (by decide) (by decide) hk1 hFc hP1 hD1
    have hP := hP.sub (ws' := wo ca ad co oa t k v b n kd ln w nw ins sn o) [1, 2, 3, 4, 5, 6, 7, 8, 9, 0] rfl
    have hD := hD.sub (ws' := wo ca ad co oa t k v b n kd ln w nw ins sn o) [1, 2, 3, 4, 5, 6, 7, 8, 9, 0] (by decide) rfl
    skip
    obtain ⟨rfl, hg⟩ := hE
    refine vx_catch (E := xIOB) (name := xIOB) hown [] (⟨0, 17, 20, 28⟩ : ExceptionTableEntry) [] (by rw [htab]; rfl) (fun z h => absurd h List.not_mem_nil) (by decide) (by decide) (hts _ (List.mem_cons_of_mem _ klL_28)) (yo_cast hX (by decide +kernel)) hcell hcv hcl ?_
    refine W.eq (g2 := F0 m 20 ls [.ref q9]) rfl ?_
    refine lv_astore (lv' := [(4, .ref q9), (0, .ref (ad 0)), (1, .int p1), (2, .int p2), (3, .ref oa)]) hx hb dL_has_20 hl (by decide) rfl (fun ls hl => ?_)
    refine lv_iconst (v := 1) hx hb dL_has_22 (by decide) ?_
    refine W.widen (k := 2) (n := 12) (Nat.le_of_ble_eq_true rfl) (Nat.le_of_ble_eq_true rfl) ?_
    exact W.iret (v := 1) hx hb hr (fun t9 ht hW => ⟨⟨_, (ins, sn, o), rfl, Or.inr ⟨rfl, hg⟩, by rw [ht]; exact hP, va_K.moved hW.alike hK, hD⟩, hS.F ht⟩) hS.2.2 dL_has_23
  · obtain ⟨hP1, -, hD1⟩ := hB
    rw [ht9] at hP1
    obtain ⟨hP, hD⟩ := va_join (wr := [(oa, .inl (co, 1, .inr (.inl o)))]) (w1 := wm ca ad t k v b n kd ln w nw u9.1 u9.2) hP hD [0, 1, 2, 3, 4, 5, 6, 7, 8] [9] rfl rfl (by decide) (by decide) hk1 hFc hP1 hD1
    have hP := hP.sub (ws' := wo ca ad co oa t k v b n kd ln w nw u9.1 u9.2 o) [1, 2, 3, 4, 5, 6, 7, 8, 9, 0] rfl
    have hD := hD.sub (ws' := wo ca ad co oa t k v b n kd ln w nw u9.1 u9.2 o) [1, 2, 3, 4, 5, 6, 7, 8, 9, 0] (by decide) rfl
    skip
    refine lv_if_eq (tgt := 15) hx hb dL_has_8 (by decide) (fun c_1 => ?_) (fun c_1 => ?_)
    · refine lv_lconst (v := 0) hx hb dL_has_15 (by decide) ?_
      refine va_last hx hb hK hP hD hS 9 8 rfl rfl (x := 0) yo_in dL_has_16 (fun H locs hP hD hS => ?_)
      have hP : va_P (dC, dI) vwCl (wo ca ad co oa t k v b n kd ln w nw u9.1 u9.2 (vp_updL o 0 0)) H := hP
      have hD : va_D A (wo ca ad co oa t k v b n kd ln w nw u9.1 u9.2 (vp_updL o 0 0)) := hD
      refine lv_goto (tgt := 24) hx hb dL_has_17 (by decide) ?_
      refine lv_iconst (v := 0) hx hb dL_has_24 (by decide) ?_
      refine W.widen (k := 2) (n := 12) (Nat.le_of_ble_eq_true rfl) (Nat.le_of_ble_eq_true rfl) ?_
      exact W.iret (v := 0) hx hb hr (fun t9 ht hW => ⟨⟨_, (u9.1, u9.2, vp_updL o 0 0), rfl, Or.inl ⟨rfl, by obtain ⟨wi, i9, h1, h2, h3, h4, h5⟩ := hw9; exact ⟨wi, i9, h1, h2, h3, h4, Or.inr ⟨mk_z h5 c_1, rfl⟩⟩⟩, by rw [ht]; exact hP, va_K.moved hW.alike hK, hD⟩, hS.F ht⟩) hS.2.2 dL_has_25
    · refine lv_lconst (v := 1) hx hb dL_has_11 (by decide) ?_
      refine lv_goto (tgt := 16) hx hb dL_has_12 (by decide) ?_
      refine va_last hx hb hK hP hD hS 9 8 rfl rfl (x := 1) yo_in dL_has_16 (fun H locs hP hD hS => ?_)
      have hP : va_P (dC, dI) vwCl (wo ca ad co oa t k v b n kd ln w nw u9.1 u9.2 (vp_updL o 0 1)) H := hP
      have hD : va_D A (wo ca ad co oa t k v b n kd ln w nw u9.1 u9.2 (vp_updL o 0 1)) := hD
      refine lv_goto (tgt := 24) hx hb dL_has_17 (by decide) ?_
      refine lv_iconst (v := 0) hx hb dL_has_24 (by decide) ?_
      refine W.widen (k := 2) (n := 12) (Nat.le_of_ble_eq_true rfl) (Nat.le_of_ble_eq_true rfl) ?_
      exact W.iret (v := 0) hx hb hr (fun t9 ht hW => ⟨⟨_, (u9.1, u9.2, vp_updL o 0 1), rfl, Or.inl ⟨rfl, by obtain ⟨wi, i9, h1, h2, h3, h4, h5⟩ := hw9; exact ⟨wi, i9, h1, h2, h3, h4, Or.inl ⟨mk_nz h5 c_1, rfl⟩⟩⟩, by rw [ht]; exact hP, va_K.moved hW.alike hK, hD⟩, hS.F ht⟩) hS.2.2 dL_has_25
end
