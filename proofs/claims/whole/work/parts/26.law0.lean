/-! THE CLAIM OUT OF ONE WALK OF THE LAW'S BODY. Your part is whole_start (and what it stands on); all else here is the same for every law, but numbers. -/
def R_law : String := "WindowMetersLaw"
def lw_P (b : Addr) (xs : List Int32) (args : Array Value) (s : State) : Prop := args = #[.ref b] ∧ s.IntsAt b xs ∧ xs.length ≤ 2048 ∧ (Jvm.Cond.and given_1 narrow_1).before args s = true
def lw_Q (_ : Array Value) (s : State) (o : Outcome) (t : State) : Prop := o = .returned (some (.int 1)) ∧ Framed s o t [] 1052 11011
def lw_Z (below : List Frame) (a : Array Value) (s : State) : State → Prop := fun t => ∃ o, t.status = .running ∧ Ended t below o ∧ lw_Q a s o t
/-- the law's own end, with 1 on the stack, nothing written that was there before, its room as the claim has it -/
theorem lw_ret {p : Program} {l : Launch} {e : Env} {s : State} {m : MethodId} {below : List Frame} {meth : Method} {c : Code} {b : Nat} (hx : p.tables.exec = Jvm.exec) (hb : c.code = code) (hr : meth.sig.returnType = ret) (hlocks : meth.locks = false) {pc : Nat} {H : Heap} {ls : Array Slot} (hdg : decode code pc = .ok (.ireturn, 1)) : W p l e room_1 s m #[Value.ref b] below meth c H [] 1052 11011 (lw_Z below #[Value.ref b] s) (F0 m pc ls [.int 1]) := by
  intro T hT X
  obtain ⟨fs, hret, hrun, hended, hW, hframe⟩ := X.leave (v := some (.int 1)) (hlocks := hlocks) (fun h => by rw [hr] at h; cases h)
  have hmeth' : T.vm.method? m = some meth := X.method'
  refine ⟨T.setFrames fs, ?_, .returned (some (.int 1)), hrun, hended, rfl, ⟨_, rfl⟩, hW, hframe⟩
  jvm_step X.here [X.here.top, hx, hb, hdg, hmeth', hr, ret, narrow_b1]
  (try refine ⟨rfl, ?_⟩); (try refine ⟨rfl, ?_⟩)
  first | (intro acts; rw [hret _ acts rfl rfl rfl]) | rw [hret _ _ rfl rfl rfl]
  exact Steps.refl _
/-- what holds at the law's entry: the machine, the code, the tables' words (any of lw_tbl by 'hts w (by decide +kernel)'), the script of L ints xs at the cell b, what the Statement gives of the start (any of its parts by flat_of_before) -/
def lw_At (p : Program) (s : State) (m : MethodId) (meth : Method) (c : Code) (b L : Nat) (xs : Nat → Int32) : Prop :=
  p.tables.exec = Jvm.exec ∧ c.code = code ∧ meth.sig.returnType = ret ∧ c.maxLocals = 7 ∧ s.vm.findClass R_law = some m.cls ∧ (∀ w ∈ lw_tbl, w.before #[Value.ref b] s = true) ∧ va_X b L xs s s.heap ∧ b < s.heap.size ∧ meth.locks = false ∧ (Jvm.Cond.and given_1 narrow_1).before #[Value.ref b] s = true
/-! the law's world: the class, the row out, the model -/
abbrev lwW (ca : Nat → ClassId) (ad : Nat → Nat) (co : ClassId) (oa : Nat) (cm : Nat → ClassId) (am : Nat → Nat) (t : Nat → Int32) (k : Nat → Nat) (v : Nat → Int32) (b : Nat → Nat) (n : Nat) (kd : Nat → Int32) (ln : Nat → Int32) (w : Nat) (nw : Int32) (ins : Nat → Int32) (o : Nat → Int64) (mth : Int32) (mt : Nat → Int32) (mk : Nat → Nat) (mv : Nat → Int32) (mn : Nat) (mnw : Int32) (mw : Nat) (mkd : Nat → Int32) (mln : Nat → Int32) (mhd : Nat) (mso : Nat → Int32) (mfq : Nat) : va_W := [(ad 0, .inr (0, [.ref (ad 1), .ref (ad 2), .ref (ad 3), .ref (ad 4), .int (nI n), .ref (ad 5), .ref (ad 6), .int (nI w), .int nw, .ref (ad 7)])), (ad 1, .inl (ca 1, 300, .inl t)), (ad 2, .inl (ca 2, 300, .inl (fun j => nI (k j)))), (ad 3, .inl (ca 3, 300, .inl v)), (ad 4, .inl (ca 4, 300, .inl (fun j => nI (b j)))), (ad 5, .inl (ca 5, 6, .inl kd)), (ad 6, .inl (ca 6, 6, .inl ln)), (ad 7, .inl (ca 7, 300, .inl ins)), (oa, .inl (co, 1, .inr (.inl o))), (am 0, .inr (1, [.int mth, .int (nI mn), .ref (am 1), .ref (am 2), .ref (am 3), .int mnw, .int (nI mw), .ref (am 4), .ref (am 5), .int (nI mhd), .ref (am 6), .int (nI mfq)])), (am 1, .inl (cm 1, 300, .inl mt)), (am 2, .inl (cm 2, 300, .inl (fun j => nI (mk j)))), (am 3, .inl (cm 3, 300, .inl mv)), (am 4, .inl (cm 4, 6, .inl mkd)), (am 5, .inl (cm 5, 6, .inl mln)), (am 6, .inl (cm 6, 300, .inl mso))]
abbrev lwT (ca : Nat → ClassId) (co : ClassId) (cm : Nat → ClassId) : List (ClassId × FieldType) := [(ca 1, .int), (ca 2, .int), (ca 3, .int), (ca 4, .int), (ca 5, .int), (ca 6, .int), (ca 7, .boolean), (co, .long), (cm 1, .int), (cm 2, .int), (cm 3, .int), (cm 4, .int), (cm 5, .int), (cm 6, .int)]
theorem yl_2 (a : Nat) : nI a + 2 = nI (a + 2) := by rw [show (2 : Int32) = nI 2 from by decide]; exact nI_add a 2
theorem yl_3 (a : Nat) : nI a + 3 = nI (a + 3) := by rw [show (3 : Int32) = nI 3 from by decide]; exact nI_add a 3
theorem yl_get (o : Nat → Int64) (x : Int64) : vp_updL o 0 x (0 : Int32).toNatClampNeg = x := by
  unfold vp_updL
  rw [if_pos (by decide)]
theorem lw_preS {s : State} {H : Heap} {D : va_G} {ws : va_W} {tys : List (ClassId × FieldType)} {A : Nat → Prop} {locs : List Loc} (hK : va_K D vwCl tys s) (hP : va_P D vwCl ws H) (hD : va_D A ws) (hS : va_S A s.heap H locs) (hF : ∀ q, va_A ws H.size q → A q) (hX : xwP A s) (As : List Value) : PreS s H (va_Pc As (fun U => (U.heap.size = H.size ∧ va_P D vwCl ws U.heap ∧ va_K D vwCl tys U ∧ va_D (fun _ => True) ws) ∧ xwP (va_A ws H.size) U)) As :=
  ⟨fun a U g mk q => by
    obtain ⟨q0, ⟨q1, qP, qK, qD⟩, qX⟩ := q
    exact ⟨q0, ⟨q1, qP, va_K.moved (u := U) (U := U.calling g mk a) (Vm.Alike.refl U.vm) qK, qD⟩, qX.call⟩,
   fun U hU hW => ⟨rfl, ⟨by rw [hU], by rw [hU]; exact hP, va_K.moved hW.alike hK, hD.weaken (fun _ _ _ _ => trivial)⟩, hX.at hS hF hU hW⟩⟩
/-- at the loop's end, with the state's facts, the law goes on -/
def lw_go (p : Program) (l : Launch) (e : Env) (s : State) (m : MethodId) (below : List Frame) (meth : Method) (c : Code) (dC : Nat → ClassId) (dI : Nat → Nat → Nat) (bs : Nat) (ca : Nat → ClassId) (ad : Nat → Nat) (co : ClassId) (oa : Nat) (cm : Nat → ClassId) (am : Nat → Nat) (x pc cells slots : Nat) : Prop := ∀ (t : Nat → Int32) (k : Nat → Nat) (v : Nat → Int32) (b : Nat → Nat) (n : Nat) (kd : Nat → Int32) (ln : Nat → Int32) (w : Nat) (nw : Int32) (ins : Nat → Int32) (o : Nat → Int64) (th : Int32) (hd : Nat) (so : Nat → Int32) (fq : Nat), ji t k v b n ln w nw → ∀ (H : Heap) (locs : List Loc), va_P (dC, dI) vwCl (lwW ca ad co oa cm am t k v b n kd ln w nw ins o th t k v n nw w kd ln hd so fq) H → va_D (fun q : Nat => s.heap.size ≤ q) (lwW ca ad co oa cm am t k v b n kd ln w nw ins o th t k v n nw w kd ln hd so fq) → va_S (fun q : Nat => s.heap.size ≤ q) s.heap H locs → ∀ (ls : Array Slot), lv_has ls 7 [(0, .ref bs), (1, .ref (ad 0)), (2, .ref (am 0)), (3, .ref oa), (4, .int (nI x))] → W p l e room_1 s m #[Value.ref bs] below meth c H locs cells slots (lw_Z below #[Value.ref bs] s) (F0 m pc ls [])
