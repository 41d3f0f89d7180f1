/-! what a throw asks of the state: words that no reader of steady words carries, the texts, two statics of Throwable -/
def xiS (c : String) : MethodName := ⟨c, "<init>", "(Ljava/lang/String;)V"⟩
abbrev xIAE : String := "java/lang/IllegalArgumentException"
abbrev xIOB : String := "java/lang/IndexOutOfBoundsException"
abbrev xUOE : String := "java/lang/UnsupportedOperationException"
abbrev xNSE : String := "java/util/NoSuchElementException"
abbrev xNM : List String := ["java/lang/RuntimeException", "java/lang/Exception"]
def xwB : List Cond := [.declares (xiS "java/lang/RuntimeException"), .declares (xiS "java/lang/Exception"), .declares (xiS "java/lang/Throwable"), .castable xIAE xIAE, .castable xIOB xIOB, .castable xUOE xUOE, .castable xNSE xNSE]
def xwT : List (Nat × String) := [(44, "no such kind of window"), (50, "n is not 0 .. 1000000"), (54, "there are six windows"), (57, "the time is below now or above 1000000"), (59, "no such key"), (61, "there are 300 tuples"), (70, "no such meter"), (94, "no such value in the window"), (100, "no value in the window"), (104, "no such tuple"), (107, "no such window")]
def xwN : List (String × String) := [(xUOE, xIAE), (xIAE, xIOB), (xNSE, xIOB)]
def xwS (U : State) : Prop := (∀ w ∈ xwB, w.before #[] U = true) ∧ (∀ q ∈ xwT, ∃ sa, vk_R RX0 q.1 q.2 sa U) ∧ ∀ q ∈ xwN, va_Nc q.1 q.2 U
theorem xwS.warm {s U : State} (hW : s.WarmedH U.vm) (h : xwS s) : xwS U := by
  refine ⟨fun w hw => ?_, fun q hq => ?_, fun q hq => (h.2.2 q hq).moved hW.alike⟩
  · have h1 := h.1 w hw
    simp only [xwB, List.mem_cons, List.not_mem_nil, or_false] at hw
    rcases hw with rfl | rfl | rfl | rfl | rfl | rfl | rfl
    · exact va_Nw.warmD hW h1
    · exact va_Nw.warmD hW h1
    · exact va_Nw.warmD hW h1
    · exact va_Nw.warmC hW h1
    · exact va_Nw.warmC hW h1
    · exact va_Nw.warmC hW h1
    · exact va_Nw.warmC hW h1
  · obtain ⟨sa, h1⟩ := h.2.1 q hq
    exact ⟨sa, h1.warm hW⟩
abbrev xwP (A : Nat → Prop) (U : State) : Prop := xwS U ∧ vx_Zq Bundle.tN "UNASSIGNED_STACK" Bundle.steD A U U.heap ∧ vx_Zq Bundle.tN "SUPPRESSED_SENTINEL" Bundle.listD A U U.heap
theorem xwP.at {s U : State} {A A' : Nat → Prop} {H : Heap} {locs : List Loc} (h : xwP A s) (hS : va_S A s.heap H locs) (hAA : ∀ q, A' q → A q) (hU : U.heap = H) (hW : s.WarmedH U.vm) : xwP A' U :=
  ⟨h.1.warm hW, by rw [hU]; exact vx_Zq.moved hW.alike ((h.2.1.kept hS.2.1).narrow hAA), by rw [hU]; exact vx_Zq.moved hW.alike ((h.2.2.kept hS.2.1).narrow hAA)⟩
theorem xwP.call {A : Nat → Prop} {U : State} {g : JFrame} {mk : MethodId} {a : Array Value} (h : xwP A U) : xwP A (U.calling g mk a) := by
  have hW : U.WarmedH (U.calling g mk a).vm := State.WarmedH.refl U
  exact ⟨h.1.warm hW, vx_Zq.moved (U := U.calling g mk a) hW.alike h.2.1, vx_Zq.moved (U := U.calling g mk a) hW.alike h.2.2⟩
theorem xa_of {args : Array Value} {s : State} {x : Cond} {own E : String} {ic : Nat} (hts : ∀ w ∈ x :: gt, w.before args s = true) (hX : xwS s)
    (h1 : ∀ w ∈ (vx_atS own ic E xNM).filter goodWord, w ∈ lw_tbl) (h2 : ∀ w ∈ (vx_atS own ic E xNM).filter (fun w => !goodWord w), w ∈ xwB) : ∀ w ∈ vx_atS own ic E xNM, w.before args s = true :=
  vx_hat (B := xwB) (fun w hw => hts w (List.mem_cons_of_mem _ (gt_mem (h1 w hw) (List.mem_filter.mp hw).2))) h2 (fun w hw => va_any (by
    simp only [xwB, List.mem_cons, List.not_mem_nil, or_false] at hw
    rcases hw with rfl | rfl | rfl | rfl | rfl | rfl | rfl <;> rfl) (hX.1 w hw))
theorem xa_IAE {args : Array Value} {s : State} {x : Cond} (hts : ∀ w ∈ x :: gt, w.before args s = true) (hX : xwS s) : ∀ w ∈ vx_atS RX0 46 xIAE xNM, w.before args s = true := xa_of hts hX (by decide +kernel) (by decide +kernel)
theorem xg_IAE : ∀ w ∈ Cond.classLink RX0 42 xIAE :: Cond.initialized xIAE :: vx_atS RX0 46 xIAE xNM, vx_ot w = true := by decide +kernel
theorem xf_IAE : Bundle.fit xIAE = true := by decide +kernel
theorem xa_IOB {args : Array Value} {s : State} {x : Cond} (hts : ∀ w ∈ x :: gt, w.before args s = true) (hX : xwS s) : ∀ w ∈ vx_atS RX0 106 xIOB xNM, w.before args s = true := xa_of hts hX (by decide +kernel) (by decide +kernel)
theorem xg_IOB : ∀ w ∈ Cond.classLink RX0 102 xIOB :: Cond.initialized xIOB :: vx_atS RX0 106 xIOB xNM, vx_ot w = true := by decide +kernel
theorem xf_IOB : Bundle.fit xIOB = true := by decide +kernel
theorem xa_UOE {args : Array Value} {s : State} {x : Cond} (hts : ∀ w ∈ x :: gt, w.before args s = true) (hX : xwS s) : ∀ w ∈ vx_atS RX0 56 xUOE xNM, w.before args s = true := xa_of hts hX (by decide +kernel) (by decide +kernel)
theorem xg_UOE : ∀ w ∈ Cond.classLink RX0 52 xUOE :: Cond.initialized xUOE :: vx_atS RX0 56 xUOE xNM, vx_ot w = true := by decide +kernel
theorem xf_UOE : Bundle.fit xUOE = true := by decide +kernel
theorem xf_NM : ∀ n ∈ xNM, Bundle.fit n = true := by decide +kernel
theorem wm_thrown {s t : State} {H : Heap} {A : Nat → Prop} {locs : List Loc} {D : va_G} {cl : List vw_C} {ws : va_W} {tys : List (ClassId × FieldType)} (hP : va_P D cl ws H) (hK : va_K D cl tys s) (hS : va_S A s.heap H locs) (hal : s.vm.Alike t.vm) (hz : H.size ≤ t.heap.size) (hq : ∀ q : Nat, q < H.size → t.heap[q]? = H[q]?) : va_P D cl ws t.heap ∧ va_K D cl tys t ∧ va_F A s t :=
  ⟨hP.kept (fun k q hk => hq q.1 (hP k q hk).lt), va_K.moved hal hK, Nat.le_trans hS.1 hz, fun q h1 h2 => (hq q (Nat.lt_of_lt_of_le h1 hS.1)).trans (hS.2.1 q h1 h2)⟩
theorem wm_preX {s : State} {H : Heap} {dC : Nat → ClassId} {dI : Nat → Nat → Nat} {ca : Nat → ClassId} {ad : Nat → Nat} {A : Nat → Prop} {locs : List Loc} {t : Nat → Int32} {k : Nat → Nat} {v : Nat → Int32} {b : Nat → Nat} {n : Nat} {kd : Nat → Int32} {ln : Nat → Int32} {w : Nat} {nw : Int32} {ins : Nat → Int32} (hK : va_K (dC, dI) vwCl (wmT ca) s) (hP : va_P (dC, dI) vwCl (wm ca ad t k v b n kd ln w nw ins) H) (hD : va_D A (wm ca ad t k v b n kd ln w nw ins)) (hS : va_S A s.heap H locs) (hF : ∀ q, va_A (wm ca ad t k v b n kd ln w nw ins) H.size q → A q) (hX : xwP A s) (As : List Value) : PreV s H RX0 (ad 0) (va_Pc (.ref (ad 0) :: As) (fun U => wmPre dC dI ca ad H.size t k v b n kd ln w nw ins U ∧ xwP (va_A (wm ca ad t k v b n kd ln w nw ins) H.size) U)) As :=
  ⟨fun a U g mk q => by
    obtain ⟨q0, ⟨q1, qP, qK, qD⟩, qX⟩ := q
    exact ⟨q0, ⟨q1, qP, va_K.moved (u := U) (U := U.calling g mk a) (Vm.Alike.refl U.vm) qK, qD⟩, qX.call⟩,
   va_recv hK hP (ci := 0) (q0 := 0) rfl rfl, fun U hU hW => ⟨rfl, ⟨by rw [hU], by rw [hU]; exact hP, va_K.moved hW.alike hK, hD.weaken (fun _ _ _ _ => trivial)⟩, hX.at hS hF hU hW⟩⟩
/-- a window there is -/
def qx_win (w : Nat) (p1 : Int32) : Prop := ∃ wi, wi < w ∧ p1 = nI wi
theorem qx_win_no0 {w : Nat} {p1 : Int32} (hw : w < 2 ^ 31) (h : p1 < 0) : ¬ qx_win w p1 := by
  rintro ⟨wi, h1, rfl⟩
  exact nI_pos (Nat.lt_trans h1 hw) h
theorem qx_win_no1 {w : Nat} {p1 : Int32} (hw : w < 2 ^ 31) (h : ¬ p1 < nI w) : ¬ qx_win w p1 := by
  rintro ⟨wi, h1, rfl⟩
  exact h (nI_lt h1 hw)
theorem qx_win_yes {w : Nat} {p1 : Int32} (hw : w < 2 ^ 31) (h0 : ¬ p1 < 0) (h : p1 < nI w) : qx_win w p1 := by
  rcases pk_ix p1 hw with g | g | ⟨j, g1, g2⟩
  · exact absurd g h0
  · exact absurd h (Int32.not_lt.mpr g)
  · exact ⟨j, g1, g2⟩
/-- low ≤ x ≤ high -/
def qx_in (x lo hi : Int32) : Prop := lo ≤ x ∧ x ≤ hi
theorem qx_in7 {x : Int32} : qx_in x 0 7 ↔ ¬ x < 0 ∧ x < 8 := by
  unfold qx_in
  rw [Int32.le_iff_toInt_le, Int32.le_iff_toInt_le, Int32.lt_iff_toInt_lt, Int32.lt_iff_toInt_lt, show (0 : Int32).toInt = 0 from by decide, show (7 : Int32).toInt = 7 from by decide, show (8 : Int32).toInt = 8 from by decide]
  omega
theorem qx_in0 {x hi : Int32} : qx_in x 0 hi ↔ ¬ x < 0 ∧ x ≤ hi := by
  unfold qx_in
  rw [Int32.not_lt]
theorem yn_nz {x : Int32} {P : Prop} (h : qc_mk x P) : narrow .boolean (.int x) = .int x := by
  rcases h with ⟨rfl, -⟩ | ⟨rfl, -⟩ <;> decide
