/-! the law's wrappers: the class's cells and the row out -/
abbrev wo (ca : Nat → ClassId) (ad : Nat → Nat) (co : ClassId) (oa : Nat) (t : Nat → Int32) (k : Nat → Nat) (v : Nat → Int32) (b : Nat → Nat) (n : Nat) (kd : Nat → Int32) (ln : Nat → Int32) (w : Nat) (nw : Int32) (ins : Nat → Int32) (o : Nat → Int64) : va_W := [(ad 0, .inr (0, [.ref (ad 1), .ref (ad 2), .ref (ad 3), .ref (ad 4), .int (nI n), .ref (ad 5), .ref (ad 6), .int (nI w), .int nw, .ref (ad 7)])), (ad 1, .inl (ca 1, 300, .inl t)), (ad 2, .inl (ca 2, 300, .inl (fun j => nI (k j)))), (ad 3, .inl (ca 3, 300, .inl v)), (ad 4, .inl (ca 4, 300, .inl (fun j => nI (b j)))), (ad 5, .inl (ca 5, 6, .inl kd)), (ad 6, .inl (ca 6, 6, .inl ln)), (ad 7, .inl (ca 7, 300, .inl ins)), (oa, .inl (co, 1, .inr (.inl o)))]
abbrev woT (ca : Nat → ClassId) (co : ClassId) : List (ClassId × FieldType) := [(ca 1, .int), (ca 2, .int), (ca 3, .int), (ca 4, .int), (ca 5, .int), (ca 6, .int), (ca 7, .boolean), (co, .long)]
abbrev woPre (dC : Nat → ClassId) (dI : Nat → Nat → Nat) (ca : Nat → ClassId) (ad : Nat → Nat) (co : ClassId) (oa : Nat) (sz : Nat) (t : Nat → Int32) (k : Nat → Nat) (v : Nat → Int32) (b : Nat → Nat) (n : Nat) (kd : Nat → Int32) (ln : Nat → Int32) (w : Nat) (nw : Int32) (ins : Nat → Int32) (o : Nat → Int64) (U : State) : Prop := U.heap.size = sz ∧ va_P (dC, dI) vwCl (wo ca ad co oa t k v b n kd ln w nw ins o) U.heap ∧ va_K (dC, dI) vwCl (woT ca co) U ∧ va_D (fun _ => True) (wo ca ad co oa t k v b n kd ln w nw ins o)
abbrev woAt (dC : Nat → ClassId) (dI : Nat → Nat → Nat) (ca : Nat → ClassId) (ad : Nat → Nat) (co : ClassId) (oa : Nat) (A : Nat → Prop) (t : Nat → Int32) (k : Nat → Nat) (v : Nat → Int32) (b : Nat → Nat) (n : Nat) (kd : Nat → Int32) (ln : Nat → Int32) (w : Nat) (nw : Int32) (ins : Nat → Int32) (o : Nat → Int64) (U : State) : Prop := va_P (dC, dI) vwCl (wo ca ad co oa t k v b n kd ln w nw ins o) U.heap ∧ va_K (dC, dI) vwCl (woT ca co) U ∧ va_D A (wo ca ad co oa t k v b n kd ln w nw ins o)
theorem yo_in : vp_in 0 1 := vp_in_nI (n := 0) (by decide) (by decide)
theorem yo_cast {args : Array Value} {s : State} {A : Nat → Prop} {E : String} (hX : xwP A s) (h : Cond.castable E E ∈ xwB) : (Cond.castable E E).before args s = true := va_any rfl (hX.1.1 _ h)
theorem yo_lcmp {p : Program} {l : Launch} {e : Env} {R : Room} {s : State} {m : MethodId} {args : Array Value} {below : List Frame} {meth : Method} {c : Code} {H : Heap} {locs : List Loc} {cells slots pc : Nat} {Q : State → Prop} {cc : ByteArray} {ls : Array Slot} {a b : Int64} {rest : List Value} (he : a = b) (hx : p.tables.exec = Jvm.exec) (hb : c.code = cc) (hdg : decode cc pc = .ok (.lcmp, 1)) (kk : W p l e R s m args below meth c H locs cells slots Q (F0 m (pc + 1) ls (.int 0 :: rest))) : W p l e R s m args below meth c H locs cells slots Q (F0 m pc ls (.long b :: .long a :: rest)) := by
  subst he
  refine W.lcmp hx hb hdg ?_
  rw [show lg_cmp a a = 0 by simp [lg_cmp]]
  exact kk
set_option maxRecDepth 100000 in
set_option maxHeartbeats 4000000 in
/-- the wrapper of window -/
theorem c_L_window (l : Launch) (hlt : l.stackTraces = false) (dC : Nat → ClassId) (dI : Nat → Nat → Nat) (ca : Nat → ClassId) (ad : Nat → Nat) (co : ClassId) (oa : Nat) (sz : Nat) (t : Nat → Int32) (k : Nat → Nat) (v : Nat → Int32) (b : Nat → Nat) (n : Nat) (kd : Nat → Int32) (ln : Nat → Int32) (w : Nat) (nw : Int32) (ins : Nat → Int32) (o : Nat → Int64) (p1 p2 : Int32) (hw6 : w ≤ 6) : Met l yL_window wsL_window ({ frames := 7, cells := 1, slots := 6, locals := 113 }) (va_Pc [.ref (ad 0), .int p1, .int p2, .ref oa] (fun U => woPre dC dI ca ad co oa sz t k v b n kd ln w nw ins o U ∧ xwP (va_A (wo ca ad co oa t k v b n kd ln w nw ins o) sz) U)) (va_Qi (fun (r : Int32) (u : (Nat → Int32) × (Nat → Int32) × Nat × (Nat → Int64)) => (r = 0 ∧ (qx_in p1 0 5 ∧ qx_in p2 0 1000000) ∧ w < 6 ∧ u = (upd kd w p1, upd ln w p2, w + 1, vp_updL o 0 (nI w).toInt64)) ∨ (r = 1 ∧ ¬ (qx_in p1 0 5 ∧ qx_in p2 0 1000000) ∧ u = (kd, ln, w, o)) ∨ (r = 2 ∧ (qx_in p1 0 5 ∧ qx_in p2 0 1000000) ∧ w = 6 ∧ u = (kd, ln, w, o))) (fun u t9 => woAt dC dI ca ad co oa (va_A (wo ca ad co oa t k v b n kd ln w nw ins o) sz) t k v b n u.1 u.2.1 u.2.2.1 nw ins u.2.2.2 t9) (va_A (wo ca ad co oa t k v b n kd ln w nw ins o) sz)) 1 6 (va_A (wo ca ad co oa t k v b n kd ln w nw ins o) sz) := by
  refine va_MetW (cc := cL_window) (maxL := 5) (ret := (some .int)) (by decide) rfl ?_
  intro p e s m args below meth c s₁ B hml hv
  obtain ⟨rfl, ⟨hsz, hP, hK, hD0⟩, hX⟩ := hv
  have hx := B.exec
  have hb := B.bytes
  have hr := B.returns
  have hts := atoms_spec (ws := wsL_window) B.pre
  have htab := vx_table (x := yL_window) B (hts _ List.mem_cons_self)
  have hown : s.vm.findClass RL = some m.cls := findClass_of_methodNamed B.named
  have hlocks := B.notSynchronized
  subst hsz
  have hD := hD0.self (sz := s.heap.size)
  generalize hAe : va_A (wo ca ad co oa t k v b n kd ln w nw ins o) s.heap.size = A at hD hX ⊢
  have hA : ∀ q : Nat, s.heap.size ≤ q → A q := fun q h => by rw [← hAe]; exact Or.inr h
  have hS : va_S A s.heap s.heap [] := va_S.rf
  have hl := lv_entry ([.ref (ad 0), .int p1, .int p2, .ref oa]) (n := 5) (Nat.le_of_ble_eq_true rfl)
  rw [lg_entry_eq]
  generalize (lg_sl ([.ref (ad 0), .int p1, .int p2, .ref oa]) ++ List.replicate (5 - (lg_sl ([.ref (ad 0), .int p1, .int p2, .ref oa])).length) Slot.unset).toArray = ls at hl ⊢
  have hl : lv_has ls 5 [(0, .ref (ad 0)), (1, .int p1), (2, .int p2), (3, .ref oa)] := hl
  refine lv_aload_n hx hb dL_window_0 rfl (lv_at hl 3 rfl) ?_
  refine lv_iconst (v := 0) hx hb dL_window_1 (by decide) ?_
  refine lv_aload_n hx hb dL_window_2 rfl (lv_at hl 0 rfl) ?_
  refine lv_iload_n hx hb dL_window_3 rfl (lv_at hl 1 rfl) ?_
  refine lv_iload_n hx hb dL_window_4 rfl (lv_at hl 2 rfl) ?_
  have hPc := hP.sub (ws' := wm ca ad t k v b n kd ln w nw ins) [0, 1, 2, 3, 4, 5, 6, 7] rfl
  have hDc := hD.sub (ws' := wm ca ad t k v b n kd ln w nw ins) [0, 1, 2, 3, 4, 5, 6, 7] (by decide) rfl
  have hKc := hK.sub (tys' := wmT ca) [0, 1, 2, 3, 4, 5, 6] rfl
  have hFc := va_free (wc := wm ca ad t k v b n kd ln w nw ins) hD hS hA [0, 1, 2, 3, 4, 5, 6, 7] rfl
  refine vx_calli (vx_runV (As := [.int p1, .int p2]) (rest := [.int 0, .ref oa]) ⟨hx, hb, hml, hown, hts⟩ (c_window l hlt dC dI ca ad _ t k v b n kd ln w nw ins p1 p2 hw6) (cwV 2 hts (gg_V mlL_7 imX0_window seX0_window in_WindowMeters kwX0_window) rfl rfl rfl (by decide +kernel) ⟨Nat.le_of_ble_eq_true rfl, Nat.le_of_ble_eq_true rfl⟩) (wm_preX hKc hPc hDc hS hFc hX [.int p1, .int p2]) rfl rfl hl.1 rfl (lv_room (Nat.le_of_ble_eq_true rfl)) dL_window_5 ⟨Nat.le_of_ble_eq_true rfl, Nat.le_of_ble_eq_true rfl⟩) hS (fun q _ h => hFc q h) hFc (fun q _ h => hFc q h) (fun E ce q9 ux t9 H1 locs ht9 hvm _ hB hz1 hk1 hS hcell hcv hcl => ?_) (fun r9 u9 t9 H1 locs ht9 hvm hw9 hB hz1 hk1 hS => ?_)
  · obtain ⟨hE, hP1, -, hD1⟩ := hB
    rw [ht9] at hP1
    obtain ⟨hP, hD⟩ := va_join (wr := [(oa, .inl (co, 1, .inr (.inl o)))]) (w1 := wm ca ad t k v b n kd ln w nw ins) hP hD [0, 1, 2, 3, 4, 5, 6, 7] [8] rfl rfl (by decide) (by decide) hk1 hFc hP1 hD1
    have hP := hP.sub (ws' := wo ca ad co oa t k v b n kd ln w nw ins o) [1, 2, 3, 4, 5, 6, 7, 8, 0] rfl
    have hD := hD.sub (ws' := wo ca ad co oa t k v b n kd ln w nw ins o) [1, 2, 3, 4, 5, 6, 7, 8, 0] (by decide) rfl
    skip
    rcases hE with ⟨rfl, hg⟩ | ⟨rfl, hg, hw⟩
    · refine vx_catch (E := xIAE) (name := xIAE) hown [] (⟨0, 10, 13, 13⟩ : ExceptionTableEntry) [(⟨0, 10, 17, 15⟩ : ExceptionTableEntry)] (by rw [htab]; rfl) (fun z h => absurd h List.not_mem_nil) (by decide) (by decide) (hts _ (List.mem_cons_of_mem _ klL_13)) (yo_cast hX (by decide +kernel)) hcell hcv hcl ?_
      refine W.eq (g2 := F0 m 13 ls [.ref q9]) rfl ?_
      refine lv_astore (lv' := [(4, .ref q9), (0, .ref (ad 0)), (1, .int p1), (2, .int p2), (3, .ref oa)]) hx hb dL_window_13 hl (by decide) rfl (fun ls hl => ?_)
      refine lv_iconst (v := 1) hx hb dL_window_15 (by decide) ?_
      refine W.widen (k := 1) (n := 6) (Nat.le_of_ble_eq_true rfl) (Nat.le_of_ble_eq_true rfl) ?_
      exact W.iret (v := 1) hx hb hr (fun t9 ht hW => ⟨⟨_, (kd, ln, w, o), rfl, Or.inr (Or.inl ⟨rfl, hg, rfl⟩), by rw [ht]; exact hP, va_K.moved hW.alike hK, hD⟩, hS.F ht⟩) hS.2.2 dL_window_16
    · refine vx_catch (E := xUOE) (name := xUOE) hown [(⟨0, 10, 13, 13⟩ : ExceptionTableEntry)] (⟨0, 10, 17, 15⟩ : ExceptionTableEntry) [] (by rw [htab]; rfl) (fun z h => by
        obtain rfl := List.mem_singleton.mp h
        exact Or.inr ⟨by decide, _, hts _ (List.mem_cons_of_mem _ klL_13), hX.1.2.2 (xUOE, xIAE) (by decide +kernel)⟩) (by decide) (by decide) (hts _ (List.mem_cons_of_mem _ klL_15)) (yo_cast hX (by decide +kernel)) hcell hcv hcl ?_
      refine W.eq (g2 := F0 m 17 ls [.ref q9]) rfl ?_
      refine lv_astore (lv' := [(4, .ref q9), (0, .ref (ad 0)), (1, .int p1), (2, .int p2), (3, .ref oa)]) hx hb dL_window_17 hl (by decide) rfl (fun ls hl => ?_)
      refine lv_iconst (v := 2) hx hb dL_window_19 (by decide) ?_
      refine W.widen (k := 1) (n := 6) (Nat.le_of_ble_eq_true rfl) (Nat.le_of_ble_eq_true rfl) ?_
      exact W.iret (v := 2) hx hb hr (fun t9 ht hW => ⟨⟨_, (kd, ln, w, o), rfl, Or.inr (Or.inr ⟨rfl, hg, hw, rfl⟩), by rw [ht]; exact hP, va_K.moved hW.alike hK, hD⟩, hS.F ht⟩) hS.2.2 dL_window_20
  · obtain ⟨hP1, -, hD1⟩ := hB
    rw [ht9] at hP1
    obtain ⟨hP, hD⟩ := va_join (wr := [(oa, .inl (co, 1, .inr (.inl o)))]) (w1 := wm ca ad t k v b n (upd kd w p1) (upd ln w p2) (w + 1) nw ins) hP hD [0, 1, 2, 3, 4, 5, 6, 7] [8] rfl rfl (by decide) (by decide) hk1 hFc hP1 hD1
    have hP := hP.sub (ws' := wo ca ad co oa t k v b n (upd kd w p1) (upd ln w p2) (w + 1) nw ins o) [1, 2, 3, 4, 5, 6, 7, 8, 0] rfl
    have hD := hD.sub (ws' := wo ca ad co oa t k v b n (upd kd w p1) (upd ln w p2) (w + 1) nw ins o) [1, 2, 3, 4, 5, 6, 7, 8, 0] (by decide) rfl
    skip
    refine lv_i2l (v := r9.toInt64) hx hb dL_window_8 rfl ?_
    refine va_last hx hb hK hP hD hS 8 7 rfl rfl (x := r9.toInt64) yo_in dL_window_9 (fun H locs hP hD hS => ?_)
    have hP : va_P (dC, dI) vwCl (wo ca ad co oa t k v b n (upd kd w p1) (upd ln w p2) (w + 1) nw ins (vp_updL o 0 r9.toInt64)) H := hP
    have hD : va_D A (wo ca ad co oa t k v b n (upd kd w p1) (upd ln w p2) (w + 1) nw ins (vp_updL o 0 r9.toInt64)) := hD
    refine lv_goto (tgt := 21) hx hb dL_window_10 (by decide) ?_
    refine lv_iconst (v := 0) hx hb dL_window_21 (by decide) ?_
    refine W.widen (k := 1) (n := 6) (Nat.le_of_ble_eq_true rfl) (Nat.le_of_ble_eq_true rfl) ?_
    exact W.iret (v := 0) hx hb hr (fun t9 ht hW => ⟨⟨_, (upd kd w p1, upd ln w p2, w + 1, vp_updL o 0 r9.toInt64), rfl, Or.inl ⟨rfl, hw9.1, hw9.2.1, by rw [hw9.2.2]⟩, by rw [ht]; exact hP, va_K.moved hW.alike hK, hD⟩, hS.F ht⟩) hS.2.2 dL_window_22

set_option maxRecDepth 100000 in
set_option maxHeartbeats 4000000 in
/-- the wrapper of tuple -/
theorem c_L_tuple (l : Launch) (hlt : l.stackTraces = false) (dC : Nat → ClassId) (dI : Nat → Nat → Nat) (ca : Nat → ClassId) (ad : Nat → Nat) (co : ClassId) (oa : Nat) (sz : Nat) (t : Nat → Int32) (k : Nat → Nat) (v : Nat → Int32) (b : Nat → Nat) (n : Nat) (kd : Nat → Int32) (ln : Nat → Int32) (w : Nat) (nw : Int32) (ins : Nat → Int32) (o : Nat → Int64) (p1 p2 p3 : Int32) (hn : n ≤ 300) : Met l yL_tuple wsL_tuple ({ frames := 7, cells := 1, slots := 6, locals := 114 }) (va_Pc [.ref (ad 0), .int p1, .int p2, .int p3, .ref oa] (fun U => woPre dC dI ca ad co oa sz t k v b n kd ln w nw ins o U ∧ xwP (va_A (wo ca ad co oa t k v b n kd ln w nw ins o) sz) U)) (va_Qi (fun (r : Int32) (u : (Nat → Int32) × (Nat → Nat) × (Nat → Int32) × (Nat → Nat) × Nat × Int32 × (Nat → Int64)) => (r = 0 ∧ (qx_in p1 nw 1000000 ∧ qx_in p2 0 7) ∧ n < 300 ∧ ∃ kk b9, kk < 8 ∧ p2 = nI kk ∧ qc_put (upd v n p3) b n b9 ∧ u = (upd t n p1, vu k n kk, upd v n p3, b9, n + 1, p1, vp_updL o 0 (nI (n + 1)).toInt64)) ∨ (r = 1 ∧ ¬ (qx_in p1 nw 1000000 ∧ qx_in p2 0 7) ∧ u = (t, k, v, b, n, nw, o)) ∨ (r = 2 ∧ (qx_in p1 nw 1000000 ∧ qx_in p2 0 7) ∧ n = 300 ∧ u = (t, k, v, b, n, nw, o))) (fun u t9 => woAt dC dI ca ad co oa (va_A (wo ca ad co oa t k v b n kd ln w nw ins o) sz) u.1 u.2.1 u.2.2.1 u.2.2.2.1 u.2.2.2.2.1 kd ln w u.2.2.2.2.2.1 ins u.2.2.2.2.2.2 t9) (va_A (wo ca ad co oa t k v b n kd ln w nw ins o) sz)) 1 6 (va_A (wo ca ad co oa t k v b n kd ln w nw ins o) sz) := by
  refine va_MetW (cc := cL_tuple) (maxL := 6) (ret := (some .int)) (by decide) rfl ?_
  intro p e s m args below meth c s₁ B hml hv
  obtain ⟨rfl, ⟨hsz, hP, hK, hD0⟩, hX⟩ := hv
  have hx := B.exec
  have hb := B.bytes
  have hr := B.returns
  have hts := atoms_spec (ws := wsL_tuple) B.pre
  have htab := vx_table (x := yL_tuple) B (hts _ List.mem_cons_self)
  have hown : s.vm.findClass RL = some m.cls := findClass_of_methodNamed B.named
  have hlocks := B.notSynchronized
  subst hsz
  have hD := hD0.self (sz := s.heap.size)
  generalize hAe : va_A (wo ca ad co oa t k v b n kd ln w nw ins o) s.heap.size = A at hD hX ⊢
  have hA : ∀ q : Nat, s.heap.size ≤ q → A q := fun q h => by rw [← hAe]; exact Or.inr h
  have hS : va_S A s.heap s.heap [] := va_S.rf
  have hl := lv_entry ([.ref (ad 0), .int p1, .int p2, .int p3, .ref oa]) (n := 6) (Nat.le_of_ble_eq_true rfl)
  rw [lg_entry_eq]
  generalize (lg_sl ([.ref (ad 0), .int p1, .int p2, .int p3, .ref oa]) ++ List.replicate (6 - (lg_sl ([.ref (ad 0), .int p1, .int p2, .int p3, .ref oa])).length) Slot.unset).toArray = ls at hl ⊢
  have hl : lv_has ls 6 [(0, .ref (ad 0)), (1, .int p1), (2, .int p2), (3, .int p3), (4, .ref oa)] := hl
  refine lv_aload hx hb dL_tuple_0 (lv_at hl 4 rfl) ?_
  refine lv_iconst (v := 0) hx hb dL_tuple_2 (by decide) ?_
  refine lv_aload_n hx hb dL_tuple_3 rfl (lv_at hl 0 rfl) ?_
  refine lv_iload_n hx hb dL_tuple_4 rfl (lv_at hl 1 rfl) ?_
  refine lv_iload_n hx hb dL_tuple_5 rfl (lv_at hl 2 rfl) ?_
  refine lv_iload_n hx hb dL_tuple_6 rfl (lv_at hl 3 rfl) ?_
  have hPc := hP.sub (ws' := wm ca ad t k v b n kd ln w nw ins) [0, 1, 2, 3, 4, 5, 6, 7] rfl
  have hDc := hD.sub (ws' := wm ca ad t k v b n kd ln w nw ins) [0, 1, 2, 3, 4, 5, 6, 7] (by decide) rfl
  have hKc := hK.sub (tys' := wmT ca) [0, 1, 2, 3, 4, 5, 6] rfl
  have hFc := va_free (wc := wm ca ad t k v b n kd ln w nw ins) hD hS hA [0, 1, 2, 3, 4, 5, 6, 7] rfl
  refine vx_calli (vx_runV (As := [.int p1, .int p2, .int p3]) (rest := [.int 0, .ref oa]) ⟨hx, hb, hml, hown, hts⟩ (c_tuple l hlt dC dI ca ad _ t k v b n kd ln w nw ins p1 p2 p3 hn) (cwV 3 hts (gg_V mlL_17 imX0_tuple seX0_tuple in_WindowMeters kwX0_tuple) rfl rfl rfl (by decide +kernel) ⟨Nat.le_of_ble_eq_true rfl, Nat.le_of_ble_eq_true rfl⟩) (wm_preX hKc hPc hDc hS hFc hX [.int p1, .int p2, .int p3]) rfl rfl hl.1 rfl (lv_room (Nat.le_of_ble_eq_true rfl)) dL_tuple_7 ⟨Nat.le_of_ble_eq_true rfl, Nat.le_of_ble_eq_true rfl⟩) hS (fun q _ h => hFc q h) hFc (fun q _ h => hFc q h) (fun E ce q9 ux t9 H1 locs ht9 hvm _ hB hz1 hk1 hS hcell hcv hcl => ?_) (fun r9 u9 t9 H1 locs ht9 hvm hw9 hB hz1 hk1 hS => ?_)
  · obtain ⟨hE, hP1, -, hD1⟩ := hB
    rw [ht9] at hP1
    obtain ⟨hP, hD⟩ := va_join (wr := [(oa, .inl (co, 1, .inr (.inl o)))]) (w1 := wm ca ad t k v b n kd ln w nw ins) hP hD [0, 1, 2, 3, 4, 5, 6, 7] [8] rfl rfl (by decide) (by decide) hk1 hFc hP1 hD1
    have hP := hP.sub (ws' := wo ca ad co oa t k v b n kd ln w nw ins o) [1, 2, 3, 4, 5, 6, 7, 8, 0] rfl
    have hD := hD.sub (ws' := wo ca ad co oa t k v b n kd ln w nw ins o) [1, 2, 3, 4, 5, 6, 7, 8, 0] (by decide) rfl
    skip
    rcases hE with ⟨rfl, hg⟩ | ⟨rfl, hg, hw⟩
    · refine vx_catch (E := xIAE) (name := xIAE) hown [] (⟨0, 12, 15, 13⟩ : ExceptionTableEntry) [(⟨0, 12, 19, 15⟩ : ExceptionTableEntry)] (by rw [htab]; rfl) (fun z h => absurd h List.not_mem_nil) (by decide) (by decide) (hts _ (List.mem_cons_of_mem _ klL_13)) (yo_cast hX (by decide +kernel)) hcell hcv hcl ?_
      refine W.eq (g2 := F0 m 15 ls [.ref q9]) rfl ?_
      refine lv_astore (lv' := [(5, .ref q9), (0, .ref (ad 0)), (1, .int p1), (2, .int p2), (3, .int p3), (4, .ref oa)]) hx hb dL_tuple_15 hl (by decide) rfl (fun ls hl => ?_)
      refine lv_iconst (v := 1) hx hb dL_tuple_17 (by decide) ?_
      refine W.widen (k := 1) (n := 6) (Nat.le_of_ble_eq_true rfl) (Nat.le_of_ble_eq_true rfl) ?_
      exact W.iret (v := 1) hx hb hr (fun t9 ht hW => ⟨⟨_, (t, k, v, b, n, nw, o), rfl, Or.inr (Or.inl ⟨rfl, hg, rfl⟩), by rw [ht]; exact hP, va_K.moved hW.alike hK, hD⟩, hS.F ht⟩) hS.2.2 dL_tuple_18
    · refine vx_catch (E := xUOE) (name := xUOE) hown [(⟨0, 12, 15, 13⟩ : ExceptionTableEntry)] (⟨0, 12, 19, 15⟩ : ExceptionTableEntry) [] (by rw [htab]; rfl) (fun z h => by
        obtain rfl := List.mem_singleton.mp h
        exact Or.inr ⟨by decide, _, hts _ (List.mem_cons_of_mem _ klL_13), hX.1.2.2 (xUOE, xIAE) (by decide +kernel)⟩) (by decide) (by decide) (hts _ (List.mem_cons_of_mem _ klL_15)) (yo_cast hX (by decide +kernel)) hcell hcv hcl ?_
      refine W.eq (g2 := F0 m 19 ls [.ref q9]) rfl ?_
      refine lv_astore (lv' := [(5, .ref q9), (0, .ref (ad 0)), (1, .int p1), (2, .int p2), (3, .int p3), (4, .ref oa)]) hx hb dL_tuple_19 hl (by decide) rfl (fun ls hl => ?_)
      refine lv_iconst (v := 2) hx hb dL_tuple_21 (by decide) ?_
      refine W.widen (k := 1) (n := 6) (Nat.le_of_ble_eq_true rfl) (Nat.le_of_ble_eq_true rfl) ?_
      exact W.iret (v := 2) hx hb hr (fun t9 ht hW => ⟨⟨_, (t, k, v, b, n, nw, o), rfl, Or.inr (Or.inr ⟨rfl, hg, hw, rfl⟩), by rw [ht]; exact hP, va_K.moved hW.alike hK, hD⟩, hS.F ht⟩) hS.2.2 dL_tuple_22
  · obtain ⟨hP1, -, hD1⟩ := hB
    rw [ht9] at hP1
    obtain ⟨hP, hD⟩ := va_join (wr := [(oa, .inl (co, 1, .inr (.inl o)))]) (w1 := wm ca ad (upd t n p1) (vu k n u9.1) (upd v n p3) u9.2 (n + 1) kd ln w p1 ins) hP hD [0, 1, 2, 3, 4, 5, 6, 7] [8] rfl rfl (by decide) (by decide) hk1 hFc hP1 hD1
    have hP := hP.sub (ws' := wo ca ad co oa (upd t n p1) (vu k n u9.1) (upd v n p3) u9.2 (n + 1) kd ln w p1 ins o) [1, 2, 3, 4, 5, 6, 7, 8, 0] rfl
    have hD := hD.sub (ws' := wo ca ad co oa (upd t n p1) (vu k n u9.1) (upd v n p3) u9.2 (n + 1) kd ln w p1 ins o) [1, 2, 3, 4, 5, 6, 7, 8, 0] (by decide) rfl
    skip
    refine lv_i2l (v := r9.toInt64) hx hb dL_tuple_10 rfl ?_
    refine va_last hx hb hK hP hD hS 8 7 rfl rfl (x := r9.toInt64) yo_in dL_tuple_11 (fun H locs hP hD hS => ?_)
    have hP : va_P (dC, dI) vwCl (wo ca ad co oa (upd t n p1) (vu k n u9.1) (upd v n p3) u9.2 (n + 1) kd ln w p1 ins (vp_updL o 0 r9.toInt64)) H := hP
    have hD : va_D A (wo ca ad co oa (upd t n p1) (vu k n u9.1) (upd v n p3) u9.2 (n + 1) kd ln w p1 ins (vp_updL o 0 r9.toInt64)) := hD
    refine lv_goto (tgt := 23) hx hb dL_tuple_12 (by decide) ?_
    refine lv_iconst (v := 0) hx hb dL_tuple_23 (by decide) ?_
    refine W.widen (k := 1) (n := 6) (Nat.le_of_ble_eq_true rfl) (Nat.le_of_ble_eq_true rfl) ?_
    exact W.iret (v := 0) hx hb hr (fun t9 ht hW => ⟨⟨_, (upd t n p1, vu k n u9.1, upd v n p3, u9.2, n + 1, p1, vp_updL o 0 r9.toInt64), rfl, Or.inl ⟨rfl, hw9.1, hw9.2.1, u9.1, u9.2, hw9.2.2.2.1, hw9.2.2.2.2.1, hw9.2.2.2.2.2, by rw [hw9.2.2.1]⟩, by rw [ht]; exact hP, va_K.moved hW.alike hK, hD⟩, hS.F ht⟩) hS.2.2 dL_tuple_24

set_option maxRecDepth 100000 in
set_option maxHeartbeats 4000000 in
/-- the wrapper of tick -/
theorem c_L_tick (l : Launch) (hlt : l.stackTraces = false) (dC : Nat → ClassId) (dI : Nat → Nat → Nat) (ca : Nat → ClassId) (ad : Nat → Nat) (sz : Nat) (t : Nat → Int32) (k : Nat → Nat) (v : Nat → Int32) (b : Nat → Nat) (n : Nat) (kd : Nat → Int32) (ln : Nat → Int32) (w : Nat) (nw : Int32) (ins : Nat → Int32) (p1 : Int32)  : Met l yL_tick wsL_tick ({ frames := 7, cells := 1, slots := 6, locals := 111 }) (va_Pc [.ref (ad 0), .int p1] (fun U => wmPre dC dI ca ad sz t k v b n kd ln w nw ins U ∧ xwP (va_A (wm ca ad t k v b n kd ln w nw ins) sz) U)) (va_Qi (fun (r : Int32) (u : Int32) => (r = 0 ∧ qx_in p1 nw 1000000 ∧ u = p1) ∨ (r = 1 ∧ ¬ qx_in p1 nw 1000000 ∧ u = nw)) (fun u t9 => wmAt dC dI ca ad (va_A (wm ca ad t k v b n kd ln w nw ins) sz) t k v b n kd ln w u ins t9) (va_A (wm ca ad t k v b n kd ln w nw ins) sz)) 1 6 (va_A (wm ca ad t k v b n kd ln w nw ins) sz) := by
  refine va_MetW (cc := cL_tick) (maxL := 3) (ret := (some .int)) (by decide) rfl ?_
  intro p e s m args below meth c s₁ B hml hv
  obtain ⟨rfl, ⟨hsz, hP, hK, hD0⟩, hX⟩ := hv
  have hx := B.exec
  have hb := B.bytes
  have hr := B.returns
  have hts := atoms_spec (ws := wsL_tick) B.pre
  have htab := vx_table (x := yL_tick) B (hts _ List.mem_cons_self)
  have hown : s.vm.findClass RL = some m.cls := findClass_of_methodNamed B.named
  have hlocks := B.notSynchronized
  subst hsz
  have hD := hD0.self (sz := s.heap.size)
  generalize hAe : va_A (wm ca ad t k v b n kd ln w nw ins) s.heap.size = A at hD hX ⊢
  have hA : ∀ q : Nat, s.heap.size ≤ q → A q := fun q h => by rw [← hAe]; exact Or.inr h
  have hS : va_S A s.heap s.heap [] := va_S.rf
  have hl := lv_entry ([.ref (ad 0), .int p1]) (n := 3) (Nat.le_of_ble_eq_true rfl)
  rw [lg_entry_eq]
  generalize (lg_sl ([.ref (ad 0), .int p1]) ++ List.replicate (3 - (lg_sl ([.ref (ad 0), .int p1])).length) Slot.unset).toArray = ls at hl ⊢
  have hl : lv_has ls 3 [(0, .ref (ad 0)), (1, .int p1)] := hl
  refine lv_aload_n hx hb dL_tick_0 rfl (lv_at hl 0 rfl) ?_
  refine lv_iload_n hx hb dL_tick_1 rfl (lv_at hl 1 rfl) ?_
  have hPc := hP.sub (ws' := wm ca ad t k v b n kd ln w nw ins) [0, 1, 2, 3, 4, 5, 6, 7] rfl
  have hDc := hD.sub (ws' := wm ca ad t k v b n kd ln w nw ins) [0, 1, 2, 3, 4, 5, 6, 7] (by decide) rfl
  have hKc := hK.sub (tys' := wmT ca) [0, 1, 2, 3, 4, 5, 6] rfl
  have hFc := va_free (wc := wm ca ad t k v b n kd ln w nw ins) hD hS hA [0, 1, 2, 3, 4, 5, 6, 7] rfl
  refine vx_callv (vx_runV (As := [.int p1]) (rest := []) ⟨hx, hb, hml, hown, hts⟩ (c_tick l hlt dC dI ca ad _ t k v b n kd ln w nw ins p1 ) (cwV 1 hts (gg_V mlL_21 imX0_tick seX0_tick in_WindowMeters kwX0_tick) rfl rfl rfl (by decide +kernel) ⟨Nat.le_of_ble_eq_true rfl, Nat.le_of_ble_eq_true rfl⟩) (wm_preX hKc hPc hDc hS hFc hX [.int p1]) rfl rfl hl.1 rfl (lv_room (Nat.le_of_ble_eq_true rfl)) dL_tick_2 ⟨Nat.le_of_ble_eq_true rfl, Nat.le_of_ble_eq_true rfl⟩) hS (fun q _ h => hFc q h) hFc (fun q _ h => hFc q h) (fun E ce q9 ux t9 H1 locs ht9 hvm _ hB hz1 hk1 hS hcell hcv hcl => ?_) (fun u9 t9 H1 locs ht9 hvm hw9 hB hz1 hk1 hS => ?_)
  · obtain ⟨hE, hP1, -, hD1⟩ := hB
    rw [ht9] at hP1
    have hP : va_P (dC, dI) vwCl (wm ca ad t k v b n kd ln w nw ins) H1 := hP1
    have hD : va_D A (wm ca ad t k v b n kd ln w nw ins) := hD1.weaken (fun k q hk h => hFc q.1 h)
    skip
    obtain ⟨rfl, hg⟩ := hE
    refine vx_catch (E := xIAE) (name := xIAE) hown [] (⟨0, 5, 8, 13⟩ : ExceptionTableEntry) [] (by rw [htab]; rfl) (fun z h => absurd h List.not_mem_nil) (by decide) (by decide) (hts _ (List.mem_cons_of_mem _ klL_13)) (yo_cast hX (by decide +kernel)) hcell hcv hcl ?_
    refine W.eq (g2 := F0 m 8 ls [.ref q9]) rfl ?_
    refine lv_astore_n (lv' := [(2, .ref q9), (0, .ref (ad 0)), (1, .int p1)]) hx hb dL_tick_8 rfl hl (by decide) rfl (fun ls hl => ?_)
    refine lv_iconst (v := 1) hx hb dL_tick_9 (by decide) ?_
    refine W.widen (k := 1) (n := 6) (Nat.le_of_ble_eq_true rfl) (Nat.le_of_ble_eq_true rfl) ?_
    exact W.iret (v := 1) hx hb hr (fun t9 ht hW => ⟨⟨_, nw, rfl, Or.inr ⟨rfl, hg, rfl⟩, by rw [ht]; exact hP, va_K.moved hW.alike hK, hD⟩, hS.F ht⟩) hS.2.2 dL_tick_10
  · obtain ⟨hP1, -, hD1⟩ := hB
    rw [ht9] at hP1
    have hP : va_P (dC, dI) vwCl (wm ca ad t k v b n kd ln w p1 ins) H1 := hP1
    have hD : va_D A (wm ca ad t k v b n kd ln w p1 ins) := hD1.weaken (fun k q hk h => hFc q.1 h)
    skip
    refine lv_goto (tgt := 11) hx hb dL_tick_5 (by decide) ?_
    refine lv_iconst (v := 0) hx hb dL_tick_11 (by decide) ?_
    refine W.widen (k := 1) (n := 6) (Nat.le_of_ble_eq_true rfl) (Nat.le_of_ble_eq_true rfl) ?_
    exact W.iret (v := 0) hx hb hr (fun t9 ht hW => ⟨⟨_, p1, rfl, Or.inl ⟨rfl, hw9, rfl⟩, by rw [ht]; exact hP, va_K.moved hW.alike hK, hD⟩, hS.F ht⟩) hS.2.2 dL_tick_12

set_option maxRecDepth 100000 in
set_option maxHeartbeats 4000000 in
/-- the wrapper of meter -/
theorem c_L_meter (l : Launch) (hlt : l.stackTraces = false) (dC : Nat → ClassId) (dI : Nat → Nat → Nat) (ca : Nat → ClassId) (ad : Nat → Nat) (co : ClassId) (oa : Nat) (sz : Nat) (t : Nat → Int32) (k : Nat → Nat) (v : Nat → Int32) (b : Nat → Nat) (n : Nat) (kd : Nat → Int32) (ln : Nat → Int32) (w : Nat) (nw : Int32) (ins : Nat → Int32) (o : Nat → Int64) (p1 p2 : Int32) (hn : n ≤ 300) (hk8 : ∀ j, j < n → k j < 8) (hw6 : w ≤ 6) (hbn : ∀ j, j < n → b j < n) : Met l yL_meter wsL_meter ({ frames := 8, cells := 2, slots := 12, locals := 133 }) (va_Pc [.ref (ad 0), .int p1, .int p2, .ref oa] (fun U => woPre dC dI ca ad co oa sz t k v b n kd ln w nw ins o U ∧ xwP (va_A (wo ca ad co oa t k v b n kd ln w nw ins o) sz) U)) (va_Qi (fun (r : Int32) (u : (Nat → Int32) × (Nat → Int64)) => (r = 0 ∧ ∃ wi x9, wi < w ∧ p1 = nI wi ∧ qx_in p2 0 3 ∧ (∀ j, j < n → qc_mk (u.1 j) (qc_in t k n nw (kd wi) (ln wi) j)) ∧ x9 = qx_met v b u.1 n p2 ∧ u.2 = vp_updL o 0 (Int32.toInt64 x9)) ∨ (r = 1 ∧ ¬ qx_win w p1 ∧ u = (ins, o)) ∨ (r = 2 ∧ qx_win w p1 ∧ ¬ qx_in p2 0 3 ∧ u = (ins, o))) (fun u t9 => woAt dC dI ca ad co oa (va_A (wo ca ad co oa t k v b n kd ln w nw ins o) sz) t k v b n kd ln w nw u.1 u.2 t9) (va_A (wo ca ad co oa t k v b n kd ln w nw ins o) sz)) 2 12 (va_A (wo ca ad co oa t k v b n kd ln w nw ins o) sz) := by
  refine va_MetW (cc := cL_meter) (maxL := 5) (ret := (some .int)) (by decide) rfl ?_
  intro p e s m args below meth c s₁ B hml hv
  obtain ⟨rfl, ⟨hsz, hP, hK, hD0⟩, hX⟩ := hv
  have hx := B.exec
  have hb := B.bytes
  have hr := B.returns
  have hts := atoms_spec (ws := wsL_meter) B.pre
  have htab := vx_table (x := yL_meter) B (hts _ List.mem_cons_self)
  have hown : s.vm.findClass RL = some m.cls := findClass_of_methodNamed B.named
  have hlocks := B.notSynchronized
  subst hsz
  have hD := hD0.self (sz := s.heap.size)
  generalize hAe : va_A (wo ca ad co oa t k v b n kd ln w nw ins o) s.heap.size = A at hD hX ⊢
  have hA : ∀ q : Nat, s.heap.size ≤ q → A q := fun q h => by rw [← hAe]; exact Or.inr h
  have hS : va_S A s.heap s.heap [] := va_S.rf
  have hl := lv_entry ([.ref (ad 0), .int p1, .int p2, .ref oa]) (n := 5) (Nat.le_of_ble_eq_true rfl)
  rw [lg_entry_eq]
  generalize (lg_sl ([.ref (ad 0), .int p1, .int p2, .ref oa]) ++ List.replicate (5 - (lg_sl ([.ref (ad 0), .int p1, .int p2, .ref oa])).length) Slot.unset).toArray = ls at hl ⊢
  have hl : lv_has ls 5 [(0, .ref (ad 0)), (1, .int p1), (2, .int p2), (3, .ref oa)] := hl
  refine lv_aload_n hx hb dL_meter_0 rfl (lv_at hl 3 rfl) ?_
  refine lv_iconst (v := 0) hx hb dL_meter_1 (by decide) ?_
  refine lv_aload_n hx hb dL_meter_2 rfl (lv_at hl 0 rfl) ?_
  refine lv_iload_n hx hb dL_meter_3 rfl (lv_at hl 1 rfl) ?_
  refine lv_iload_n hx hb dL_meter_4 rfl (lv_at hl 2 rfl) ?_
  have hPc := hP.sub (ws' := wm ca ad t k v b n kd ln w nw ins) [0, 1, 2, 3, 4, 5, 6, 7] rfl
  have hDc := hD.sub (ws' := wm ca ad t k v b n kd ln w nw ins) [0, 1, 2, 3, 4, 5, 6, 7] (by decide) rfl
  have hKc := hK.sub (tys' := wmT ca) [0, 1, 2, 3, 4, 5, 6] rfl
  have hFc := va_free (wc := wm ca ad t k v b n kd ln w nw ins) hD hS hA [0, 1, 2, 3, 4, 5, 6, 7] rfl
  refine vx_calli (vx_runV (As := [.int p1, .int p2]) (rest := [.int 0, .ref oa]) ⟨hx, hb, hml, hown, hts⟩ (c_meter l hlt dC dI ca ad _ t k v b n kd ln w nw ins p1 p2 hn hk8 hw6 hbn) (cwV 2 hts (gg_V mlL_25 imX0_meter seX0_meter in_WindowMeters kwX0_meter) rfl rfl rfl (by decide +kernel) ⟨Nat.le_of_ble_eq_true rfl, Nat.le_of_ble_eq_true rfl⟩) (wm_preX hKc hPc hDc hS hFc hX [.int p1, .int p2]) rfl rfl hl.1 rfl (lv_room (Nat.le_of_ble_eq_true rfl)) dL_meter_5 ⟨Nat.le_of_ble_eq_true rfl, Nat.le_of_ble_eq_true rfl⟩) hS (fun q _ h => hFc q h) hFc (fun q _ h => hFc q h) (fun E ce q9 ux t9 H1 locs ht9 hvm _ hB hz1 hk1 hS hcell hcv hcl => ?_) (fun r9 u9 t9 H1 locs ht9 hvm hw9 hB hz1 hk1 hS => ?_)
  · obtain ⟨hE, hP1, -, hD1⟩ := hB
    rw [ht9] at hP1
    obtain ⟨hP, hD⟩ := va_join (wr := [(oa, .inl (co, 1, .inr (.inl o)))]) (w1 := wm ca ad t k v b n kd ln w nw ins) hP hD [0, 1, 2, 3, 4, 5, 6, 7] [8] rfl rfl (by decide) (by decide) hk1 hFc hP1 hD1
    have hP := hP.sub (ws' := wo ca ad co oa t k v b n kd ln w nw ins o) [1, 2, 3, 4, 5, 6, 7, 8, 0] rfl
    have hD := hD.sub (ws' := wo ca ad co oa t k v b n kd ln w nw ins o) [1, 2, 3, 4, 5, 6, 7, 8, 0] (by decide) rfl
    skip
    rcases hE with ⟨rfl, hg⟩ | ⟨rfl, hg, hw⟩
    · refine vx_catch (E := xIOB) (name := xIOB) hown [] (⟨0, 10, 13, 28⟩ : ExceptionTableEntry) [(⟨0, 10, 17, 13⟩ : ExceptionTableEntry)] (by rw [htab]; rfl) (fun z h => absurd h List.not_mem_nil) (by decide) (by decide) (hts _ (List.mem_cons_of_mem _ klL_28)) (yo_cast hX (by decide +kernel)) hcell hcv hcl ?_
      refine W.eq (g2 := F0 m 13 ls [.ref q9]) rfl ?_
      refine lv_astore (lv' := [(4, .ref q9), (0, .ref (ad 0)), (1, .int p1), (2, .int p2), (3, .ref oa)]) hx hb dL_meter_13 hl (by decide) rfl (fun ls hl => ?_)
      refine lv_iconst (v := 1) hx hb dL_meter_15 (by decide) ?_
      refine W.widen (k := 2) (n := 12) (Nat.le_of_ble_eq_true rfl) (Nat.le_of_ble_eq_true rfl) ?_
      exact W.iret (v := 1) hx hb hr (fun t9 ht hW => ⟨⟨_, (ins, o), rfl, Or.inr (Or.inl ⟨rfl, hg, rfl⟩), by rw [ht]; exact hP, va_K.moved hW.alike hK, hD⟩, hS.F ht⟩) hS.2.2 dL_meter_16
    · refine vx_catch (E := xIAE) (name := xIAE) hown [(⟨0, 10, 13, 28⟩ : ExceptionTableEntry)] (⟨0, 10, 17, 13⟩ : ExceptionTableEntry) [] (by rw [htab]; rfl) (fun z h => by
        obtain rfl := List.mem_singleton.mp h
        exact Or.inr ⟨by decide, _, hts _ (List.mem_cons_of_mem _ klL_28), hX.1.2.2 (xIAE, xIOB) (by decide +kernel)⟩) (by decide) (by decide) (hts _ (List.mem_cons_of_mem _ klL_13)) (yo_cast hX (by decide +kernel)) hcell hcv hcl ?_
      refine W.eq (g2 := F0 m 17 ls [.ref q9]) rfl ?_
      refine lv_astore (lv' := [(4, .ref q9), (0, .ref (ad 0)), (1, .int p1), (2, .int p2), (3, .ref oa)]) hx hb dL_meter_17 hl (by decide) rfl (fun ls hl => ?_)
      refine lv_iconst (v := 2) hx hb dL_meter_19 (by decide) ?_
      refine W.widen (k := 2) (n := 12) (Nat.le_of_ble_eq_true rfl) (Nat.le_of_ble_eq_true rfl) ?_
      exact W.iret (v := 2) hx hb hr (fun t9 ht hW => ⟨⟨_, (ins, o), rfl, Or.inr (Or.inr ⟨rfl, hg, hw, rfl⟩), by rw [ht]; exact hP, va_K.moved hW.alike hK, hD⟩, hS.F ht⟩) hS.2.2 dL_meter_20
  · obtain ⟨hP1, -, hD1⟩ := hB
    rw [ht9] at hP1
    obtain ⟨hP, hD⟩ := va_join (wr := [(oa, .inl (co, 1, .inr (.inl o)))]) (w1 := wm ca ad t k v b n kd ln w nw u9) hP hD [0, 1, 2, 3, 4, 5, 6, 7] [8] rfl rfl (by decide) (by decide) hk1 hFc hP1 hD1
    have hP := hP.sub (ws' := wo ca ad co oa t k v b n kd ln w nw u9 o) [1, 2, 3, 4, 5, 6, 7, 8, 0] rfl
    have hD := hD.sub (ws' := wo ca ad co oa t k v b n kd ln w nw u9 o) [1, 2, 3, 4, 5, 6, 7, 8, 0] (by decide) rfl
    skip
    refine lv_i2l (v := r9.toInt64) hx hb dL_meter_8 rfl ?_
    refine va_last hx hb hK hP hD hS 8 7 rfl rfl (x := r9.toInt64) yo_in dL_meter_9 (fun H locs hP hD hS => ?_)
    have hP : va_P (dC, dI) vwCl (wo ca ad co oa t k v b n kd ln w nw u9 (vp_updL o 0 r9.toInt64)) H := hP
    have hD : va_D A (wo ca ad co oa t k v b n kd ln w nw u9 (vp_updL o 0 r9.toInt64)) := hD
    refine lv_goto (tgt := 21) hx hb dL_meter_10 (by decide) ?_
    refine lv_iconst (v := 0) hx hb dL_meter_21 (by decide) ?_
    refine W.widen (k := 2) (n := 12) (Nat.le_of_ble_eq_true rfl) (Nat.le_of_ble_eq_true rfl) ?_
    exact W.iret (v := 0) hx hb hr (fun t9 ht hW => ⟨⟨_, (u9, vp_updL o 0 r9.toInt64), rfl, Or.inl ⟨rfl, by obtain ⟨wi, h1, h2, h3, h4, h5⟩ := hw9; exact ⟨wi, r9, h1, h2, h3, h4, h5, rfl⟩⟩, by rw [ht]; exact hP, va_K.moved hW.alike hK, hD⟩, hS.F ht⟩) hS.2.2 dL_meter_22

set_option maxRecDepth 100000 in
set_option maxHeartbeats 4000000 in
/-- the wrapper of kth -/
theorem c_L_kth (l : Launch) (hlt : l.stackTraces = false) (dC : Nat → ClassId) (dI : Nat → Nat → Nat) (ca : Nat → ClassId) (ad : Nat → Nat) (co : ClassId) (oa : Nat) (sz : Nat) (t : Nat → Int32) (k : Nat → Nat) (v : Nat → Int32) (b : Nat → Nat) (n : Nat) (kd : Nat → Int32) (ln : Nat → Int32) (w : Nat) (nw : Int32) (ins : Nat → Int32) (o : Nat → Int64) (p1 p2 : Int32) (hn : n ≤ 300) (hk8 : ∀ j, j < n → k j < 8) (hw6 : w ≤ 6) (hbn : ∀ j, j < n → b j < n) : Met l yL_kth wsL_kth ({ frames := 8, cells := 2, slots := 12, locals := 134 }) (va_Pc [.ref (ad 0), .int p1, .int p2, .ref oa] (fun U => woPre dC dI ca ad co oa sz t k v b n kd ln w nw ins o U ∧ xwP (va_A (wo ca ad co oa t k v b n kd ln w nw ins o) sz) U)) (va_Qi (fun (r : Int32) (u : (Nat → Int32) × (Nat → Int64)) => (r = 0 ∧ ∃ wi q9 x9, wi < w ∧ p1 = nI wi ∧ (∀ j, j < n → qc_mk (u.1 j) (qc_in t k n nw (kd wi) (ln wi) j)) ∧ q9 < n ∧ u.1 (b q9) ≠ 0 ∧ nI (qc_cnb b u.1 q9) = p2 ∧ x9 = v (b q9) ∧ u.2 = vp_updL o 0 (Int32.toInt64 x9)) ∨ (r = 1 ∧ ¬ qx_win w p1) ∨ (r = 2 ∧ ∃ wi, wi < w ∧ p1 = nI wi ∧ (∀ j, j < n → qc_mk (u.1 j) (qc_in t k n nw (kd wi) (ln wi) j)) ∧ ∀ q, q < n → u.1 (b q) ≠ 0 → nI (qc_cnb b u.1 q) ≠ p2)) (fun u t9 => woAt dC dI ca ad co oa (va_A (wo ca ad co oa t k v b n kd ln w nw ins o) sz) t k v b n kd ln w nw u.1 u.2 t9) (va_A (wo ca ad co oa t k v b n kd ln w nw ins o) sz)) 2 12 (va_A (wo ca ad co oa t k v b n kd ln w nw ins o) sz) := by
  refine va_MetW (cc := cL_kth) (maxL := 5) (ret := (some .int)) (by decide) rfl ?_
  intro p e s m args below meth c s₁ B hml hv
  obtain ⟨rfl, ⟨hsz, hP, hK, hD0⟩, hX⟩ := hv
  have hx := B.exec
  have hb := B.bytes
  have hr := B.returns
  have hts := atoms_spec (ws := wsL_kth) B.pre
  have htab := vx_table (x := yL_kth) B (hts _ List.mem_cons_self)
  have hown : s.vm.findClass RL = some m.cls := findClass_of_methodNamed B.named
  have hlocks := B.notSynchronized
  subst hsz
  have hD := hD0.self (sz := s.heap.size)
  generalize hAe : va_A (wo ca ad co oa t k v b n kd ln w nw ins o) s.heap.size = A at hD hX ⊢
  have hA : ∀ q : Nat, s.heap.size ≤ q → A q := fun q h => by rw [← hAe]; exact Or.inr h
  have hS : va_S A s.heap s.heap [] := va_S.rf
  have hl := lv_entry ([.ref (ad 0), .int p1, .int p2, .ref oa]) (n := 5) (Nat.le_of_ble_eq_true rfl)
  rw [lg_entry_eq]
  generalize (lg_sl ([.ref (ad 0), .int p1, .int p2, .ref oa]) ++ List.replicate (5 - (lg_sl ([.ref (ad 0), .int p1, .int p2, .ref oa])).length) Slot.unset).toArray = ls at hl ⊢
  have hl : lv_has ls 5 [(0, .ref (ad 0)), (1, .int p1), (2, .int p2), (3, .ref oa)] := hl
  refine lv_aload_n hx hb dL_kth_0 rfl (lv_at hl 3 rfl) ?_
  refine lv_iconst (v := 0) hx hb dL_kth_1 (by decide) ?_
  refine lv_aload_n hx hb dL_kth_2 rfl (lv_at hl 0 rfl) ?_
  refine lv_iload_n hx hb dL_kth_3 rfl (lv_at hl 1 rfl) ?_
  refine lv_iload_n hx hb dL_kth_4 rfl (lv_at hl 2 rfl) ?_
  have hPc := hP.sub (ws' := wm ca ad t k v b n kd ln w nw ins) [0, 1, 2, 3, 4, 5, 6, 7] rfl
  have hDc := hD.sub (ws' := wm ca ad t k v b n kd ln w nw ins) [0, 1, 2, 3, 4, 5, 6, 7] (by decide) rfl
  have hKc := hK.sub (tys' := wmT ca) [0, 1, 2, 3, 4, 5, 6] rfl
  have hFc := va_free (wc := wm ca ad t k v b n kd ln w nw ins) hD hS hA [0, 1, 2, 3, 4, 5, 6, 7] rfl
  refine vx_calli (vx_runV (As := [.int p1, .int p2]) (rest := [.int 0, .ref oa]) ⟨hx, hb, hml, hown, hts⟩ (c_kth l hlt dC dI ca ad _ t k v b n kd ln w nw ins p1 p2 hn hk8 hw6 hbn) (cwV 2 hts (gg_V mlL_30 imX0_kth seX0_kth in_WindowMeters kwX0_kth) rfl rfl rfl (by decide +kernel) ⟨Nat.le_of_ble_eq_true rfl, Nat.le_of_ble_eq_true rfl⟩) (wm_preX hKc hPc hDc hS hFc hX [.int p1, .int p2]) rfl rfl hl.1 rfl (lv_room (Nat.le_of_ble_eq_true rfl)) dL_kth_5 ⟨Nat.le_of_ble_eq_true rfl, Nat.le_of_ble_eq_true rfl⟩) hS (fun q _ h => hFc q h) hFc (fun q _ h => hFc q h) (fun E ce q9 ux t9 H1 locs ht9 hvm _ hB hz1 hk1 hS hcell hcv hcl => ?_) (fun r9 u9 t9 H1 locs ht9 hvm hw9 hB hz1 hk1 hS => ?_)
  · obtain ⟨hE, hP1, -, hD1⟩ := hB
    rw [ht9] at hP1
    obtain ⟨hP, hD⟩ := va_join (wr := [(oa, .inl (co, 1, .inr (.inl o)))]) (w1 := wm ca ad t k v b n kd ln w nw ux) hP hD [0, 1, 2, 3, 4, 5, 6, 7] [8] rfl rfl (by decide) (by decide) hk1 hFc hP1 hD1
    have hP := hP.sub (ws' := wo ca ad co oa t k v b n kd ln w nw ux o) [1, 2, 3, 4, 5, 6, 7, 8, 0] rfl
    have hD := hD.sub (ws' := wo ca ad co oa t k v b n kd ln w nw ux o) [1, 2, 3, 4, 5, 6, 7, 8, 0] (by decide) rfl
    skip
    rcases hE with ⟨rfl, hg⟩ | ⟨rfl, hg⟩
    · refine vx_catch (E := xIOB) (name := xIOB) hown [] (⟨0, 10, 13, 28⟩ : ExceptionTableEntry) [(⟨0, 10, 17, 33⟩ : ExceptionTableEntry)] (by rw [htab]; rfl) (fun z h => absurd h List.not_mem_nil) (by decide) (by decide) (hts _ (List.mem_cons_of_mem _ klL_28)) (yo_cast hX (by decide +kernel)) hcell hcv hcl ?_
      refine W.eq (g2 := F0 m 13 ls [.ref q9]) rfl ?_
      refine lv_astore (lv' := [(4, .ref q9), (0, .ref (ad 0)), (1, .int p1), (2, .int p2), (3, .ref oa)]) hx hb dL_kth_13 hl (by decide) rfl (fun ls hl => ?_)
      refine lv_iconst (v := 1) hx hb dL_kth_15 (by decide) ?_
      refine W.widen (k := 2) (n := 12) (Nat.le_of_ble_eq_true rfl) (Nat.le_of_ble_eq_true rfl) ?_
      exact W.iret (v := 1) hx hb hr (fun t9 ht hW => ⟨⟨_, (ux, o), rfl, Or.inr (Or.inl ⟨rfl, hg⟩), by rw [ht]; exact hP, va_K.moved hW.alike hK, hD⟩, hS.F ht⟩) hS.2.2 dL_kth_16
    · refine vx_catch (E := xNSE) (name := xNSE) hown [(⟨0, 10, 13, 28⟩ : ExceptionTableEntry)] (⟨0, 10, 17, 33⟩ : ExceptionTableEntry) [] (by rw [htab]; rfl) (fun z h => by
        obtain rfl := List.mem_singleton.mp h
        exact Or.inr ⟨by decide, _, hts _ (List.mem_cons_of_mem _ klL_28), hX.1.2.2 (xNSE, xIOB) (by decide +kernel)⟩) (by decide) (by decide) (hts _ (List.mem_cons_of_mem _ klL_33)) (yo_cast hX (by decide +kernel)) hcell hcv hcl ?_
      refine W.eq (g2 := F0 m 17 ls [.ref q9]) rfl ?_
      refine lv_astore (lv' := [(4, .ref q9), (0, .ref (ad 0)), (1, .int p1), (2, .int p2), (3, .ref oa)]) hx hb dL_kth_17 hl (by decide) rfl (fun ls hl => ?_)
      refine lv_iconst (v := 2) hx hb dL_kth_19 (by decide) ?_
      refine W.widen (k := 2) (n := 12) (Nat.le_of_ble_eq_true rfl) (Nat.le_of_ble_eq_true rfl) ?_
      exact W.iret (v := 2) hx hb hr (fun t9 ht hW => ⟨⟨_, (ux, o), rfl, Or.inr (Or.inr ⟨rfl, hg⟩), by rw [ht]; exact hP, va_K.moved hW.alike hK, hD⟩, hS.F ht⟩) hS.2.2 dL_kth_20
  · obtain ⟨hP1, -, hD1⟩ := hB
    rw [ht9] at hP1
    obtain ⟨hP, hD⟩ := va_join (wr := [(oa, .inl (co, 1, .inr (.inl o)))]) (w1 := wm ca ad t k v b n kd ln w nw u9) hP hD [0, 1, 2, 3, 4, 5, 6, 7] [8] rfl rfl (by decide) (by decide) hk1 hFc hP1 hD1
    have hP := hP.sub (ws' := wo ca ad co oa t k v b n kd ln w nw u9 o) [1, 2, 3, 4, 5, 6, 7, 8, 0] rfl
    have hD := hD.sub (ws' := wo ca ad co oa t k v b n kd ln w nw u9 o) [1, 2, 3, 4, 5, 6, 7, 8, 0] (by decide) rfl
    skip
    refine lv_i2l (v := r9.toInt64) hx hb dL_kth_8 rfl ?_
    refine va_last hx hb hK hP hD hS 8 7 rfl rfl (x := r9.toInt64) yo_in dL_kth_9 (fun H locs hP hD hS => ?_)
    have hP : va_P (dC, dI) vwCl (wo ca ad co oa t k v b n kd ln w nw u9 (vp_updL o 0 r9.toInt64)) H := hP
    have hD : va_D A (wo ca ad co oa t k v b n kd ln w nw u9 (vp_updL o 0 r9.toInt64)) := hD
    refine lv_goto (tgt := 21) hx hb dL_kth_10 (by decide) ?_
    refine lv_iconst (v := 0) hx hb dL_kth_21 (by decide) ?_
    refine W.widen (k := 2) (n := 12) (Nat.le_of_ble_eq_true rfl) (Nat.le_of_ble_eq_true rfl) ?_
    exact W.iret (v := 0) hx hb hr (fun t9 ht hW => ⟨⟨_, (u9, vp_updL o 0 r9.toInt64), rfl, Or.inl ⟨rfl, by obtain ⟨wi, q, h1, h2, h3, h4, h5, h6, h7⟩ := hw9; exact ⟨wi, q, r9, h1, h2, h3, h4, h5, h6, h7, rfl⟩⟩, by rw [ht]; exact hP, va_K.moved hW.alike hK, hD⟩, hS.F ht⟩) hS.2.2 dL_kth_22

set_option maxRecDepth 100000 in
set_option maxHeartbeats 4000000 in
/-- the wrapper of frequent -/
theorem c_L_frequent (l : Launch) (hlt : l.stackTraces = false) (dC : Nat → ClassId) (dI : Nat → Nat → Nat) (ca : Nat → ClassId) (ad : Nat → Nat) (co : ClassId) (oa : Nat) (sz : Nat) (t : Nat → Int32) (k : Nat → Nat) (v : Nat → Int32) (b : Nat → Nat) (n : Nat) (kd : Nat → Int32) (ln : Nat → Int32) (w : Nat) (nw : Int32) (ins : Nat → Int32) (o : Nat → Int64) (p1 : Int32) (hn : n ≤ 300) (hk8 : ∀ j, j < n → k j < 8) (hw6 : w ≤ 6) (hbn : ∀ j, j < n → b j < n) : Met l yL_frequent wsL_frequent ({ frames := 8, cells := 2, slots := 12, locals := 133 }) (va_Pc [.ref (ad 0), .int p1, .ref oa] (fun U => woPre dC dI ca ad co oa sz t k v b n kd ln w nw ins o U ∧ xwP (va_A (wo ca ad co oa t k v b n kd ln w nw ins o) sz) U)) (va_Qi (fun (r : Int32) (u : (Nat → Int32) × (Nat → Int64)) => (r = 0 ∧ ∃ wi j9 x9, wi < w ∧ p1 = nI wi ∧ (∀ j, j < n → qc_mk (u.1 j) (qc_in t k n nw (kd wi) (ln wi) j)) ∧ (qc_fmf v b u.1 n).1 = some j9 ∧ x9 = v j9 ∧ u.2 = vp_updL o 0 (Int32.toInt64 x9)) ∨ (r = 1 ∧ ¬ qx_win w p1) ∨ (r = 2 ∧ ∃ wi, wi < w ∧ p1 = nI wi ∧ (∀ j, j < n → qc_mk (u.1 j) (qc_in t k n nw (kd wi) (ln wi) j)) ∧ (qc_fmf v b u.1 n).1 = none)) (fun u t9 => woAt dC dI ca ad co oa (va_A (wo ca ad co oa t k v b n kd ln w nw ins o) sz) t k v b n kd ln w nw u.1 u.2 t9) (va_A (wo ca ad co oa t k v b n kd ln w nw ins o) sz)) 2 12 (va_A (wo ca ad co oa t k v b n kd ln w nw ins o) sz) := by
  refine va_MetW (cc := cL_frequent) (maxL := 4) (ret := (some .int)) (by decide) rfl ?_
  intro p e s m args below meth c s₁ B hml hv
  obtain ⟨rfl, ⟨hsz, hP, hK, hD0⟩, hX⟩ := hv
  have hx := B.exec
  have hb := B.bytes
  have hr := B.returns
  have hts := atoms_spec (ws := wsL_frequent) B.pre
  have htab := vx_table (x := yL_frequent) B (hts _ List.mem_cons_self)
  have hown : s.vm.findClass RL = some m.cls := findClass_of_methodNamed B.named
  have hlocks := B.notSynchronized
  subst hsz
  have hD := hD0.self (sz := s.heap.size)
  generalize hAe : va_A (wo ca ad co oa t k v b n kd ln w nw ins o) s.heap.size = A at hD hX ⊢
  have hA : ∀ q : Nat, s.heap.size ≤ q → A q := fun q h => by rw [← hAe]; exact Or.inr h
  have hS : va_S A s.heap s.heap [] := va_S.rf
  have hl := lv_entry ([.ref (ad 0), .int p1, .ref oa]) (n := 4) (Nat.le_of_ble_eq_true rfl)
  rw [lg_entry_eq]
  generalize (lg_sl ([.ref (ad 0), .int p1, .ref oa]) ++ List.replicate (4 - (lg_sl ([.ref (ad 0), .int p1, .ref oa])).length) Slot.unset).toArray = ls at hl ⊢
  have hl : lv_has ls 4 [(0, .ref (ad 0)), (1, .int p1), (2, .ref oa)] := hl
  refine lv_aload_n hx hb dL_frequent_0 rfl (lv_at hl 2 rfl) ?_
  refine lv_iconst (v := 0) hx hb dL_frequent_1 (by decide) ?_
  refine lv_aload_n hx hb dL_frequent_2 rfl (lv_at hl 0 rfl) ?_
  refine lv_iload_n hx hb dL_frequent_3 rfl (lv_at hl 1 rfl) ?_
  have hPc := hP.sub (ws' := wm ca ad t k v b n kd ln w nw ins) [0, 1, 2, 3, 4, 5, 6, 7] rfl
  have hDc := hD.sub (ws' := wm ca ad t k v b n kd ln w nw ins) [0, 1, 2, 3, 4, 5, 6, 7] (by decide) rfl
  have hKc := hK.sub (tys' := wmT ca) [0, 1, 2, 3, 4, 5, 6] rfl
  have hFc := va_free (wc := wm ca ad t k v b n kd ln w nw ins) hD hS hA [0, 1, 2, 3, 4, 5, 6, 7] rfl
  refine vx_calli (vx_runV (As := [.int p1]) (rest := [.int 0, .ref oa]) ⟨hx, hb, hml, hown, hts⟩ (c_frequent l hlt dC dI ca ad _ t k v b n kd ln w nw ins p1 hn hk8 hw6 hbn) (cwV 1 hts (gg_V mlL_35 imX0_frequent seX0_frequent in_WindowMeters kwX0_frequent) rfl rfl rfl (by decide +kernel) ⟨Nat.le_of_ble_eq_true rfl, Nat.le_of_ble_eq_true rfl⟩) (wm_preX hKc hPc hDc hS hFc hX [.int p1]) rfl rfl hl.1 rfl (lv_room (Nat.le_of_ble_eq_true rfl)) dL_frequent_4 ⟨Nat.le_of_ble_eq_true rfl, Nat.le_of_ble_eq_true rfl⟩) hS (fun q _ h => hFc q h) hFc (fun q _ h => hFc q h) (fun E ce q9 ux t9 H1 locs ht9 hvm _ hB hz1 hk1 hS hcell hcv hcl => ?_) (fun r9 u9 t9 H1 locs ht9 hvm hw9 hB hz1 hk1 hS => ?_)
  · obtain ⟨hE, hP1, -, hD1⟩ := hB
    rw [ht9] at hP1
    obtain ⟨hP, hD⟩ := va_join (wr := [(oa, .inl (co, 1, .inr (.inl o)))]) (w1 := wm ca ad t k v b n kd ln w nw ux) hP hD [0, 1, 2, 3, 4, 5, 6, 7] [8] rfl rfl (by decide) (by decide) hk1 hFc hP1 hD1
    have hP := hP.sub (ws' := wo ca ad co oa t k v b n kd ln w nw ux o) [1, 2, 3, 4, 5, 6, 7, 8, 0] rfl
    have hD := hD.sub (ws' := wo ca ad co oa t k v b n kd ln w nw ux o) [1, 2, 3, 4, 5, 6, 7, 8, 0] (by decide) rfl
    skip
    rcases hE with ⟨rfl, hg⟩ | ⟨rfl, hg⟩
    · refine vx_catch (E := xIOB) (name := xIOB) hown [] (⟨0, 9, 12, 28⟩ : ExceptionTableEntry) [(⟨0, 9, 15, 33⟩ : ExceptionTableEntry)] (by rw [htab]; rfl) (fun z h => absurd h List.not_mem_nil) (by decide) (by decide) (hts _ (List.mem_cons_of_mem _ klL_28)) (yo_cast hX (by decide +kernel)) hcell hcv hcl ?_
      refine W.eq (g2 := F0 m 12 ls [.ref q9]) rfl ?_
      refine lv_astore_n (lv' := [(3, .ref q9), (0, .ref (ad 0)), (1, .int p1), (2, .ref oa)]) hx hb dL_frequent_12 rfl hl (by decide) rfl (fun ls hl => ?_)
      refine lv_iconst (v := 1) hx hb dL_frequent_13 (by decide) ?_
      refine W.widen (k := 2) (n := 12) (Nat.le_of_ble_eq_true rfl) (Nat.le_of_ble_eq_true rfl) ?_
      exact W.iret (v := 1) hx hb hr (fun t9 ht hW => ⟨⟨_, (ux, o), rfl, Or.inr (Or.inl ⟨rfl, hg⟩), by rw [ht]; exact hP, va_K.moved hW.alike hK, hD⟩, hS.F ht⟩) hS.2.2 dL_frequent_14
    · refine vx_catch (E := xNSE) (name := xNSE) hown [(⟨0, 9, 12, 28⟩ : ExceptionTableEntry)] (⟨0, 9, 15, 33⟩ : ExceptionTableEntry) [] (by rw [htab]; rfl) (fun z h => by
        obtain rfl := List.mem_singleton.mp h
        exact Or.inr ⟨by decide, _, hts _ (List.mem_cons_of_mem _ klL_28), hX.1.2.2 (xNSE, xIOB) (by decide +kernel)⟩) (by decide) (by decide) (hts _ (List.mem_cons_of_mem _ klL_33)) (yo_cast hX (by decide +kernel)) hcell hcv hcl ?_
      refine W.eq (g2 := F0 m 15 ls [.ref q9]) rfl ?_
      refine lv_astore_n (lv' := [(3, .ref q9), (0, .ref (ad 0)), (1, .int p1), (2, .ref oa)]) hx hb dL_frequent_15 rfl hl (by decide) rfl (fun ls hl => ?_)
      refine lv_iconst (v := 2) hx hb dL_frequent_16 (by decide) ?_
      refine W.widen (k := 2) (n := 12) (Nat.le_of_ble_eq_true rfl) (Nat.le_of_ble_eq_true rfl) ?_
      exact W.iret (v := 2) hx hb hr (fun t9 ht hW => ⟨⟨_, (ux, o), rfl, Or.inr (Or.inr ⟨rfl, hg⟩), by rw [ht]; exact hP, va_K.moved hW.alike hK, hD⟩, hS.F ht⟩) hS.2.2 dL_frequent_17
  · obtain ⟨hP1, -, hD1⟩ := hB
    rw [ht9] at hP1
    obtain ⟨hP, hD⟩ := va_join (wr := [(oa, .inl (co, 1, .inr (.inl o)))]) (w1 := wm ca ad t k v b n kd ln w nw u9) hP hD [0, 1, 2, 3, 4, 5, 6, 7] [8] rfl rfl (by decide) (by decide) hk1 hFc hP1 hD1
    have hP := hP.sub (ws' := wo ca ad co oa t k v b n kd ln w nw u9 o) [1, 2, 3, 4, 5, 6, 7, 8, 0] rfl
    have hD := hD.sub (ws' := wo ca ad co oa t k v b n kd ln w nw u9 o) [1, 2, 3, 4, 5, 6, 7, 8, 0] (by decide) rfl
    skip
    refine lv_i2l (v := r9.toInt64) hx hb dL_frequent_7 rfl ?_
    refine va_last hx hb hK hP hD hS 8 7 rfl rfl (x := r9.toInt64) yo_in dL_frequent_8 (fun H locs hP hD hS => ?_)
    have hP : va_P (dC, dI) vwCl (wo ca ad co oa t k v b n kd ln w nw u9 (vp_updL o 0 r9.toInt64)) H := hP
    have hD : va_D A (wo ca ad co oa t k v b n kd ln w nw u9 (vp_updL o 0 r9.toInt64)) := hD
    refine lv_goto (tgt := 18) hx hb dL_frequent_9 (by decide) ?_
    refine lv_iconst (v := 0) hx hb dL_frequent_18 (by decide) ?_
    refine W.widen (k := 2) (n := 12) (Nat.le_of_ble_eq_true rfl) (Nat.le_of_ble_eq_true rfl) ?_
    exact W.iret (v := 0) hx hb hr (fun t9 ht hW => ⟨⟨_, (u9, vp_updL o 0 r9.toInt64), rfl, Or.inl ⟨rfl, by obtain ⟨wi, q, h1, h2, h3, h4, h5⟩ := hw9; exact ⟨wi, q, r9, h1, h2, h3, h4, h5, rfl⟩⟩, by rw [ht]; exact hP, va_K.moved hW.alike hK, hD⟩, hS.F ht⟩) hS.2.2 dL_frequent_19

set_option maxRecDepth 100000 in
set_option maxHeartbeats 4000000 in
/-- the wrapper of below -/
theorem c_L_below (l : Launch) (hlt : l.stackTraces = false) (dC : Nat → ClassId) (dI : Nat → Nat → Nat) (ca : Nat → ClassId) (ad : Nat → Nat) (co : ClassId) (oa : Nat) (sz : Nat) (t : Nat → Int32) (k : Nat → Nat) (v : Nat → Int32) (b : Nat → Nat) (n : Nat) (kd : Nat → Int32) (ln : Nat → Int32) (w : Nat) (nw : Int32) (ins : Nat → Int32) (o : Nat → Int64) (p1 p2 : Int32) (hn : n ≤ 300) (hk8 : ∀ j, j < n → k j < 8) (hw6 : w ≤ 6) (hbn : ∀ j, j < n → b j < n) : Met l yL_below wsL_below ({ frames := 8, cells := 1, slots := 6, locals := 135 }) (va_Pc [.ref (ad 0), .int p1, .int p2, .ref oa] (fun U => woPre dC dI ca ad co oa sz t k v b n kd ln w nw ins o U ∧ xwP (va_A (wo ca ad co oa t k v b n kd ln w nw ins o) sz) U)) (va_Qi (fun (r : Int32) (u : (Nat → Int32) × (Nat → Int64)) => (r = 0 ∧ ∃ wi x9, wi < w ∧ p1 = nI wi ∧ (∀ j, j < n → qc_mk (u.1 j) (qc_in t k n nw (kd wi) (ln wi) j)) ∧ x9 = nI (qc_bel v u.1 p2 n) ∧ u.2 = vp_updL o 0 (Int32.toInt64 x9)) ∨ (r = 1 ∧ ¬ qx_win w p1)) (fun u t9 => woAt dC dI ca ad co oa (va_A (wo ca ad co oa t k v b n kd ln w nw ins o) sz) t k v b n kd ln w nw u.1 u.2 t9) (va_A (wo ca ad co oa t k v b n kd ln w nw ins o) sz)) 1 6 (va_A (wo ca ad co oa t k v b n kd ln w nw ins o) sz) := by
  refine va_MetW (cc := cL_below) (maxL := 5) (ret := (some .int)) (by decide) rfl ?_
  intro p e s m args below meth c s₁ B hml hv
  obtain ⟨rfl, ⟨hsz, hP, hK, hD0⟩, hX⟩ := hv
  have hx := B.exec
  have hb := B.bytes
  have hr := B.returns
  have hts := atoms_spec (ws := wsL_below) B.pre
  have htab := vx_table (x := yL_below) B (hts _ List.mem_cons_self)
  have hown : s.vm.findClass RL = some m.cls := findClass_of_methodNamed B.named
  have hlocks := B.notSynchronized
  subst hsz
  have hD := hD0.self (sz := s.heap.size)
  generalize hAe : va_A (wo ca ad co oa t k v b n kd ln w nw ins o) s.heap.size = A at hD hX ⊢
  have hA : ∀ q : Nat, s.heap.size ≤ q → A q := fun q h => by rw [← hAe]; exact Or.inr h
  have hS : va_S A s.heap s.heap [] := va_S.rf
  have hl := lv_entry ([.ref (ad 0), .int p1, .int p2, .ref oa]) (n := 5) (Nat.le_of_ble_eq_true rfl)
  rw [lg_entry_eq]
  generalize (lg_sl ([.ref (ad 0), .int p1, .int p2, .ref oa]) ++ List.replicate (5 - (lg_sl ([.ref (ad 0), .int p1, .int p2, .ref oa])).length) Slot.unset).toArray = ls at hl ⊢
  have hl : lv_has ls 5 [(0, .ref (ad 0)), (1, .int p1), (2, .int p2), (3, .ref oa)] := hl
  refine lv_aload_n hx hb dL_below_0 rfl (lv_at hl 3 rfl) ?_
  refine lv_iconst (v := 0) hx hb dL_below_1 (by decide) ?_
  refine lv_aload_n hx hb dL_below_2 rfl (lv_at hl 0 rfl) ?_
  refine lv_iload_n hx hb dL_below_3 rfl (lv_at hl 1 rfl) ?_
  refine lv_iload_n hx hb dL_below_4 rfl (lv_at hl 2 rfl) ?_
  have hPc := hP.sub (ws' := wm ca ad t k v b n kd ln w nw ins) [0, 1, 2, 3, 4, 5, 6, 7] rfl
  have hDc := hD.sub (ws' := wm ca ad t k v b n kd ln w nw ins) [0, 1, 2, 3, 4, 5, 6, 7] (by decide) rfl
  have hKc := hK.sub (tys' := wmT ca) [0, 1, 2, 3, 4, 5, 6] rfl
  have hFc := va_free (wc := wm ca ad t k v b n kd ln w nw ins) hD hS hA [0, 1, 2, 3, 4, 5, 6, 7] rfl
  refine vx_calli (vx_runV (As := [.int p1, .int p2]) (rest := [.int 0, .ref oa]) ⟨hx, hb, hml, hown, hts⟩ (c_below l hlt dC dI ca ad _ t k v b n kd ln w nw ins p1 p2 hn hk8 hw6 hbn) (cwV 2 hts (gg_V mlL_39 imX0_below seX0_below in_WindowMeters kwX0_below) rfl rfl rfl (by decide +kernel) ⟨Nat.le_of_ble_eq_true rfl, Nat.le_of_ble_eq_true rfl⟩) (wm_preX hKc hPc hDc hS hFc hX [.int p1, .int p2]) rfl rfl hl.1 rfl (lv_room (Nat.le_of_ble_eq_true rfl)) dL_below_5 ⟨Nat.le_of_ble_eq_true rfl, Nat.le_of_ble_eq_true rfl⟩) hS (fun q _ h => hFc q h) hFc (fun q _ h => hFc q h) (fun E ce q9 ux t9 H1 locs ht9 hvm _ hB hz1 hk1 hS hcell hcv hcl => ?_) (fun r9 u9 t9 H1 locs ht9 hvm hw9 hB hz1 hk1 hS => ?_)
  · obtain ⟨hE, hP1, -, hD1⟩ := hB
    rw [ht9] at hP1
    obtain ⟨hP, hD⟩ := va_join (wr := [(oa, .inl (co, 1, .inr (.inl o)))]) (w1 := wm ca ad t k v b n kd ln w nw ins) hP hD [0, 1, 2, 3, 4, 5, 6, 7] [8] rfl rfl (by decide) (by decide) hk1 hFc hP1 hD1
    have hP := hP.sub (ws' := wo ca ad co oa t k v b n kd ln w nw ins o) [1, 2, 3, 4, 5, 6, 7, 8, 0] rfl
    have hD := hD.sub (ws' := wo ca ad co oa t k v b n kd ln w nw ins o) [1, 2, 3, 4, 5, 6, 7, 8, 0] (by decide) rfl
    skip
    obtain ⟨rfl, hg⟩ := hE
    refine vx_catch (E := xIOB) (name := xIOB) hown [] (⟨0, 10, 13, 28⟩ : ExceptionTableEntry) [] (by rw [htab]; rfl) (fun z h => absurd h List.not_mem_nil) (by decide) (by decide) (hts _ (List.mem_cons_of_mem _ klL_28)) (yo_cast hX (by decide +kernel)) hcell hcv hcl ?_
    refine W.eq (g2 := F0 m 13 ls [.ref q9]) rfl ?_
    refine lv_astore (lv' := [(4, .ref q9), (0, .ref (ad 0)), (1, .int p1), (2, .int p2), (3, .ref oa)]) hx hb dL_below_13 hl (by decide) rfl (fun ls hl => ?_)
    refine lv_iconst (v := 1) hx hb dL_below_15 (by decide) ?_
    refine W.widen (k := 1) (n := 6) (Nat.le_of_ble_eq_true rfl) (Nat.le_of_ble_eq_true rfl) ?_
    exact W.iret (v := 1) hx hb hr (fun t9 ht hW => ⟨⟨_, (ins, o), rfl, Or.inr ⟨rfl, hg⟩, by rw [ht]; exact hP, va_K.moved hW.alike hK, hD⟩, hS.F ht⟩) hS.2.2 dL_below_16
  · obtain ⟨hP1, -, hD1⟩ := hB
    rw [ht9] at hP1
    obtain ⟨hP, hD⟩ := va_join (wr := [(oa, .inl (co, 1, .inr (.inl o)))]) (w1 := wm ca ad t k v b n kd ln w nw u9) hP hD [0, 1, 2, 3, 4, 5, 6, 7] [8] rfl rfl (by decide) (by decide) hk1 hFc hP1 hD1
    have hP := hP.sub (ws' := wo ca ad co oa t k v b n kd ln w nw u9 o) [1, 2, 3, 4, 5, 6, 7, 8, 0] rfl
    have hD := hD.sub (ws' := wo ca ad co oa t k v b n kd ln w nw u9 o) [1, 2, 3, 4, 5, 6, 7, 8, 0] (by decide) rfl
    skip
    refine lv_i2l (v := r9.toInt64) hx hb dL_below_8 rfl ?_
    refine va_last hx hb hK hP hD hS 8 7 rfl rfl (x := r9.toInt64) yo_in dL_below_9 (fun H locs hP hD hS => ?_)
    have hP : va_P (dC, dI) vwCl (wo ca ad co oa t k v b n kd ln w nw u9 (vp_updL o 0 r9.toInt64)) H := hP
    have hD : va_D A (wo ca ad co oa t k v b n kd ln w nw u9 (vp_updL o 0 r9.toInt64)) := hD
    refine lv_goto (tgt := 17) hx hb dL_below_10 (by decide) ?_
    refine lv_iconst (v := 0) hx hb dL_below_17 (by decide) ?_
    refine W.widen (k := 1) (n := 6) (Nat.le_of_ble_eq_true rfl) (Nat.le_of_ble_eq_true rfl) ?_
    exact W.iret (v := 0) hx hb hr (fun t9 ht hW => ⟨⟨_, (u9, vp_updL o 0 r9.toInt64), rfl, Or.inl ⟨rfl, by obtain ⟨wi, h1, h2, h3, h4⟩ := hw9; exact ⟨wi, r9, h1, h2, h3, h4, rfl⟩⟩, by rw [ht]; exact hP, va_K.moved hW.alike hK, hD⟩, hS.F ht⟩) hS.2.2 dL_below_18

set_option maxRecDepth 100000 in
set_option maxHeartbeats 4000000 in
/-- the wrapper of has -/
theorem c_L_has (l : Launch) (hlt : l.stackTraces = false) (dC : Nat → ClassId) (dI : Nat → Nat → Nat) (ca : Nat → ClassId) (ad : Nat → Nat) (co : ClassId) (oa : Nat) (sz : Nat) (t : Nat → Int32) (k : Nat → Nat) (v : Nat → Int32) (b : Nat → Nat) (n : Nat) (kd : Nat → Int32) (ln : Nat → Int32) (w : Nat) (nw : Int32) (ins : Nat → Int32) (o : Nat → Int64) (p1 p2 : Int32) (hn : n ≤ 300) (hk8 : ∀ j, j < n → k j < 8) (hw6 : w ≤ 6) (hbn : ∀ j, j < n → b j < n) : Met l yL_has wsL_has ({ frames := 8, cells := 2, slots := 12, locals := 133 }) (va_Pc [.ref (ad 0), .int p1, .int p2, .ref oa] (fun U => woPre dC dI ca ad co oa sz t k v b n kd ln w nw ins o U ∧ xwP (va_A (wo ca ad co oa t k v b n kd ln w nw ins o) sz) U)) (va_Qi (fun (r : Int32) (u : (Nat → Int32) × (Nat → Int64)) => (r = 0 ∧ ∃ wi i9, wi < w ∧ p1 = nI wi ∧ i9 < n ∧ p2 = nI i9 ∧ ((qc_in t k n nw (kd wi) (ln wi) i9 ∧ u.2 = vp_updL o 0 1) ∨ (¬ qc_in t k n nw (kd wi) (ln wi) i9 ∧ u.2 = vp_updL o 0 0))) ∨ (r = 1 ∧ ¬ (qx_win w p1 ∧ qx_win n p2))) (fun u t9 => woAt dC dI ca ad co oa (va_A (wo ca ad co oa t k v b n kd ln w nw ins o) sz) t k v b n kd ln w nw u.1 u.2 t9) (va_A (wo ca ad co oa t k v b n kd ln w nw ins o) sz)) 2 12 (va_A (wo ca ad co oa t k v b n kd ln w nw ins o) sz) := by
  refine va_MetW (cc := cL_has) (maxL := 5) (ret := (some .int)) (by decide) rfl ?_
  intro p e s m args below meth c s₁ B hml hv
  obtain ⟨rfl, ⟨hsz, hP, hK, hD0⟩, hX⟩ := hv
  have hx := B.exec
  have hb := B.bytes
  have hr := B.returns
  have hts := atoms_spec (ws := wsL_has) B.pre
  have htab := vx_table (x := yL_has) B (hts _ List.mem_cons_self)
  have hown : s.vm.findClass RL = some m.cls := findClass_of_methodNamed B.named
  have hlocks := B.notSynchronized
  subst hsz
  have hD := hD0.self (sz := s.heap.size)
  generalize hAe : va_A (wo ca ad co oa t k v b n kd ln w nw ins o) s.heap.size = A at hD hX ⊢
  have hA : ∀ q : Nat, s.heap.size ≤ q → A q := fun q h => by rw [← hAe]; exact Or.inr h
  have hS : va_S A s.heap s.heap [] := va_S.rf
  have hl := lv_entry ([.ref (ad 0), .int p1, .int p2, .ref oa]) (n := 5) (Nat.le_of_ble_eq_true rfl)
  rw [lg_entry_eq]
  generalize (lg_sl ([.ref (ad 0), .int p1, .int p2, .ref oa]) ++ List.replicate (5 - (lg_sl ([.ref (ad 0), .int p1, .int p2, .ref oa])).length) Slot.unset).toArray = ls at hl ⊢
  have hl : lv_has ls 5 [(0, .ref (ad 0)), (1, .int p1), (2, .int p2), (3, .ref oa)] := hl
  refine lv_aload_n hx hb dL_has_0 rfl (lv_at hl 3 rfl) ?_
  refine lv_iconst (v := 0) hx hb dL_has_1 (by decide) ?_
  refine lv_aload_n hx hb dL_has_2 rfl (lv_at hl 0 rfl) ?_
  refine lv_iload_n hx hb dL_has_3 rfl (lv_at hl 1 rfl) ?_
  refine lv_iload_n hx hb dL_has_4 rfl (lv_at hl 2 rfl) ?_
  have hPc := hP.sub (ws' := wm ca ad t k v b n kd ln w nw ins) [0, 1, 2, 3, 4, 5, 6, 7] rfl
  have hDc := hD.sub (ws' := wm ca ad t k v b n kd ln w nw ins) [0, 1, 2, 3, 4, 5, 6, 7] (by decide) rfl
  have hKc := hK.sub (tys' := wmT ca) [0, 1, 2, 3, 4, 5, 6] rfl
  have hFc := va_free (wc := wm ca ad t k v b n kd ln w nw ins) hD hS hA [0, 1, 2, 3, 4, 5, 6, 7] rfl
  refine vx_calli (vx_runV (As := [.int p1, .int p2]) (rest := [.int 0, .ref oa]) ⟨hx, hb, hml, hown, hts⟩ (c_has l hlt dC dI ca ad _ t k v b n kd ln w nw ins p1 p2 hn hk8 hw6 hbn) (cwV 2 hts (gg_V mlL_42 imX0_has seX0_has in_WindowMeters kwX0_has) rfl rfl rfl (by decide +kernel) ⟨Nat.le_of_ble_eq_true rfl, Nat.le_of_ble_eq_true rfl⟩) (wm_preX hKc hPc hDc hS hFc hX [.int p1, .int p2]) rfl rfl hl.1 rfl (lv_room (Nat.le_of_ble_eq_true rfl)) dL_has_5 ⟨Nat.le_of_ble_eq_true rfl, Nat.le_of_ble_eq_true rfl⟩) hS (fun q _ h => hFc q h) hFc (fun q _ h => hFc q h) (fun E ce q9 ux t9 H1 locs ht9 hvm _ hB hz1 hk1 hS hcell hcv hcl => ?_) (fun r9 u9 t9 H1 locs ht9 hvm hw9 hB hz1 hk1 hS => ?_)
  · obtain ⟨hE, hP1, -, hD1⟩ := hB
    rw [ht9] at hP1
    obtain ⟨hP, hD⟩ := va_join (wr := [(oa, .inl (co, 1, .inr (.inl o)))]) (w1 := wm ca ad t k v b n kd ln w nw ins) hP hD [0, 1, 2, 3, 4, 5, 6, 7] [8] rfl rfl (by decide) (by decide) hk1 hFc hP1 hD1
    have hP := hP.sub (ws' := wo ca ad co oa t k v b n kd ln w nw ins o) [1, 2, 3, 4, 5, 6, 7, 8, 0] rfl
    have hD := hD.sub (ws' := wo ca ad co oa t k v b n kd ln w nw ins o) [1, 2, 3, 4, 5, 6, 7, 8, 0] (by decide) rfl
    skip
    obtain ⟨rfl, hg⟩ := hE
    refine vx_catch (E := xIOB) (name := xIOB) hown [] (⟨0, 17, 20, 28⟩ : ExceptionTableEntry) [] (by rw [htab]; rfl) (fun z h => absurd h List.not_mem_nil) (by decide) (by decide) (hts _ (List.mem_cons_of_mem _ klL_28)) (yo_cast hX (by decide +kernel)) hcell hcv hcl ?_
    refine W.eq (g2 := F0 m 20 ls [.ref q9]) rfl ?_
    refine lv_astore (lv' := [(4, .ref q9), (0, .ref (ad 0)), (1, .int p1), (2, .int p2), (3, .ref oa)]) hx hb dL_has_20 hl (by decide) rfl (fun ls hl => ?_)
    refine lv_iconst (v := 1) hx hb dL_has_22 (by decide) ?_
    refine W.widen (k := 2) (n := 12) (Nat.le_of_ble_eq_true rfl) (Nat.le_of_ble_eq_true rfl) ?_
    exact W.iret (v := 1) hx hb hr (fun t9 ht hW => ⟨⟨_, (ins, o), rfl, Or.inr ⟨rfl, hg⟩, by rw [ht]; exact hP, va_K.moved hW.alike hK, hD⟩, hS.F ht⟩) hS.2.2 dL_has_23
  · obtain ⟨hP1, -, hD1⟩ := hB
    rw [ht9] at hP1
    obtain ⟨hP, hD⟩ := va_join (wr := [(oa, .inl (co, 1, .inr (.inl o)))]) (w1 := wm ca ad t k v b n kd ln w nw u9) hP hD [0, 1, 2, 3, 4, 5, 6, 7] [8] rfl rfl (by decide) (by decide) hk1 hFc hP1 hD1
    have hP := hP.sub (ws' := wo ca ad co oa t k v b n kd ln w nw u9 o) [1, 2, 3, 4, 5, 6, 7, 8, 0] rfl
    have hD := hD.sub (ws' := wo ca ad co oa t k v b n kd ln w nw u9 o) [1, 2, 3, 4, 5, 6, 7, 8, 0] (by decide) rfl
    skip
    refine lv_if_eq (tgt := 15) hx hb dL_has_8 (by decide) (fun c_1 => ?_) (fun c_1 => ?_)
    · refine lv_lconst (v := 0) hx hb dL_has_15 (by decide) ?_
      refine va_last hx hb hK hP hD hS 8 7 rfl rfl (x := 0) yo_in dL_has_16 (fun H locs hP hD hS => ?_)
      have hP : va_P (dC, dI) vwCl (wo ca ad co oa t k v b n kd ln w nw u9 (vp_updL o 0 0)) H := hP
      have hD : va_D A (wo ca ad co oa t k v b n kd ln w nw u9 (vp_updL o 0 0)) := hD
      refine lv_goto (tgt := 24) hx hb dL_has_17 (by decide) ?_
      refine lv_iconst (v := 0) hx hb dL_has_24 (by decide) ?_
      refine W.widen (k := 2) (n := 12) (Nat.le_of_ble_eq_true rfl) (Nat.le_of_ble_eq_true rfl) ?_
      exact W.iret (v := 0) hx hb hr (fun t9 ht hW => ⟨⟨_, (u9, vp_updL o 0 0), rfl, Or.inl ⟨rfl, by obtain ⟨wi, i9, h1, h2, h3, h4, h5⟩ := hw9; exact ⟨wi, i9, h1, h2, h3, h4, Or.inr ⟨mk_z h5 c_1, rfl⟩⟩⟩, by rw [ht]; exact hP, va_K.moved hW.alike hK, hD⟩, hS.F ht⟩) hS.2.2 dL_has_25
    · refine lv_lconst (v := 1) hx hb dL_has_11 (by decide) ?_
      refine lv_goto (tgt := 16) hx hb dL_has_12 (by decide) ?_
      refine va_last hx hb hK hP hD hS 8 7 rfl rfl (x := 1) yo_in dL_has_16 (fun H locs hP hD hS => ?_)
      have hP : va_P (dC, dI) vwCl (wo ca ad co oa t k v b n kd ln w nw u9 (vp_updL o 0 1)) H := hP
      have hD : va_D A (wo ca ad co oa t k v b n kd ln w nw u9 (vp_updL o 0 1)) := hD
      refine lv_goto (tgt := 24) hx hb dL_has_17 (by decide) ?_
      refine lv_iconst (v := 0) hx hb dL_has_24 (by decide) ?_
      refine W.widen (k := 2) (n := 12) (Nat.le_of_ble_eq_true rfl) (Nat.le_of_ble_eq_true rfl) ?_
      exact W.iret (v := 0) hx hb hr (fun t9 ht hW => ⟨⟨_, (u9, vp_updL o 0 1), rfl, Or.inl ⟨rfl, by obtain ⟨wi, i9, h1, h2, h3, h4, h5⟩ := hw9; exact ⟨wi, i9, h1, h2, h3, h4, Or.inl ⟨mk_nz h5 c_1, rfl⟩⟩⟩, by rw [ht]; exact hP, va_K.moved hW.alike hK, hD⟩, hS.F ht⟩) hS.2.2 dL_has_25
