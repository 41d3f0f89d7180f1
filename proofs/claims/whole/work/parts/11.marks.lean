/-! which tuples a window has, as the class marks them -/
def qc_mk (x : Int32) (P : Prop) : Prop := (x = 1 ∧ P) ∨ (x = 0 ∧ ¬ P)
theorem qc_mk1 {P : Prop} (h : P) : qc_mk 1 P := Or.inl ⟨rfl, h⟩
theorem qc_mk0 {P : Prop} (h : ¬ P) : qc_mk 0 P := Or.inr ⟨rfl, h⟩
theorem qm_step {f : Nat → Int32} {i : Nat} {x : Int32} {P : Nat → Prop} (hf : ∀ j, j < i → qc_mk (f j) (P j)) (hx : qc_mk x (P i)) : ∀ j, j < i + 1 → qc_mk (upd f i x j) (P j) := by
  intro j hj
  by_cases h : j = i
  · subst h; rw [pk_us]; exact hx
  · rw [pk_un h]; exact hf j (by omega)
theorem qm_down {f : Nat → Int32} {i n : Nat} {x : Int32} {P : Nat → Prop} (hf : ∀ j, i + 1 ≤ j → j < n → qc_mk (f j) (P j)) (hx : qc_mk x (P i)) : ∀ j, i ≤ j → j < n → qc_mk (upd f i x j) (P j) := by
  intro j hj hn
  by_cases h : j = i
  · subst h; rw [pk_us]; exact hx
  · rw [pk_un h]; exact hf j (by omega) hn
/-- how many of the places lo .. n - 1 hold x -/
def qc_oc (k : Nat → Nat) (x lo : Nat) : Nat → Nat
  | 0 => 0
  | n + 1 => if lo ≤ n ∧ k n = x then qc_oc k x lo n + 1 else qc_oc k x lo n
theorem qc_oc_none (k : Nat → Nat) (x lo : Nat) : ∀ n, n ≤ lo → qc_oc k x lo n = 0
  | 0, _ => rfl
  | n + 1, h => by unfold qc_oc; rw [if_neg (by omega)]; exact qc_oc_none k x lo n (by omega)
theorem qc_oc_down (k : Nat → Nat) (x lo : Nat) : ∀ n, lo < n → qc_oc k x lo n = qc_oc k x (lo + 1) n + (if k lo = x then 1 else 0)
  | 0, h => absurd h (Nat.not_lt_zero lo)
  | n + 1, h => by
    by_cases e : lo = n
    · subst e
      rw [qc_oc, qc_oc, qc_oc_none k x lo lo (Nat.le_refl lo), qc_oc_none k x (lo + 1) lo (by omega), if_neg (show ¬ (lo + 1 ≤ lo ∧ k lo = x) by omega)]
      by_cases q : k lo = x
      · simp [q]
      · simp [q]
    · have ih := qc_oc_down k x lo n (by omega)
      rw [qc_oc, qc_oc, ih]
      by_cases q : k n = x
      · rw [if_pos (show lo ≤ n ∧ k n = x from ⟨by omega, q⟩), if_pos (show lo + 1 ≤ n ∧ k n = x from ⟨by omega, q⟩)]; omega
      · rw [if_neg (show ¬ (lo ≤ n ∧ k n = x) from fun h => q h.2), if_neg (show ¬ (lo + 1 ≤ n ∧ k n = x) from fun h => q h.2)]
/-- the time that the tuple before place r is held against -/
def qc_nx (t : Nat → Int32) (nw : Int32) (n r : Nat) : Int32 := if r < n then t r else nw
def qc_td (t : Nat → Int32) (nw nn : Int32) (n r : Nat) : Prop := ∀ q, r ≤ q → q < n → ¬ t q < qc_nx t nw n (q + 1) - nn
def qc_len (nn : Int32) : Int32 := if nn ≤ 0 then 1 else nn
theorem qc_len_ne (nn : Int32) : ¬ qc_len nn = 0 := by
  unfold qc_len
  split
  · decide
  · rename_i h
    intro q
    exact h (by rw [q]; exact Int32.le_refl 0)
def qc_in (t : Nat → Int32) (k : Nat → Nat) (n : Nat) (nw kind nn : Int32) (j : Nat) : Prop :=
  if kind = 0 then ¬ t j < nw - nn else if kind = 1 then ¬ nI j < nI n - nn else if kind = 2 then nI (qc_oc k (k j) (j + 1) n) < nn else
  if kind = 3 then t j / qc_len nn = nw / qc_len nn else if kind = 4 then qc_td t nw nn n j else t j < nw - nn
set_option maxRecDepth 100000 in
set_option maxHeartbeats 4000000 in
/-- markRange(n) -/
theorem c_markRange (l : Launch) (dC : Nat → ClassId) (dI : Nat → Nat → Nat) (ca : Nat → ClassId) (ad : Nat → Nat) (sz : Nat) (t : Nat → Int32) (k : Nat → Nat) (v : Nat → Int32) (b : Nat → Nat) (n : Nat) (kd : Nat → Int32) (ln : Nat → Int32) (w : Nat) (nw : Int32) (ins : Nat → Int32) (p1 : Int32) (hn : n ≤ 300) : Met l yX0_markRange wsX0_markRange ({ frames := 0, cells := 0, slots := 0, locals := 0 }) (va_Pc [.ref (ad 0), .int p1] (wmPre dC dI ca ad sz t k v b n kd ln w nw ins)) (va_Qv (fun u : Nat → Int32 => ∀ j, j < n → qc_mk (u j) (¬ t j < nw - p1)) (fun u t9 => wmAt dC dI ca ad (va_A (wm ca ad t k v b n kd ln w nw ins) sz) t k v b n kd ln w nw u t9) (va_A (wm ca ad t k v b n kd ln w nw ins) sz)) 0 0 (va_A (wm ca ad t k v b n kd ln w nw ins) sz) := by
  refine Met.ofW (cc := cX0_markRange) (maxL := 3) (ret := none) (by decide) rfl ?_
  intro p e s m args below meth c s₁ B hml hv
  obtain ⟨rfl, hsz, hP, hK, hD0⟩ := hv
  have hx := B.exec
  have hb := B.bytes
  have hr := B.returns
  have hts := atoms_spec (ws := wsX0_markRange) B.pre
  have hown : s.vm.findClass RX0 = some m.cls := findClass_of_methodNamed B.named
  have hlocks := B.notSynchronized
  subst hsz
  have hin0 : ∀ w ∈ u_ws RX0 TX0 10, w ∈ wsX0_markRange := fun w h => List.mem_cons_of_mem _ (wiX0 w h)
  have fl_9 := hts _ (List.mem_cons_of_mem _ flX0_9)
  have fl_28 := hts _ (List.mem_cons_of_mem _ flX0_28)
  have fl_32 := hts _ (List.mem_cons_of_mem _ flX0_32)
  have fl_39 := hts _ (List.mem_cons_of_mem _ flX0_39)
  have hD := hD0.self (sz := s.heap.size)
  generalize hAe : va_A (wm ca ad t k v b n kd ln w nw ins) s.heap.size = A at hD ⊢
  have hA : ∀ q : Nat, s.heap.size ≤ q → A q := fun q h => by rw [← hAe]; exact Or.inr h
  have hS : va_S A s.heap s.heap [] := va_S.rf
  have hl := lv_entry ([.ref (ad 0), .int p1]) (n := 3) (Nat.le_of_ble_eq_true rfl)
  rw [lg_entry_eq]
  generalize (lg_sl ([.ref (ad 0), .int p1]) ++ List.replicate (3 - (lg_sl ([.ref (ad 0), .int p1])).length) Slot.unset).toArray = ls at hl ⊢
  have hl : lv_has ls 3 [(0, .ref (ad 0)), (1, .int p1)] := hl
  refine lv_iconst (v := 0) hx hb dX0_markRange_0 (by decide) ?_
  refine lv_istore_n (lv' := [(2, .int 0), (0, .ref (ad 0)), (1, .int p1)]) hx hb dX0_markRange_1 rfl hl (by decide) rfl (fun ls hl => ?_)
  have loop : ∀ (d i : Nat), i ≤ n → n + 1 ≤ i + d → ∀ (f : Nat → Int32) (H : Heap) (locs : List Loc), va_P (dC, dI) vwCl (wm ca ad t k v b n kd ln w nw f) H → va_D A (wm ca ad t k v b n kd ln w nw f) → va_S A s.heap H locs → (∀ j, j < i → qc_mk (f j) (¬ t j < nw - p1)) → ∀ (ls : Array Slot), lv_has ls 3 [(0, .ref (ad 0)), (1, .int p1), (2, .int (nI i))] → W p l e (headSpec wsX0_markRange ({ frames := 0, cells := 0, slots := 0, locals := 0 })).room s m ([.ref (ad 0), .int p1] : List Value).toArray below meth c H locs 0 0 (MQ below (va_Qv (fun u : Nat → Int32 => ∀ j, j < n → qc_mk (u j) (¬ t j < nw - p1)) (fun u t9 => wmAt dC dI ca ad A t k v b n kd ln w nw u t9) A) ([.ref (ad 0), .int p1] : List Value).toArray s 0 0 A) (F0 m 2 ls []) := by
    intro d
    induction d with
    | zero =>
      intro i hi hfu
      exact absurd hfu (by omega)
    | succ d ih =>
      intro i hi hfu f H locs hP hD hS hf ls hl
      refine lv_iload_n hx hb dX0_markRange_2 rfl (lv_at hl 2 rfl) ?_
      refine lv_aload_n hx hb dX0_markRange_3 rfl (lv_at hl 0 rfl) ?_
      refine va_get (D := (dC, dI)) (ci := 0) (v := .int (nI n)) (C := RX0) (T := TX0) (N := 10) hx hb hts hin0 hown hK hP 0 rfl rfl 4 (by decide) fl_32 (fun _ h9 => h9) rfl dX0_markRange_4 ?_
      refine yb_ge (tgt := 42) (by omega) (by omega) hx hb dX0_markRange_7 (by decide) (fun c_1 => ?_) (fun c_1 => ?_)
      · exact W.vret hx hb hr (fun t9 ht hW => ⟨⟨f, rfl, fun j hj => hf j (by omega), by rw [ht]; exact hP, va_K.moved hW.alike hK, hD⟩, hS.F ht⟩) hS.2.2 dX0_markRange_42
      · refine lv_aload_n hx hb dX0_markRange_10 rfl (lv_at hl 0 rfl) ?_
        refine va_get (D := (dC, dI)) (ci := 0) (v := .ref (ad 7)) (C := RX0) (T := TX0) (N := 10) hx hb hts hin0 hown hK hP 0 rfl rfl 9 (by decide) fl_28 (fun _ h9 => h9) rfl dX0_markRange_11 ?_
        refine lv_iload_n hx hb dX0_markRange_14 rfl (lv_at hl 2 rfl) ?_
        refine lv_aload_n hx hb dX0_markRange_15 rfl (lv_at hl 0 rfl) ?_
        refine va_get (D := (dC, dI)) (ci := 0) (v := .ref (ad 1)) (C := RX0) (T := TX0) (N := 10) hx hb hts hin0 hown hK hP 0 rfl rfl 0 (by decide) fl_9 (fun _ h9 => h9) rfl dX0_markRange_16 ?_
        refine lv_iload_n hx hb dX0_markRange_19 rfl (lv_at hl 2 rfl) ?_
        refine ya_iald hx hb hK hP 1 0 rfl rfl (j := i) (by omega) (by decide) dX0_markRange_20 ?_
        refine lv_aload_n hx hb dX0_markRange_21 rfl (lv_at hl 0 rfl) ?_
        refine va_get (D := (dC, dI)) (ci := 0) (v := .int nw) (C := RX0) (T := TX0) (N := 10) hx hb hts hin0 hown hK hP 0 rfl rfl 8 (by decide) fl_39 (fun _ h9 => h9) rfl dX0_markRange_22 ?_
        refine lv_iload_n hx hb dX0_markRange_25 rfl (lv_at hl 1 rfl) ?_
        refine lv_isub hx hb dX0_markRange_26 ?_
        refine lv_icmp_lt (tgt := 34) hx hb dX0_markRange_27 (by decide) (fun c_2 => ?_) (fun c_2 => ?_)
        · refine lv_iconst (v := 0) hx hb dX0_markRange_34 (by decide) ?_
          refine ya_zast hx hb hK hP hD hS 7 6 rfl rfl (j := i) (by omega) (by decide) yn_z0 dX0_markRange_35 (fun H locs hP hD hS => ?_)
          have hP : va_P (dC, dI) vwCl (wm ca ad t k v b n kd ln w nw (upd f i 0)) H := hP
          have hD : va_D A (wm ca ad t k v b n kd ln w nw (upd f i 0)) := hD
          refine lv_iinc (v := (nI (i + 1))) (lv' := [(2, .int (nI (i + 1))), (0, .ref (ad 0)), (1, .int p1)]) hx hb dX0_markRange_36 hl (k := 2) rfl (yn_inc _) (by decide) rfl (fun ls hl => ?_)
          refine lv_goto (tgt := 2) hx hb dX0_markRange_39 (by decide) ?_
          exact ih (i + 1) (by omega) (by omega) _ _ _ hP hD hS (qm_step (P := fun j => ¬ t j < nw - p1) hf (qc_mk0 (fun q => q c_2))) ls (lv_sub hl [1, 2, 0] rfl)
        · refine lv_iconst (v := 1) hx hb dX0_markRange_30 (by decide) ?_
          refine lv_goto (tgt := 35) hx hb dX0_markRange_31 (by decide) ?_
          refine ya_zast hx hb hK hP hD hS 7 6 rfl rfl (j := i) (by omega) (by decide) yn_z1 dX0_markRange_35 (fun H locs hP hD hS => ?_)
          have hP : va_P (dC, dI) vwCl (wm ca ad t k v b n kd ln w nw (upd f i 1)) H := hP
          have hD : va_D A (wm ca ad t k v b n kd ln w nw (upd f i 1)) := hD
          refine lv_iinc (v := (nI (i + 1))) (lv' := [(2, .int (nI (i + 1))), (0, .ref (ad 0)), (1, .int p1)]) hx hb dX0_markRange_36 hl (k := 2) rfl (yn_inc _) (by decide) rfl (fun ls hl => ?_)
          refine lv_goto (tgt := 2) hx hb dX0_markRange_39 (by decide) ?_
          exact ih (i + 1) (by omega) (by omega) _ _ _ hP hD hS (qm_step (P := fun j => ¬ t j < nw - p1) hf (qc_mk1 (c_2))) ls (lv_sub hl [1, 2, 0] rfl)
  exact loop (n + 1) 0 (Nat.zero_le n) (by omega) _ _ _ hP hD hS (fun j h => absurd h (Nat.not_lt_zero j)) ls (lv_sub hl [1, 2, 0] rfl)

set_option maxRecDepth 100000 in
set_option maxHeartbeats 4000000 in
/-- markRows(n) -/
theorem c_markRows (l : Launch) (dC : Nat → ClassId) (dI : Nat → Nat → Nat) (ca : Nat → ClassId) (ad : Nat → Nat) (sz : Nat) (t : Nat → Int32) (k : Nat → Nat) (v : Nat → Int32) (b : Nat → Nat) (n : Nat) (kd : Nat → Int32) (ln : Nat → Int32) (w : Nat) (nw : Int32) (ins : Nat → Int32) (p1 : Int32) (hn : n ≤ 300) : Met l yX0_markRows wsX0_markRows ({ frames := 0, cells := 0, slots := 0, locals := 0 }) (va_Pc [.ref (ad 0), .int p1] (wmPre dC dI ca ad sz t k v b n kd ln w nw ins)) (va_Qv (fun u : Nat → Int32 => ∀ j, j < n → qc_mk (u j) (¬ nI j < nI n - p1)) (fun u t9 => wmAt dC dI ca ad (va_A (wm ca ad t k v b n kd ln w nw ins) sz) t k v b n kd ln w nw u t9) (va_A (wm ca ad t k v b n kd ln w nw ins) sz)) 0 0 (va_A (wm ca ad t k v b n kd ln w nw ins) sz) := by
  refine Met.ofW (cc := cX0_markRows) (maxL := 3) (ret := none) (by decide) rfl ?_
  intro p e s m args below meth c s₁ B hml hv
  obtain ⟨rfl, hsz, hP, hK, hD0⟩ := hv
  have hx := B.exec
  have hb := B.bytes
  have hr := B.returns
  have hts := atoms_spec (ws := wsX0_markRows) B.pre
  have hown : s.vm.findClass RX0 = some m.cls := findClass_of_methodNamed B.named
  have hlocks := B.notSynchronized
  subst hsz
  have hin0 : ∀ w ∈ u_ws RX0 TX0 10, w ∈ wsX0_markRows := fun w h => List.mem_cons_of_mem _ (wiX0 w h)
  have fl_28 := hts _ (List.mem_cons_of_mem _ flX0_28)
  have fl_32 := hts _ (List.mem_cons_of_mem _ flX0_32)
  have hD := hD0.self (sz := s.heap.size)
  generalize hAe : va_A (wm ca ad t k v b n kd ln w nw ins) s.heap.size = A at hD ⊢
  have hA : ∀ q : Nat, s.heap.size ≤ q → A q := fun q h => by rw [← hAe]; exact Or.inr h
  have hS : va_S A s.heap s.heap [] := va_S.rf
  have hl := lv_entry ([.ref (ad 0), .int p1]) (n := 3) (Nat.le_of_ble_eq_true rfl)
  rw [lg_entry_eq]
  generalize (lg_sl ([.ref (ad 0), .int p1]) ++ List.replicate (3 - (lg_sl ([.ref (ad 0), .int p1])).length) Slot.unset).toArray = ls at hl ⊢
  have hl : lv_has ls 3 [(0, .ref (ad 0)), (1, .int p1)] := hl
  refine lv_iconst (v := 0) hx hb dX0_markRows_0 (by decide) ?_
  refine lv_istore_n (lv' := [(2, .int 0), (0, .ref (ad 0)), (1, .int p1)]) hx hb dX0_markRows_1 rfl hl (by decide) rfl (fun ls hl => ?_)
  have loop : ∀ (d i : Nat), i ≤ n → n + 1 ≤ i + d → ∀ (f : Nat → Int32) (H : Heap) (locs : List Loc), va_P (dC, dI) vwCl (wm ca ad t k v b n kd ln w nw f) H → va_D A (wm ca ad t k v b n kd ln w nw f) → va_S A s.heap H locs → (∀ j, j < i → qc_mk (f j) (¬ nI j < nI n - p1)) → ∀ (ls : Array Slot), lv_has ls 3 [(0, .ref (ad 0)), (1, .int p1), (2, .int (nI i))] → W p l e (headSpec wsX0_markRows ({ frames := 0, cells := 0, slots := 0, locals := 0 })).room s m ([.ref (ad 0), .int p1] : List Value).toArray below meth c H locs 0 0 (MQ below (va_Qv (fun u : Nat → Int32 => ∀ j, j < n → qc_mk (u j) (¬ nI j < nI n - p1)) (fun u t9 => wmAt dC dI ca ad A t k v b n kd ln w nw u t9) A) ([.ref (ad 0), .int p1] : List Value).toArray s 0 0 A) (F0 m 2 ls []) := by
    intro d
    induction d with
    | zero =>
      intro i hi hfu
      exact absurd hfu (by omega)
    | succ d ih =>
      intro i hi hfu f H locs hP hD hS hf ls hl
      refine lv_iload_n hx hb dX0_markRows_2 rfl (lv_at hl 2 rfl) ?_
      refine lv_aload_n hx hb dX0_markRows_3 rfl (lv_at hl 0 rfl) ?_
      refine va_get (D := (dC, dI)) (ci := 0) (v := .int (nI n)) (C := RX0) (T := TX0) (N := 10) hx hb hts hin0 hown hK hP 0 rfl rfl 4 (by decide) fl_32 (fun _ h9 => h9) rfl dX0_markRows_4 ?_
      refine yb_ge (tgt := 37) (by omega) (by omega) hx hb dX0_markRows_7 (by decide) (fun c_1 => ?_) (fun c_1 => ?_)
      · exact W.vret hx hb hr (fun t9 ht hW => ⟨⟨f, rfl, fun j hj => hf j (by omega), by rw [ht]; exact hP, va_K.moved hW.alike hK, hD⟩, hS.F ht⟩) hS.2.2 dX0_markRows_37
      · refine lv_aload_n hx hb dX0_markRows_10 rfl (lv_at hl 0 rfl) ?_
        refine va_get (D := (dC, dI)) (ci := 0) (v := .ref (ad 7)) (C := RX0) (T := TX0) (N := 10) hx hb hts hin0 hown hK hP 0 rfl rfl 9 (by decide) fl_28 (fun _ h9 => h9) rfl dX0_markRows_11 ?_
        refine lv_iload_n hx hb dX0_markRows_14 rfl (lv_at hl 2 rfl) ?_
        refine lv_iload_n hx hb dX0_markRows_15 rfl (lv_at hl 2 rfl) ?_
        refine lv_aload_n hx hb dX0_markRows_16 rfl (lv_at hl 0 rfl) ?_
        refine va_get (D := (dC, dI)) (ci := 0) (v := .int (nI n)) (C := RX0) (T := TX0) (N := 10) hx hb hts hin0 hown hK hP 0 rfl rfl 4 (by decide) fl_32 (fun _ h9 => h9) rfl dX0_markRows_17 ?_
        refine lv_iload_n hx hb dX0_markRows_20 rfl (lv_at hl 1 rfl) ?_
        refine lv_isub hx hb dX0_markRows_21 ?_
        refine lv_icmp_lt (tgt := 29) hx hb dX0_markRows_22 (by decide) (fun c_2 => ?_) (fun c_2 => ?_)
        · refine lv_iconst (v := 0) hx hb dX0_markRows_29 (by decide) ?_
          refine ya_zast hx hb hK hP hD hS 7 6 rfl rfl (j := i) (by omega) (by decide) yn_z0 dX0_markRows_30 (fun H locs hP hD hS => ?_)
          have hP : va_P (dC, dI) vwCl (wm ca ad t k v b n kd ln w nw (upd f i 0)) H := hP
          have hD : va_D A (wm ca ad t k v b n kd ln w nw (upd f i 0)) := hD
          refine lv_iinc (v := (nI (i + 1))) (lv' := [(2, .int (nI (i + 1))), (0, .ref (ad 0)), (1, .int p1)]) hx hb dX0_markRows_31 hl (k := 2) rfl (yn_inc _) (by decide) rfl (fun ls hl => ?_)
          refine lv_goto (tgt := 2) hx hb dX0_markRows_34 (by decide) ?_
          exact ih (i + 1) (by omega) (by omega) _ _ _ hP hD hS (qm_step (P := fun j => ¬ nI j < nI n - p1) hf (qc_mk0 (fun q => q c_2))) ls (lv_sub hl [1, 2, 0] rfl)
        · refine lv_iconst (v := 1) hx hb dX0_markRows_25 (by decide) ?_
          refine lv_goto (tgt := 30) hx hb dX0_markRows_26 (by decide) ?_
          refine ya_zast hx hb hK hP hD hS 7 6 rfl rfl (j := i) (by omega) (by decide) yn_z1 dX0_markRows_30 (fun H locs hP hD hS => ?_)
          have hP : va_P (dC, dI) vwCl (wm ca ad t k v b n kd ln w nw (upd f i 1)) H := hP
          have hD : va_D A (wm ca ad t k v b n kd ln w nw (upd f i 1)) := hD
          refine lv_iinc (v := (nI (i + 1))) (lv' := [(2, .int (nI (i + 1))), (0, .ref (ad 0)), (1, .int p1)]) hx hb dX0_markRows_31 hl (k := 2) rfl (yn_inc _) (by decide) rfl (fun ls hl => ?_)
          refine lv_goto (tgt := 2) hx hb dX0_markRows_34 (by decide) ?_
          exact ih (i + 1) (by omega) (by omega) _ _ _ hP hD hS (qm_step (P := fun j => ¬ nI j < nI n - p1) hf (qc_mk1 (c_2))) ls (lv_sub hl [1, 2, 0] rfl)
  exact loop (n + 1) 0 (Nat.zero_le n) (by omega) _ _ _ hP hD hS (fun j h => absurd h (Nat.not_lt_zero j)) ls (lv_sub hl [1, 2, 0] rfl)

set_option maxRecDepth 100000 in
set_option maxHeartbeats 4000000 in
/-- markOutside(n) -/
theorem c_markOutside (l : Launch) (dC : Nat → ClassId) (dI : Nat → Nat → Nat) (ca : Nat → ClassId) (ad : Nat → Nat) (sz : Nat) (t : Nat → Int32) (k : Nat → Nat) (v : Nat → Int32) (b : Nat → Nat) (n : Nat) (kd : Nat → Int32) (ln : Nat → Int32) (w : Nat) (nw : Int32) (ins : Nat → Int32) (p1 : Int32) (hn : n ≤ 300) : Met l yX0_markOutside wsX0_markOutside ({ frames := 0, cells := 0, slots := 0, locals := 0 }) (va_Pc [.ref (ad 0), .int p1] (wmPre dC dI ca ad sz t k v b n kd ln w nw ins)) (va_Qv (fun u : Nat → Int32 => ∀ j, j < n → qc_mk (u j) (t j < nw - p1)) (fun u t9 => wmAt dC dI ca ad (va_A (wm ca ad t k v b n kd ln w nw ins) sz) t k v b n kd ln w nw u t9) (va_A (wm ca ad t k v b n kd ln w nw ins) sz)) 0 0 (va_A (wm ca ad t k v b n kd ln w nw ins) sz) := by
  refine Met.ofW (cc := cX0_markOutside) (maxL := 3) (ret := none) (by decide) rfl ?_
  intro p e s m args below meth c s₁ B hml hv
  obtain ⟨rfl, hsz, hP, hK, hD0⟩ := hv
  have hx := B.exec
  have hb := B.bytes
  have hr := B.returns
  have hts := atoms_spec (ws := wsX0_markOutside) B.pre
  have hown : s.vm.findClass RX0 = some m.cls := findClass_of_methodNamed B.named
  have hlocks := B.notSynchronized
  subst hsz
  have hin0 : ∀ w ∈ u_ws RX0 TX0 10, w ∈ wsX0_markOutside := fun w h => List.mem_cons_of_mem _ (wiX0 w h)
  have fl_9 := hts _ (List.mem_cons_of_mem _ flX0_9)
  have fl_28 := hts _ (List.mem_cons_of_mem _ flX0_28)
  have fl_32 := hts _ (List.mem_cons_of_mem _ flX0_32)
  have fl_39 := hts _ (List.mem_cons_of_mem _ flX0_39)
  have hD := hD0.self (sz := s.heap.size)
  generalize hAe : va_A (wm ca ad t k v b n kd ln w nw ins) s.heap.size = A at hD ⊢
  have hA : ∀ q : Nat, s.heap.size ≤ q → A q := fun q h => by rw [← hAe]; exact Or.inr h
  have hS : va_S A s.heap s.heap [] := va_S.rf
  have hl := lv_entry ([.ref (ad 0), .int p1]) (n := 3) (Nat.le_of_ble_eq_true rfl)
  rw [lg_entry_eq]
  generalize (lg_sl ([.ref (ad 0), .int p1]) ++ List.replicate (3 - (lg_sl ([.ref (ad 0), .int p1])).length) Slot.unset).toArray = ls at hl ⊢
  have hl : lv_has ls 3 [(0, .ref (ad 0)), (1, .int p1)] := hl
  refine lv_iconst (v := 0) hx hb dX0_markOutside_0 (by decide) ?_
  refine lv_istore_n (lv' := [(2, .int 0), (0, .ref (ad 0)), (1, .int p1)]) hx hb dX0_markOutside_1 rfl hl (by decide) rfl (fun ls hl => ?_)
  have loop : ∀ (d i : Nat), i ≤ n → n + 1 ≤ i + d → ∀ (f : Nat → Int32) (H : Heap) (locs : List Loc), va_P (dC, dI) vwCl (wm ca ad t k v b n kd ln w nw f) H → va_D A (wm ca ad t k v b n kd ln w nw f) → va_S A s.heap H locs → (∀ j, j < i → qc_mk (f j) (t j < nw - p1)) → ∀ (ls : Array Slot), lv_has ls 3 [(0, .ref (ad 0)), (1, .int p1), (2, .int (nI i))] → W p l e (headSpec wsX0_markOutside ({ frames := 0, cells := 0, slots := 0, locals := 0 })).room s m ([.ref (ad 0), .int p1] : List Value).toArray below meth c H locs 0 0 (MQ below (va_Qv (fun u : Nat → Int32 => ∀ j, j < n → qc_mk (u j) (t j < nw - p1)) (fun u t9 => wmAt dC dI ca ad A t k v b n kd ln w nw u t9) A) ([.ref (ad 0), .int p1] : List Value).toArray s 0 0 A) (F0 m 2 ls []) := by
    intro d
    induction d with
    | zero =>
      intro i hi hfu
      exact absurd hfu (by omega)
    | succ d ih =>
      intro i hi hfu f H locs hP hD hS hf ls hl
      refine lv_iload_n hx hb dX0_markOutside_2 rfl (lv_at hl 2 rfl) ?_
      refine lv_aload_n hx hb dX0_markOutside_3 rfl (lv_at hl 0 rfl) ?_
      refine va_get (D := (dC, dI)) (ci := 0) (v := .int (nI n)) (C := RX0) (T := TX0) (N := 10) hx hb hts hin0 hown hK hP 0 rfl rfl 4 (by decide) fl_32 (fun _ h9 => h9) rfl dX0_markOutside_4 ?_
      refine yb_ge (tgt := 42) (by omega) (by omega) hx hb dX0_markOutside_7 (by decide) (fun c_1 => ?_) (fun c_1 => ?_)
      · exact W.vret hx hb hr (fun t9 ht hW => ⟨⟨f, rfl, fun j hj => hf j (by omega), by rw [ht]; exact hP, va_K.moved hW.alike hK, hD⟩, hS.F ht⟩) hS.2.2 dX0_markOutside_42
      · refine lv_aload_n hx hb dX0_markOutside_10 rfl (lv_at hl 0 rfl) ?_
        refine va_get (D := (dC, dI)) (ci := 0) (v := .ref (ad 7)) (C := RX0) (T := TX0) (N := 10) hx hb hts hin0 hown hK hP 0 rfl rfl 9 (by decide) fl_28 (fun _ h9 => h9) rfl dX0_markOutside_11 ?_
        refine lv_iload_n hx hb dX0_markOutside_14 rfl (lv_at hl 2 rfl) ?_
        refine lv_aload_n hx hb dX0_markOutside_15 rfl (lv_at hl 0 rfl) ?_
        refine va_get (D := (dC, dI)) (ci := 0) (v := .ref (ad 1)) (C := RX0) (T := TX0) (N := 10) hx hb hts hin0 hown hK hP 0 rfl rfl 0 (by decide) fl_9 (fun _ h9 => h9) rfl dX0_markOutside_16 ?_
        refine lv_iload_n hx hb dX0_markOutside_19 rfl (lv_at hl 2 rfl) ?_
        refine ya_iald hx hb hK hP 1 0 rfl rfl (j := i) (by omega) (by decide) dX0_markOutside_20 ?_
        refine lv_aload_n hx hb dX0_markOutside_21 rfl (lv_at hl 0 rfl) ?_
        refine va_get (D := (dC, dI)) (ci := 0) (v := .int nw) (C := RX0) (T := TX0) (N := 10) hx hb hts hin0 hown hK hP 0 rfl rfl 8 (by decide) fl_39 (fun _ h9 => h9) rfl dX0_markOutside_22 ?_
        refine lv_iload_n hx hb dX0_markOutside_25 rfl (lv_at hl 1 rfl) ?_
        refine lv_isub hx hb dX0_markOutside_26 ?_
        refine lv_icmp_ge (tgt := 34) hx hb dX0_markOutside_27 (by decide) (fun c_2 => ?_) (fun c_2 => ?_)
        · refine lv_iconst (v := 0) hx hb dX0_markOutside_34 (by decide) ?_
          refine ya_zast hx hb hK hP hD hS 7 6 rfl rfl (j := i) (by omega) (by decide) yn_z0 dX0_markOutside_35 (fun H locs hP hD hS => ?_)
          have hP : va_P (dC, dI) vwCl (wm ca ad t k v b n kd ln w nw (upd f i 0)) H := hP
          have hD : va_D A (wm ca ad t k v b n kd ln w nw (upd f i 0)) := hD
          refine lv_iinc (v := (nI (i + 1))) (lv' := [(2, .int (nI (i + 1))), (0, .ref (ad 0)), (1, .int p1)]) hx hb dX0_markOutside_36 hl (k := 2) rfl (yn_inc _) (by decide) rfl (fun ls hl => ?_)
          refine lv_goto (tgt := 2) hx hb dX0_markOutside_39 (by decide) ?_
          exact ih (i + 1) (by omega) (by omega) _ _ _ hP hD hS (qm_step (P := fun j => t j < nw - p1) hf (qc_mk0 (Int32.not_lt.mpr c_2))) ls (lv_sub hl [1, 2, 0] rfl)
        · refine lv_iconst (v := 1) hx hb dX0_markOutside_30 (by decide) ?_
          refine lv_goto (tgt := 35) hx hb dX0_markOutside_31 (by decide) ?_
          refine ya_zast hx hb hK hP hD hS 7 6 rfl rfl (j := i) (by omega) (by decide) yn_z1 dX0_markOutside_35 (fun H locs hP hD hS => ?_)
          have hP : va_P (dC, dI) vwCl (wm ca ad t k v b n kd ln w nw (upd f i 1)) H := hP
          have hD : va_D A (wm ca ad t k v b n kd ln w nw (upd f i 1)) := hD
          refine lv_iinc (v := (nI (i + 1))) (lv' := [(2, .int (nI (i + 1))), (0, .ref (ad 0)), (1, .int p1)]) hx hb dX0_markOutside_36 hl (k := 2) rfl (yn_inc _) (by decide) rfl (fun ls hl => ?_)
          refine lv_goto (tgt := 2) hx hb dX0_markOutside_39 (by decide) ?_
          exact ih (i + 1) (by omega) (by omega) _ _ _ hP hD hS (qm_step (P := fun j => t j < nw - p1) hf (qc_mk1 (Int32.not_le.mp c_2))) ls (lv_sub hl [1, 2, 0] rfl)
  exact loop (n + 1) 0 (Nat.zero_le n) (by omega) _ _ _ hP hD hS (fun j h => absurd h (Nat.not_lt_zero j)) ls (lv_sub hl [1, 2, 0] rfl)

set_option maxRecDepth 100000 in
set_option maxHeartbeats 4000000 in
/-- markBlock(n) -/
theorem c_markBlock (l : Launch) (dC : Nat → ClassId) (dI : Nat → Nat → Nat) (ca : Nat → ClassId) (ad : Nat → Nat) (sz : Nat) (t : Nat → Int32) (k : Nat → Nat) (v : Nat → Int32) (b : Nat → Nat) (n : Nat) (kd : Nat → Int32) (ln : Nat → Int32) (w : Nat) (nw : Int32) (ins : Nat → Int32) (p1 : Int32) (hn : n ≤ 300) : Met l yX0_markBlock wsX0_markBlock ({ frames := 0, cells := 0, slots := 0, locals := 0 }) (va_Pc [.ref (ad 0), .int p1] (wmPre dC dI ca ad sz t k v b n kd ln w nw ins)) (va_Qv (fun u : Nat → Int32 => ∀ j, j < n → qc_mk (u j) (t j / qc_len p1 = nw / qc_len p1)) (fun u t9 => wmAt dC dI ca ad (va_A (wm ca ad t k v b n kd ln w nw ins) sz) t k v b n kd ln w nw u t9) (va_A (wm ca ad t k v b n kd ln w nw ins) sz)) 0 0 (va_A (wm ca ad t k v b n kd ln w nw ins) sz) := by
  refine Met.ofW (cc := cX0_markBlock) (maxL := 5) (ret := none) (by decide) rfl ?_
  intro p e s m args below meth c s₁ B hml hv
  obtain ⟨rfl, hsz, hP, hK, hD0⟩ := hv
  have hx := B.exec
  have hb := B.bytes
  have hr := B.returns
  have hts := atoms_spec (ws := wsX0_markBlock) B.pre
  have hown : s.vm.findClass RX0 = some m.cls := findClass_of_methodNamed B.named
  have hlocks := B.notSynchronized
  subst hsz
  have hin0 : ∀ w ∈ u_ws RX0 TX0 10, w ∈ wsX0_markBlock := fun w h => List.mem_cons_of_mem _ (wiX0 w h)
  have fl_9 := hts _ (List.mem_cons_of_mem _ flX0_9)
  have fl_28 := hts _ (List.mem_cons_of_mem _ flX0_28)
  have fl_32 := hts _ (List.mem_cons_of_mem _ flX0_32)
  have fl_39 := hts _ (List.mem_cons_of_mem _ flX0_39)
  have hD := hD0.self (sz := s.heap.size)
  generalize hAe : va_A (wm ca ad t k v b n kd ln w nw ins) s.heap.size = A at hD ⊢
  have hA : ∀ q : Nat, s.heap.size ≤ q → A q := fun q h => by rw [← hAe]; exact Or.inr h
  have hS : va_S A s.heap s.heap [] := va_S.rf
  have hl := lv_entry ([.ref (ad 0), .int p1]) (n := 5) (Nat.le_of_ble_eq_true rfl)
  rw [lg_entry_eq]
  generalize (lg_sl ([.ref (ad 0), .int p1]) ++ List.replicate (5 - (lg_sl ([.ref (ad 0), .int p1])).length) Slot.unset).toArray = ls at hl ⊢
  have hl : lv_has ls 5 [(0, .ref (ad 0)), (1, .int p1)] := hl
  have loop : ∀ (d i : Nat), i ≤ n → n + 1 ≤ i + d → ∀ (f : Nat → Int32) (H : Heap) (locs : List Loc), va_P (dC, dI) vwCl (wm ca ad t k v b n kd ln w nw f) H → va_D A (wm ca ad t k v b n kd ln w nw f) → va_S A s.heap H locs → (∀ j, j < i → qc_mk (f j) (t j / qc_len p1 = nw / qc_len p1)) → ∀ (ls : Array Slot), lv_has ls 5 [(0, .ref (ad 0)), (1, .int p1), (2, .int (qc_len p1)), (3, .int (nw / qc_len p1)), (4, .int (nI i))] → W p l e (headSpec wsX0_markBlock ({ frames := 0, cells := 0, slots := 0, locals := 0 })).room s m ([.ref (ad 0), .int p1] : List Value).toArray below meth c H locs 0 0 (MQ below (va_Qv (fun u : Nat → Int32 => ∀ j, j < n → qc_mk (u j) (t j / qc_len p1 = nw / qc_len p1)) (fun u t9 => wmAt dC dI ca ad A t k v b n kd ln w nw u t9) A) ([.ref (ad 0), .int p1] : List Value).toArray s 0 0 A) (F0 m 20 ls []) := by
    intro d
    induction d with
    | zero =>
      intro i hi hfu
      exact absurd hfu (by omega)
    | succ d ih =>
      intro i hi hfu f H locs hP hD hS hf ls hl
      refine lv_iload hx hb dX0_markBlock_20 (lv_at hl 4 rfl) ?_
      refine lv_aload_n hx hb dX0_markBlock_22 rfl (lv_at hl 0 rfl) ?_
      refine va_get (D := (dC, dI)) (ci := 0) (v := .int (nI n)) (C := RX0) (T := TX0) (N := 10) hx hb hts hin0 hown hK hP 0 rfl rfl 4 (by decide) fl_32 (fun _ h9 => h9) rfl dX0_markBlock_23 ?_
      refine yb_ge (tgt := 60) (by omega) (by omega) hx hb dX0_markBlock_26 (by decide) (fun c_1 => ?_) (fun c_1 => ?_)
      · exact W.vret hx hb hr (fun t9 ht hW => ⟨⟨f, rfl, fun j hj => hf j (by omega), by rw [ht]; exact hP, va_K.moved hW.alike hK, hD⟩, hS.F ht⟩) hS.2.2 dX0_markBlock_60
      · refine lv_aload_n hx hb dX0_markBlock_29 rfl (lv_at hl 0 rfl) ?_
        refine va_get (D := (dC, dI)) (ci := 0) (v := .ref (ad 7)) (C := RX0) (T := TX0) (N := 10) hx hb hts hin0 hown hK hP 0 rfl rfl 9 (by decide) fl_28 (fun _ h9 => h9) rfl dX0_markBlock_30 ?_
        refine lv_iload hx hb dX0_markBlock_33 (lv_at hl 4 rfl) ?_
        refine lv_aload_n hx hb dX0_markBlock_35 rfl (lv_at hl 0 rfl) ?_
        refine va_get (D := (dC, dI)) (ci := 0) (v := .ref (ad 1)) (C := RX0) (T := TX0) (N := 10) hx hb hts hin0 hown hK hP 0 rfl rfl 0 (by decide) fl_9 (fun _ h9 => h9) rfl dX0_markBlock_36 ?_
        refine lv_iload hx hb dX0_markBlock_39 (lv_at hl 4 rfl) ?_
        refine ya_iald hx hb hK hP 1 0 rfl rfl (j := i) (by omega) (by decide) dX0_markBlock_41 ?_
        refine lv_iload_n hx hb dX0_markBlock_42 rfl (lv_at hl 2 rfl) ?_
        refine lv_idiv hx hb dX0_markBlock_43 (qc_len_ne p1) ?_
        refine lv_iload_n hx hb dX0_markBlock_44 rfl (lv_at hl 3 rfl) ?_
        refine lv_icmp_ne (tgt := 52) hx hb dX0_markBlock_45 (by decide) (fun c_2 => ?_) (fun c_2 => ?_)
        · refine lv_iconst (v := 0) hx hb dX0_markBlock_52 (by decide) ?_
          refine ya_zast hx hb hK hP hD hS 7 6 rfl rfl (j := i) (by omega) (by decide) yn_z0 dX0_markBlock_53 (fun H locs hP hD hS => ?_)
          have hP : va_P (dC, dI) vwCl (wm ca ad t k v b n kd ln w nw (upd f i 0)) H := hP
          have hD : va_D A (wm ca ad t k v b n kd ln w nw (upd f i 0)) := hD
          refine lv_iinc (v := (nI (i + 1))) (lv' := [(4, .int (nI (i + 1))), (0, .ref (ad 0)), (1, .int p1), (2, .int (qc_len p1)), (3, .int (nw / qc_len p1))]) hx hb dX0_markBlock_54 hl (k := 4) rfl (yn_inc _) (by decide) rfl (fun ls hl => ?_)
          refine lv_goto (tgt := 20) hx hb dX0_markBlock_57 (by decide) ?_
          exact ih (i + 1) (by omega) (by omega) _ _ _ hP hD hS (qm_step (P := fun j => t j / qc_len p1 = nw / qc_len p1) hf (qc_mk0 c_2)) ls (lv_sub hl [1, 2, 3, 4, 0] rfl)
        · refine lv_iconst (v := 1) hx hb dX0_markBlock_48 (by decide) ?_
          refine lv_goto (tgt := 53) hx hb dX0_markBlock_49 (by decide) ?_
          refine ya_zast hx hb hK hP hD hS 7 6 rfl rfl (j := i) (by omega) (by decide) yn_z1 dX0_markBlock_53 (fun H locs hP hD hS => ?_)
          have hP : va_P (dC, dI) vwCl (wm ca ad t k v b n kd ln w nw (upd f i 1)) H := hP
          have hD : va_D A (wm ca ad t k v b n kd ln w nw (upd f i 1)) := hD
          refine lv_iinc (v := (nI (i + 1))) (lv' := [(4, .int (nI (i + 1))), (0, .ref (ad 0)), (1, .int p1), (2, .int (qc_len p1)), (3, .int (nw / qc_len p1))]) hx hb dX0_markBlock_54 hl (k := 4) rfl (yn_inc _) (by decide) rfl (fun ls hl => ?_)
          refine lv_goto (tgt := 20) hx hb dX0_markBlock_57 (by decide) ?_
          exact ih (i + 1) (by omega) (by omega) _ _ _ hP hD hS (qm_step (P := fun j => t j / qc_len p1 = nw / qc_len p1) hf (qc_mk1 c_2)) ls (lv_sub hl [1, 2, 3, 4, 0] rfl)
  refine lv_iload_n hx hb dX0_markBlock_0 rfl (lv_at hl 1 rfl) ?_
  refine lv_if_le (tgt := 8) hx hb dX0_markBlock_1 (by decide) (fun c_3 => ?_) (fun c_3 => ?_)
  · refine lv_iconst (v := 1) hx hb dX0_markBlock_8 (by decide) ?_
    refine W.eq (g2 := F0 m 9 ls [.int (qc_len p1)]) (by rw [qc_len, if_pos c_3]) ?_
    refine lv_istore_n (lv' := [(2, .int (qc_len p1)), (0, .ref (ad 0)), (1, .int p1)]) hx hb dX0_markBlock_9 rfl hl (by decide) rfl (fun ls hl => ?_)
    refine lv_aload_n hx hb dX0_markBlock_10 rfl (lv_at hl 1 rfl) ?_
    refine va_get (D := (dC, dI)) (ci := 0) (v := .int nw) (C := RX0) (T := TX0) (N := 10) hx hb hts hin0 hown hK hP 0 rfl rfl 8 (by decide) fl_39 (fun _ h9 => h9) rfl dX0_markBlock_11 ?_
    refine lv_iload_n hx hb dX0_markBlock_14 rfl (lv_at hl 0 rfl) ?_
    refine lv_idiv hx hb dX0_markBlock_15 (qc_len_ne p1) ?_
    refine lv_istore_n (lv' := [(3, .int (nw / (qc_len p1))), (2, .int (qc_len p1)), (0, .ref (ad 0)), (1, .int p1)]) hx hb dX0_markBlock_16 rfl hl (by decide) rfl (fun ls hl => ?_)
    refine lv_iconst (v := 0) hx hb dX0_markBlock_17 (by decide) ?_
    refine lv_istore (lv' := [(4, .int 0), (3, .int (nw / (qc_len p1))), (2, .int (qc_len p1)), (0, .ref (ad 0)), (1, .int p1)]) hx hb dX0_markBlock_18 hl (by decide) rfl (fun ls hl => ?_)
    exact loop (n + 1) 0 (Nat.zero_le n) (by omega) _ _ _ hP hD hS (fun j h => absurd h (Nat.not_lt_zero j)) ls (lv_sub hl [3, 4, 2, 1, 0] rfl)
  · refine lv_iload_n hx hb dX0_markBlock_4 rfl (lv_at hl 1 rfl) ?_
    refine lv_goto (tgt := 9) hx hb dX0_markBlock_5 (by decide) ?_
    refine W.eq (g2 := F0 m 9 ls [.int (qc_len p1)]) (by rw [qc_len, if_neg c_3]) ?_
    refine lv_istore_n (lv' := [(2, .int (qc_len p1)), (0, .ref (ad 0)), (1, .int p1)]) hx hb dX0_markBlock_9 rfl hl (by decide) rfl (fun ls hl => ?_)
    refine lv_aload_n hx hb dX0_markBlock_10 rfl (lv_at hl 1 rfl) ?_
    refine va_get (D := (dC, dI)) (ci := 0) (v := .int nw) (C := RX0) (T := TX0) (N := 10) hx hb hts hin0 hown hK hP 0 rfl rfl 8 (by decide) fl_39 (fun _ h9 => h9) rfl dX0_markBlock_11 ?_
    refine lv_iload_n hx hb dX0_markBlock_14 rfl (lv_at hl 0 rfl) ?_
    refine lv_idiv hx hb dX0_markBlock_15 (qc_len_ne p1) ?_
    refine lv_istore_n (lv' := [(3, .int (nw / (qc_len p1))), (2, .int (qc_len p1)), (0, .ref (ad 0)), (1, .int p1)]) hx hb dX0_markBlock_16 rfl hl (by decide) rfl (fun ls hl => ?_)
    refine lv_iconst (v := 0) hx hb dX0_markBlock_17 (by decide) ?_
    refine lv_istore (lv' := [(4, .int 0), (3, .int (nw / (qc_len p1))), (2, .int (qc_len p1)), (0, .ref (ad 0)), (1, .int p1)]) hx hb dX0_markBlock_18 hl (by decide) rfl (fun ls hl => ?_)
    exact loop (n + 1) 0 (Nat.zero_le n) (by omega) _ _ _ hP hD hS (fun j h => absurd h (Nat.not_lt_zero j)) ls (lv_sub hl [3, 4, 2, 1, 0] rfl)

set_option maxRecDepth 100000 in
set_option maxHeartbeats 4000000 in
/-- markRun(n) -/
theorem c_markRun (l : Launch) (dC : Nat → ClassId) (dI : Nat → Nat → Nat) (ca : Nat → ClassId) (ad : Nat → Nat) (sz : Nat) (t : Nat → Int32) (k : Nat → Nat) (v : Nat → Int32) (b : Nat → Nat) (n : Nat) (kd : Nat → Int32) (ln : Nat → Int32) (w : Nat) (nw : Int32) (ins : Nat → Int32) (p1 : Int32) (hn : n ≤ 300) : Met l yX0_markRun wsX0_markRun ({ frames := 0, cells := 0, slots := 0, locals := 0 }) (va_Pc [.ref (ad 0), .int p1] (wmPre dC dI ca ad sz t k v b n kd ln w nw ins)) (va_Qv (fun u : Nat → Int32 => ∀ j, j < n → qc_mk (u j) (qc_td t nw p1 n j)) (fun u t9 => wmAt dC dI ca ad (va_A (wm ca ad t k v b n kd ln w nw ins) sz) t k v b n kd ln w nw u t9) (va_A (wm ca ad t k v b n kd ln w nw ins) sz)) 0 0 (va_A (wm ca ad t k v b n kd ln w nw ins) sz) := by
  refine Met.ofW (cc := cX0_markRun) (maxL := 5) (ret := none) (by decide) rfl ?_
  intro p e s m args below meth c s₁ B hml hv
  obtain ⟨rfl, hsz, hP, hK, hD0⟩ := hv
  have hx := B.exec
  have hb := B.bytes
  have hr := B.returns
  have hts := atoms_spec (ws := wsX0_markRun) B.pre
  have hown : s.vm.findClass RX0 = some m.cls := findClass_of_methodNamed B.named
  have hlocks := B.notSynchronized
  subst hsz
  have hin0 : ∀ w ∈ u_ws RX0 TX0 10, w ∈ wsX0_markRun := fun w h => List.mem_cons_of_mem _ (wiX0 w h)
  have fl_9 := hts _ (List.mem_cons_of_mem _ flX0_9)
  have fl_28 := hts _ (List.mem_cons_of_mem _ flX0_28)
  have fl_32 := hts _ (List.mem_cons_of_mem _ flX0_32)
  have fl_39 := hts _ (List.mem_cons_of_mem _ flX0_39)
  have hD := hD0.self (sz := s.heap.size)
  generalize hAe : va_A (wm ca ad t k v b n kd ln w nw ins) s.heap.size = A at hD ⊢
  have hA : ∀ q : Nat, s.heap.size ≤ q → A q := fun q h => by rw [← hAe]; exact Or.inr h
  have hS : va_S A s.heap s.heap [] := va_S.rf
  have hl := lv_entry ([.ref (ad 0), .int p1]) (n := 5) (Nat.le_of_ble_eq_true rfl)
  rw [lg_entry_eq]
  generalize (lg_sl ([.ref (ad 0), .int p1]) ++ List.replicate (5 - (lg_sl ([.ref (ad 0), .int p1])).length) Slot.unset).toArray = ls at hl ⊢
  have hl : lv_has ls 5 [(0, .ref (ad 0)), (1, .int p1)] := hl
  refine lv_aload_n hx hb dX0_markRun_0 rfl (lv_at hl 0 rfl) ?_
  refine va_get (D := (dC, dI)) (ci := 0) (v := .int nw) (C := RX0) (T := TX0) (N := 10) hx hb hts hin0 hown hK hP 0 rfl rfl 8 (by decide) fl_39 (fun _ h9 => h9) rfl dX0_markRun_1 ?_
  refine lv_istore_n (lv' := [(2, .int nw), (0, .ref (ad 0)), (1, .int p1)]) hx hb dX0_markRun_4 rfl hl (by decide) rfl (fun ls hl => ?_)
  refine lv_iconst (v := 1) hx hb dX0_markRun_5 (by decide) ?_
  refine lv_istore_n (lv' := [(3, .int 1), (2, .int nw), (0, .ref (ad 0)), (1, .int p1)]) hx hb dX0_markRun_6 rfl hl (by decide) rfl (fun ls hl => ?_)
  refine lv_aload_n hx hb dX0_markRun_7 rfl (lv_at hl 2 rfl) ?_
  refine va_get (D := (dC, dI)) (ci := 0) (v := .int (nI n)) (C := RX0) (T := TX0) (N := 10) hx hb hts hin0 hown hK hP 0 rfl rfl 4 (by decide) fl_32 (fun _ h9 => h9) rfl dX0_markRun_8 ?_
  refine lv_iconst (v := 1) hx hb dX0_markRun_11 (by decide) ?_
  refine lv_isub hx hb dX0_markRun_12 ?_
  refine lv_istore (lv' := [(4, .int ((nI n) - 1)), (3, .int 1), (2, .int nw), (0, .ref (ad 0)), (1, .int p1)]) hx hb dX0_markRun_13 hl (by decide) rfl (fun ls hl => ?_)
  have loop : ∀ (r : Nat), r ≤ n → ∀ (x2 : Int32) (x3 : Int32) (f : Nat → Int32) (H : Heap) (locs : List Loc), va_P (dC, dI) vwCl (wm ca ad t k v b n kd ln w nw f) H → va_D A (wm ca ad t k v b n kd ln w nw f) → va_S A s.heap H locs → (x2 = qc_nx t nw n r) → (qc_mk x3 (qc_td t nw p1 n r)) → (∀ j, r ≤ j → j < n → qc_mk (f j) (qc_td t nw p1 n j)) → ∀ (ls : Array Slot), lv_has ls 5 [(0, .ref (ad 0)), (1, .int p1), (2, .int x2), (3, .int x3), (4, .int (nI r - 1))] → W p l e (headSpec wsX0_markRun ({ frames := 0, cells := 0, slots := 0, locals := 0 })).room s m ([.ref (ad 0), .int p1] : List Value).toArray below meth c H locs 0 0 (MQ below (va_Qv (fun u : Nat → Int32 => ∀ j, j < n → qc_mk (u j) (qc_td t nw p1 n j)) (fun u t9 => wmAt dC dI ca ad A t k v b n kd ln w nw u t9) A) ([.ref (ad 0), .int p1] : List Value).toArray s 0 0 A) (F0 m 15 ls []) := by
    intro r
    induction r with
    | zero =>
      intro hi x2 x3 f H locs hP hD hS hx2 hx3 hf ls hl
      refine lv_iload hx hb dX0_markRun_15 (lv_at hl 4 rfl) ?_
      refine lv_if_lt (tgt := 65) hx hb dX0_markRun_17 (by decide) (fun c_1 => ?_) (fun c_1 => ?_)
      · exact W.vret hx hb hr (fun t9 ht hW => ⟨⟨f, rfl, fun j hj => hf j (Nat.zero_le j) hj, by rw [ht]; exact hP, va_K.moved hW.alike hK, hD⟩, hS.F ht⟩) hS.2.2 dX0_markRun_65
      · exact absurd (by decide) c_1
    | succ r ih =>
      intro hi x2 x3 f H locs hP hD hS hx2 hx3 hf ls hl
      rw [nI_pred] at hl
      refine lv_iload hx hb dX0_markRun_15 (lv_at hl 4 rfl) ?_
      refine lv_if_lt (tgt := 65) hx hb dX0_markRun_17 (by decide) (fun c_2 => ?_) (fun c_2 => ?_)
      · exact absurd c_2 (nI_pos (by omega))
      · have hnx : qc_nx t nw n (r + 1) = x2 := hx2.symm
        refine lv_iload_n hx hb dX0_markRun_20 rfl (lv_at hl 3 rfl) ?_
        refine lv_if_eq (tgt := 41) hx hb dX0_markRun_21 (by decide) (fun c_3 => ?_) (fun c_3 => ?_)
        · refine lv_iconst (v := 0) hx hb dX0_markRun_41 (by decide) ?_
          have hmk : qc_mk 0 (qc_td t nw p1 n r) := qc_mk0 (fun q => hx3.elim (fun g => absurd (g.1.symm.trans c_3) (by decide)) (fun g => g.2 (fun q1 g1 g2 => q q1 (by omega) g2)))
          refine lv_istore_n (lv' := [(3, .int 0), (0, .ref (ad 0)), (1, .int p1), (2, .int x2), (4, .int (nI r))]) hx hb dX0_markRun_42 rfl hl (by decide) rfl (fun ls hl => ?_)
          refine lv_aload_n hx hb dX0_markRun_43 rfl (lv_at hl 1 rfl) ?_
          refine va_get (D := (dC, dI)) (ci := 0) (v := .ref (ad 7)) (C := RX0) (T := TX0) (N := 10) hx hb hts hin0 hown hK hP 0 rfl rfl 9 (by decide) fl_28 (fun _ h9 => h9) rfl dX0_markRun_44 ?_
          refine lv_iload hx hb dX0_markRun_47 (lv_at hl 4 rfl) ?_
          refine lv_iload_n hx hb dX0_markRun_49 rfl (lv_at hl 0 rfl) ?_
          refine ya_zast hx hb hK hP hD hS 7 6 rfl rfl (j := r) (by omega) (by decide) yn_z0 dX0_markRun_50 (fun H locs hP hD hS => ?_)
          have hP : va_P (dC, dI) vwCl (wm ca ad t k v b n kd ln w nw (upd f r 0)) H := hP
          have hD : va_D A (wm ca ad t k v b n kd ln w nw (upd f r 0)) := hD
          refine lv_aload_n hx hb dX0_markRun_51 rfl (lv_at hl 1 rfl) ?_
          refine va_get (D := (dC, dI)) (ci := 0) (v := .ref (ad 1)) (C := RX0) (T := TX0) (N := 10) hx hb hts hin0 hown hK hP 0 rfl rfl 0 (by decide) fl_9 (fun _ h9 => h9) rfl dX0_markRun_52 ?_
          refine lv_iload hx hb dX0_markRun_55 (lv_at hl 4 rfl) ?_
          refine ya_iald hx hb hK hP 1 0 rfl rfl (j := r) (by omega) (by decide) dX0_markRun_57 ?_
          refine lv_istore_n (lv' := [(2, .int (t r)), (3, .int 0), (0, .ref (ad 0)), (1, .int p1), (4, .int (nI r))]) hx hb dX0_markRun_58 rfl hl (by decide) rfl (fun ls hl => ?_)
          refine lv_iinc (v := (nI r - 1)) (lv' := [(4, .int (nI r - 1)), (2, .int (t r)), (3, .int 0), (0, .ref (ad 0)), (1, .int p1)]) hx hb dX0_markRun_59 hl (k := 4) rfl (yn_dm _) (by decide) rfl (fun ls hl => ?_)
          refine lv_goto (tgt := 15) hx hb dX0_markRun_62 (by decide) ?_
          exact ih (by omega) _ 0 _ _ _ hP hD hS (by rw [qc_nx, if_pos (by omega)]) hmk (qm_down (P := fun j => qc_td t nw p1 n j) hf hmk) ls (lv_sub hl [3, 4, 1, 2, 0] rfl)
        · have htd : qc_td t nw p1 n (r + 1) := by
            rcases hx3 with ⟨_, g⟩ | ⟨g, _⟩
            · exact g
            · exact absurd g c_3
          refine lv_aload_n hx hb dX0_markRun_24 rfl (lv_at hl 0 rfl) ?_
          refine va_get (D := (dC, dI)) (ci := 0) (v := .ref (ad 1)) (C := RX0) (T := TX0) (N := 10) hx hb hts hin0 hown hK hP 0 rfl rfl 0 (by decide) fl_9 (fun _ h9 => h9) rfl dX0_markRun_25 ?_
          refine lv_iload hx hb dX0_markRun_28 (lv_at hl 4 rfl) ?_
          refine ya_iald hx hb hK hP 1 0 rfl rfl (j := r) (by omega) (by decide) dX0_markRun_30 ?_
          refine lv_iload_n hx hb dX0_markRun_31 rfl (lv_at hl 2 rfl) ?_
          refine lv_iload_n hx hb dX0_markRun_32 rfl (lv_at hl 1 rfl) ?_
          refine lv_isub hx hb dX0_markRun_33 ?_
          refine lv_icmp_lt (tgt := 41) hx hb dX0_markRun_34 (by decide) (fun c_4 => ?_) (fun c_4 => ?_)
          · refine lv_iconst (v := 0) hx hb dX0_markRun_41 (by decide) ?_
            have hmk : qc_mk 0 (qc_td t nw p1 n r) := qc_mk0 (fun q => q r (Nat.le_refl r) (by omega) (by rw [hnx]; exact c_4))
            refine lv_istore_n (lv' := [(3, .int 0), (0, .ref (ad 0)), (1, .int p1), (2, .int x2), (4, .int (nI r))]) hx hb dX0_markRun_42 rfl hl (by decide) rfl (fun ls hl => ?_)
            refine lv_aload_n hx hb dX0_markRun_43 rfl (lv_at hl 1 rfl) ?_
            refine va_get (D := (dC, dI)) (ci := 0) (v := .ref (ad 7)) (C := RX0) (T := TX0) (N := 10) hx hb hts hin0 hown hK hP 0 rfl rfl 9 (by decide) fl_28 (fun _ h9 => h9) rfl dX0_markRun_44 ?_
            refine lv_iload hx hb dX0_markRun_47 (lv_at hl 4 rfl) ?_
            refine lv_iload_n hx hb dX0_markRun_49 rfl (lv_at hl 0 rfl) ?_
            refine ya_zast hx hb hK hP hD hS 7 6 rfl rfl (j := r) (by omega) (by decide) yn_z0 dX0_markRun_50 (fun H locs hP hD hS => ?_)
            have hP : va_P (dC, dI) vwCl (wm ca ad t k v b n kd ln w nw (upd f r 0)) H := hP
            have hD : va_D A (wm ca ad t k v b n kd ln w nw (upd f r 0)) := hD
            refine lv_aload_n hx hb dX0_markRun_51 rfl (lv_at hl 1 rfl) ?_
            refine va_get (D := (dC, dI)) (ci := 0) (v := .ref (ad 1)) (C := RX0) (T := TX0) (N := 10) hx hb hts hin0 hown hK hP 0 rfl rfl 0 (by decide) fl_9 (fun _ h9 => h9) rfl dX0_markRun_52 ?_
            refine lv_iload hx hb dX0_markRun_55 (lv_at hl 4 rfl) ?_
            refine ya_iald hx hb hK hP 1 0 rfl rfl (j := r) (by omega) (by decide) dX0_markRun_57 ?_
            refine lv_istore_n (lv' := [(2, .int (t r)), (3, .int 0), (0, .ref (ad 0)), (1, .int p1), (4, .int (nI r))]) hx hb dX0_markRun_58 rfl hl (by decide) rfl (fun ls hl => ?_)
            refine lv_iinc (v := (nI r - 1)) (lv' := [(4, .int (nI r - 1)), (2, .int (t r)), (3, .int 0), (0, .ref (ad 0)), (1, .int p1)]) hx hb dX0_markRun_59 hl (k := 4) rfl (yn_dm _) (by decide) rfl (fun ls hl => ?_)
            refine lv_goto (tgt := 15) hx hb dX0_markRun_62 (by decide) ?_
            exact ih (by omega) _ 0 _ _ _ hP hD hS (by rw [qc_nx, if_pos (by omega)]) hmk (qm_down (P := fun j => qc_td t nw p1 n j) hf hmk) ls (lv_sub hl [3, 4, 1, 2, 0] rfl)
          · refine lv_iconst (v := 1) hx hb dX0_markRun_37 (by decide) ?_
            refine lv_goto (tgt := 42) hx hb dX0_markRun_38 (by decide) ?_
            have hmk : qc_mk 1 (qc_td t nw p1 n r) := qc_mk1 (fun q1 g1 g2 => (Nat.lt_or_ge r q1).elim (fun g => htd q1 g g2) (fun g => by have e9 : q1 = r := (by omega); subst e9; rw [hnx]; exact c_4))
            refine lv_istore_n (lv' := [(3, .int 1), (0, .ref (ad 0)), (1, .int p1), (2, .int x2), (4, .int (nI r))]) hx hb dX0_markRun_42 rfl hl (by decide) rfl (fun ls hl => ?_)
            refine lv_aload_n hx hb dX0_markRun_43 rfl (lv_at hl 1 rfl) ?_
            refine va_get (D := (dC, dI)) (ci := 0) (v := .ref (ad 7)) (C := RX0) (T := TX0) (N := 10) hx hb hts hin0 hown hK hP 0 rfl rfl 9 (by decide) fl_28 (fun _ h9 => h9) rfl dX0_markRun_44 ?_
            refine lv_iload hx hb dX0_markRun_47 (lv_at hl 4 rfl) ?_
            refine lv_iload_n hx hb dX0_markRun_49 rfl (lv_at hl 0 rfl) ?_
            refine ya_zast hx hb hK hP hD hS 7 6 rfl rfl (j := r) (by omega) (by decide) yn_z1 dX0_markRun_50 (fun H locs hP hD hS => ?_)
            have hP : va_P (dC, dI) vwCl (wm ca ad t k v b n kd ln w nw (upd f r 1)) H := hP
            have hD : va_D A (wm ca ad t k v b n kd ln w nw (upd f r 1)) := hD
            refine lv_aload_n hx hb dX0_markRun_51 rfl (lv_at hl 1 rfl) ?_
            refine va_get (D := (dC, dI)) (ci := 0) (v := .ref (ad 1)) (C := RX0) (T := TX0) (N := 10) hx hb hts hin0 hown hK hP 0 rfl rfl 0 (by decide) fl_9 (fun _ h9 => h9) rfl dX0_markRun_52 ?_
            refine lv_iload hx hb dX0_markRun_55 (lv_at hl 4 rfl) ?_
            refine ya_iald hx hb hK hP 1 0 rfl rfl (j := r) (by omega) (by decide) dX0_markRun_57 ?_
            refine lv_istore_n (lv' := [(2, .int (t r)), (3, .int 1), (0, .ref (ad 0)), (1, .int p1), (4, .int (nI r))]) hx hb dX0_markRun_58 rfl hl (by decide) rfl (fun ls hl => ?_)
            refine lv_iinc (v := (nI r - 1)) (lv' := [(4, .int (nI r - 1)), (2, .int (t r)), (3, .int 1), (0, .ref (ad 0)), (1, .int p1)]) hx hb dX0_markRun_59 hl (k := 4) rfl (yn_dm _) (by decide) rfl (fun ls hl => ?_)
            refine lv_goto (tgt := 15) hx hb dX0_markRun_62 (by decide) ?_
            exact ih (by omega) _ 1 _ _ _ hP hD hS (by rw [qc_nx, if_pos (by omega)]) hmk (qm_down (P := fun j => qc_td t nw p1 n j) hf hmk) ls (lv_sub hl [3, 4, 1, 2, 0] rfl)
  exact loop n (Nat.le_refl n) nw 1 _ _ _ hP hD hS (by rw [qc_nx, if_neg (Nat.lt_irrefl n)]) (qc_mk1 (fun q g1 g2 => absurd g2 (by omega))) (fun j g1 g2 => absurd g2 (by omega)) ls (lv_sub hl [3, 4, 2, 1, 0] rfl)
