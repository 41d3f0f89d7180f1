/-- the place of a new value in the order: what placeBySize leaves -/
def qc_ins (v : Nat → Int32) (b : Nat → Nat) (i0 : Nat) (u : Nat → Nat) : Prop := ∃ p, p ≤ i0 ∧ (p = 0 ∨ v (b (p - 1)) ≤ v i0) ∧ (∀ j, p ≤ j → j < i0 → ¬ v (b j) ≤ v i0) ∧ (∀ j, j < p → u j = b j) ∧ u p = i0 ∧ ∀ j, p < j → j ≤ i0 → u j = b (j - 1)
theorem qc_ins_end {v : Nat → Int32} {b g : Nat → Nat} {i0 p : Nat} (h1 : p ≤ i0) (h2 : p = 0 ∨ v (b (p - 1)) ≤ v i0) (h3 : ∀ j, p ≤ j → j < i0 → ¬ v (b j) ≤ v i0) (h4 : ∀ j, j < p → g j = b j) (h5 : ∀ j, p < j → j ≤ i0 → g j = b (j - 1)) : qc_ins v b i0 (vu g p i0) :=
  ⟨p, h1, h2, h3, fun j hj => by rw [vu_other (by omega)]; exact h4 j hj, vu_same _ _ _, fun j g1 g2 => by rw [vu_other (by omega)]; exact h5 j g1 g2⟩
set_option maxRecDepth 100000 in
set_option maxHeartbeats 4000000 in
/-- placeBySize(i) -/
theorem c_placeBySize (l : Launch) (dC : Nat → ClassId) (dI : Nat → Nat → Nat) (ca : Nat → ClassId) (ad : Nat → Nat) (sz : Nat) (t : Nat → Int32) (k : Nat → Nat) (v : Nat → Int32) (b : Nat → Nat) (n : Nat) (kd : Nat → Int32) (ln : Nat → Int32) (w : Nat) (nw : Int32) (ins : Nat → Int32) (sn : Nat → Nat) (i0 : Nat) (hi0 : i0 < 300) (hbn : ∀ j, j < i0 → b j < i0) : Met l yX0_placeBySize wsX0_placeBySize ({ frames := 0, cells := 0, slots := 0, locals := 0 }) (va_Pc [.ref (ad 0), .int (nI i0)] (wmPre dC dI ca ad sz t k v b n kd ln w nw ins sn)) (va_Qv (fun u : Nat → Nat => qc_ins v b i0 u) (fun u t9 => wmAt dC dI ca ad (va_A (wm ca ad t k v b n kd ln w nw ins sn) sz) t k v u n kd ln w nw ins sn t9) (va_A (wm ca ad t k v b n kd ln w nw ins sn) sz)) 0 0 (va_A (wm ca ad t k v b n kd ln w nw ins sn) sz) := by
  refine Met.ofW (cc := cX0_placeBySize) (maxL := 3) (ret := none) (by decide) rfl ?_
  intro p e s m args below meth c s₁ B hml hv
  obtain ⟨rfl, hsz, hP, hK, hD0⟩ := hv
  have hx := B.exec
  have hb := B.bytes
  have hr := B.returns
  have hts := atoms_spec (ws := wsX0_placeBySize) B.pre
  have hown : s.vm.findClass RX0 = some m.cls := findClass_of_methodNamed B.named
  have hlocks := B.notSynchronized
  subst hsz
  have hin0 : ∀ w ∈ u_ws RX0 TX0 11, w ∈ wsX0_placeBySize := fun w h => List.mem_cons_of_mem _ (wiX0 w h)
  have fl_16 := hts _ (List.mem_cons_of_mem _ flX0_16)
  have fl_19 := hts _ (List.mem_cons_of_mem _ flX0_19)
  have hD := hD0.self (sz := s.heap.size)
  generalize hAe : va_A (wm ca ad t k v b n kd ln w nw ins sn) s.heap.size = A at hD ⊢
  have hA : ∀ q : Nat, s.heap.size ≤ q → A q := fun q h => by rw [← hAe]; exact Or.inr h
  have hS : va_S A s.heap s.heap [] := va_S.rf
  have hl := lv_entry ([.ref (ad 0), .int (nI i0)]) (n := 3) (Nat.le_of_ble_eq_true rfl)
  rw [lg_entry_eq]
  generalize (lg_sl ([.ref (ad 0), .int (nI i0)]) ++ List.replicate (3 - (lg_sl ([.ref (ad 0), .int (nI i0)])).length) Slot.unset).toArray = ls at hl ⊢
  have hl : lv_has ls 3 [(0, .ref (ad 0)), (1, .int (nI i0))] := hl
  refine lv_iload_n hx hb dX0_placeBySize_0 rfl (lv_at hl 1 rfl) ?_
  refine lv_istore_n (lv' := [(2, .int (nI i0)), (0, .ref (ad 0)), (1, .int (nI i0))]) hx hb dX0_placeBySize_1 rfl hl (by decide) rfl (fun ls hl => ?_)
  have loop : ∀ (p0 : Nat), p0 ≤ i0 → ∀ (g : Nat → Nat) (H : Heap) (locs : List Loc), va_P (dC, dI) vwCl (wm ca ad t k v g n kd ln w nw ins sn) H → va_D A (wm ca ad t k v g n kd ln w nw ins sn) → va_S A s.heap H locs → (∀ j, p0 ≤ j → j < i0 → ¬ v (b j) ≤ v i0) → (∀ j, j < p0 → g j = b j) → (∀ j, p0 < j → j ≤ i0 → g j = b (j - 1)) → ∀ (ls : Array Slot), lv_has ls 3 [(0, .ref (ad 0)), (1, .int (nI i0)), (2, .int (nI p0))] → W p l e (headSpec wsX0_placeBySize ({ frames := 0, cells := 0, slots := 0, locals := 0 })).room s m ([.ref (ad 0), .int (nI i0)] : List Value).toArray below meth c H locs 0 0 (MQ below (va_Qv (fun u : Nat → Nat => qc_ins v b i0 u) (fun u t9 => wmAt dC dI ca ad A t k v u n kd ln w nw ins sn t9) A) ([.ref (ad 0), .int (nI i0)] : List Value).toArray s 0 0 A) (F0 m 2 ls []) := by
    intro p0
    induction p0 with
    | zero =>
      intro hi g H locs hP hD hS h3 h4 h5 ls hl
      refine lv_iload_n hx hb dX0_placeBySize_2 rfl (lv_at hl 2 rfl) ?_
      refine lv_if_le (tgt := 48) hx hb dX0_placeBySize_3 (by decide) (fun c_1 => ?_) (fun c_1 => ?_)
      · refine lv_aload_n hx hb dX0_placeBySize_48 rfl (lv_at hl 0 rfl) ?_
        refine va_get (D := (dC, dI)) (ci := 0) (v := .ref (ad 4)) (C := RX0) (T := TX0) (N := 11) hx hb hts hin0 hown hK hP 0 rfl rfl 3 (by decide) fl_19 (fun _ h9 => h9) rfl dX0_placeBySize_49 ?_
        refine lv_iload_n hx hb dX0_placeBySize_52 rfl (lv_at hl 2 rfl) ?_
        refine lv_iload_n hx hb dX0_placeBySize_53 rfl (lv_at hl 1 rfl) ?_
        refine ya_iast hx hb hK hP hD hS 4 3 rfl rfl (j := 0) (by decide) (by decide) dX0_placeBySize_54 (fun H locs hP hD hS => ?_)
        rw [vu_upd] at hP hD
        have hD : va_D A (wm ca ad t k v (vu g 0 i0) n kd ln w nw ins sn) := hD
        have hP : va_P (dC, dI) vwCl (wm ca ad t k v (vu g 0 i0) n kd ln w nw ins sn) H := hP
        exact W.vret hx hb hr (fun t9 ht hW => ⟨⟨_, rfl, qc_ins_end (by omega) (Or.inl rfl) h3 h4 h5, by rw [ht]; exact hP, va_K.moved hW.alike hK, hD⟩, hS.F ht⟩) hS.2.2 dX0_placeBySize_55
      · exact absurd (by decide) c_1
    | succ p0 ih =>
      intro hi g H locs hP hD hS h3 h4 h5 ls hl
      have hg : g p0 = b p0 := h4 p0 (by omega)
      have hgl : g p0 < 300 := by rw [hg]; exact Nat.lt_trans (hbn p0 (by omega)) hi0
      refine lv_iload_n hx hb dX0_placeBySize_2 rfl (lv_at hl 2 rfl) ?_
      refine lv_if_le (tgt := 48) hx hb dX0_placeBySize_3 (by decide) (fun c_2 => ?_) (fun c_2 => ?_)
      · exact absurd c_2 (nI_nle (by omega) (by omega))
      · refine lv_aload_n hx hb dX0_placeBySize_6 rfl (lv_at hl 0 rfl) ?_
        refine va_get (D := (dC, dI)) (ci := 0) (v := .ref (ad 3)) (C := RX0) (T := TX0) (N := 11) hx hb hts hin0 hown hK hP 0 rfl rfl 2 (by decide) fl_16 (fun _ h9 => h9) rfl dX0_placeBySize_7 ?_
        refine lv_aload_n hx hb dX0_placeBySize_10 rfl (lv_at hl 0 rfl) ?_
        refine va_get (D := (dC, dI)) (ci := 0) (v := .ref (ad 4)) (C := RX0) (T := TX0) (N := 11) hx hb hts hin0 hown hK hP 0 rfl rfl 3 (by decide) fl_19 (fun _ h9 => h9) rfl dX0_placeBySize_11 ?_
        refine lv_iload_n hx hb dX0_placeBySize_14 rfl (lv_at hl 2 rfl) ?_
        refine lv_iconst (v := 1) hx hb dX0_placeBySize_15 (by decide) ?_
        refine lv_isub hx hb dX0_placeBySize_16 ?_
        rw [nI_pred p0]
        refine ya_iald hx hb hK hP 4 3 rfl rfl (j := p0) (by omega) (by decide) dX0_placeBySize_17 ?_
        refine ya_iald hx hb hK hP 3 2 rfl rfl (j := (g p0)) hgl (by decide) dX0_placeBySize_18 ?_
        refine lv_aload_n hx hb dX0_placeBySize_19 rfl (lv_at hl 0 rfl) ?_
        refine va_get (D := (dC, dI)) (ci := 0) (v := .ref (ad 3)) (C := RX0) (T := TX0) (N := 11) hx hb hts hin0 hown hK hP 0 rfl rfl 2 (by decide) fl_16 (fun _ h9 => h9) rfl dX0_placeBySize_20 ?_
        refine lv_iload_n hx hb dX0_placeBySize_23 rfl (lv_at hl 1 rfl) ?_
        refine ya_iald hx hb hK hP 3 2 rfl rfl (j := i0) hi0 (by decide) dX0_placeBySize_24 ?_
        refine lv_icmp_le (tgt := 48) hx hb dX0_placeBySize_25 (by decide) (fun c_3 => ?_) (fun c_3 => ?_)
        · refine lv_aload_n hx hb dX0_placeBySize_48 rfl (lv_at hl 0 rfl) ?_
          refine va_get (D := (dC, dI)) (ci := 0) (v := .ref (ad 4)) (C := RX0) (T := TX0) (N := 11) hx hb hts hin0 hown hK hP 0 rfl rfl 3 (by decide) fl_19 (fun _ h9 => h9) rfl dX0_placeBySize_49 ?_
          refine lv_iload_n hx hb dX0_placeBySize_52 rfl (lv_at hl 2 rfl) ?_
          refine lv_iload_n hx hb dX0_placeBySize_53 rfl (lv_at hl 1 rfl) ?_
          refine ya_iast hx hb hK hP hD hS 4 3 rfl rfl (j := (p0 + 1)) (by omega) (by decide) dX0_placeBySize_54 (fun H locs hP hD hS => ?_)
          rw [vu_upd] at hP hD
          have hD : va_D A (wm ca ad t k v (vu g (p0 + 1) i0) n kd ln w nw ins sn) := hD
          have hP : va_P (dC, dI) vwCl (wm ca ad t k v (vu g (p0 + 1) i0) n kd ln w nw ins sn) H := hP
          exact W.vret hx hb hr (fun t9 ht hW => ⟨⟨_, rfl, qc_ins_end (by omega) (Or.inr (by rw [show p0 + 1 - 1 = p0 from rfl, ← hg]; exact c_3)) h3 h4 h5, by rw [ht]; exact hP, va_K.moved hW.alike hK, hD⟩, hS.F ht⟩) hS.2.2 dX0_placeBySize_55
        · refine lv_aload_n hx hb dX0_placeBySize_28 rfl (lv_at hl 0 rfl) ?_
          refine va_get (D := (dC, dI)) (ci := 0) (v := .ref (ad 4)) (C := RX0) (T := TX0) (N := 11) hx hb hts hin0 hown hK hP 0 rfl rfl 3 (by decide) fl_19 (fun _ h9 => h9) rfl dX0_placeBySize_29 ?_
          refine lv_iload_n hx hb dX0_placeBySize_32 rfl (lv_at hl 2 rfl) ?_
          refine lv_aload_n hx hb dX0_placeBySize_33 rfl (lv_at hl 0 rfl) ?_
          refine va_get (D := (dC, dI)) (ci := 0) (v := .ref (ad 4)) (C := RX0) (T := TX0) (N := 11) hx hb hts hin0 hown hK hP 0 rfl rfl 3 (by decide) fl_19 (fun _ h9 => h9) rfl dX0_placeBySize_34 ?_
          refine lv_iload_n hx hb dX0_placeBySize_37 rfl (lv_at hl 2 rfl) ?_
          refine lv_iconst (v := 1) hx hb dX0_placeBySize_38 (by decide) ?_
          refine lv_isub hx hb dX0_placeBySize_39 ?_
          rw [nI_pred p0]
          refine ya_iald hx hb hK hP 4 3 rfl rfl (j := p0) (by omega) (by decide) dX0_placeBySize_40 ?_
          refine ya_iast hx hb hK hP hD hS 4 3 rfl rfl (j := (p0 + 1)) (by omega) (by decide) dX0_placeBySize_41 (fun H locs hP hD hS => ?_)
          rw [vu_upd] at hP hD
          have hD : va_D A (wm ca ad t k v (vu g (p0 + 1) (g p0)) n kd ln w nw ins sn) := hD
          have hP : va_P (dC, dI) vwCl (wm ca ad t k v (vu g (p0 + 1) (g p0)) n kd ln w nw ins sn) H := hP
          refine lv_iinc (v := (nI p0)) (lv' := [(2, .int (nI p0)), (0, .ref (ad 0)), (1, .int (nI i0))]) hx hb dX0_placeBySize_42 hl (k := 2) rfl (yn_dec _) (by decide) rfl (fun ls hl => ?_)
          refine lv_goto (tgt := 2) hx hb dX0_placeBySize_45 (by decide) ?_
          exact ih (by omega) _ _ _ hP hD hS (fun j g1 g2 => by
            rcases Nat.lt_or_ge p0 j with g3 | g3
            · exact h3 j g3 g2
            · obtain rfl : j = p0 := by omega
              rw [← hg]; exact c_3) (fun j g1 => by rw [vu_other (by omega)]; exact h4 j (by omega)) (fun j g1 g2 => by
            by_cases g3 : j = p0 + 1
            · subst g3; rw [vu_same, hg]; rfl
            · rw [vu_other g3]; exact h5 j (by omega) g2) ls (lv_sub hl [1, 2, 0] rfl)
  exact loop i0 (Nat.le_refl i0) _ _ _ hP hD hS (fun j g1 g2 => absurd g2 (by omega)) (fun j _ => rfl) (fun j g1 g2 => absurd g2 (by omega)) ls (lv_sub hl [1, 2, 0] rfl)
