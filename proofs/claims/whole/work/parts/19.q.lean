/-! the order by size: a row of numbers 0 .. n - 1, each once, their values going up -/
def pb_ok (b : Nat → Nat) (n : Nat) : Prop := ((List.range n).map b).Perm (List.range n)
def pb_so (v : Nat → Int32) (b : Nat → Nat) (n : Nat) : Prop := ∀ i j, i ≤ j → j < n → v (b i) ≤ v (b j)
theorem pb_lt {b : Nat → Nat} {n : Nat} (h : pb_ok b n) : ∀ j, j < n → b j < n := fun j hj => List.mem_range.mp ((List.Perm.mem_iff h).mp (List.mem_map.mpr ⟨j, List.mem_range.mpr hj, rfl⟩))
theorem pb_0 (b : Nat → Nat) : pb_ok b 0 := List.Perm.refl _
theorem pb_so0 (v : Nat → Int32) (b : Nat → Nat) : pb_so v b 0 := fun _ j _ h => absurd h (Nat.not_lt_zero j)
theorem pb_ins {v : Nat → Int32} {b u : Nat → Nat} {n : Nat} (h : pb_ok b n) (hi : qc_ins v b n u) : pb_ok u (n + 1) := by
  obtain ⟨p, hp, -, -, h4, h5, h6⟩ := hi
  obtain ⟨d, rfl⟩ : ∃ d, n = p + d := ⟨n - p, by omega⟩
  have e1 : (List.range (p + d)).map b = (List.range p).map b ++ (List.range d).map (fun x => b (p + x)) := by
    rw [List.range_add, List.map_append, List.map_map]; rfl
  have e2 : (List.range (p + d + 1)).map u = (List.range p).map b ++ (p + d) :: (List.range d).map (fun x => b (p + x)) := by
    rw [Nat.add_assoc, List.range_add, List.map_append, List.map_map, List.range_succ_eq_map, List.map_cons, List.map_map]
    congr 1
    · exact List.map_congr_left (fun x hx => h4 x (List.mem_range.mp hx))
    · congr 1
      exact List.map_congr_left (fun x hx => by
        have hx := List.mem_range.mp hx
        show u (p + (x + 1)) = b (p + x)
        rw [h6 (p + (x + 1)) (by omega) (by omega)]
        congr 1)
  unfold pb_ok at h ⊢
  rw [e1] at h
  rw [e2, List.range_succ]
  exact List.perm_middle.trans ((List.Perm.cons _ h).trans (List.perm_append_singleton _ _).symm)
theorem pb_so_ins {v v' : Nat → Int32} {b u : Nat → Nat} {n : Nat} (hb : ∀ j, j < n → b j < n) (hv : ∀ j, j ≤ n → v' j = v j) (hs : pb_so v b n) (hi : qc_ins v b n u) : pb_so v' u (n + 1) := by
  obtain ⟨p, hp, h2, h3, h4, h5, h6⟩ := hi
  have low : ∀ i, i < p → v' (u i) ≤ v n := fun i hi => by
    rw [h4 i hi, hv _ (Nat.le_of_lt (hb i (by omega)))]
    rcases h2 with h2 | h2
    · omega
    · exact Int32.le_trans (hs i (p - 1) (by omega) (by omega)) h2
  have high : ∀ i, p < i → i ≤ n → v n ≤ v' (u i) := fun i g1 g2 => by
    rw [h6 i g1 g2, hv _ (Nat.le_of_lt (hb _ (by omega)))]
    exact Int32.le_of_lt (Int32.not_le.mp (h3 (i - 1) (by omega) (by omega)))
  have mid : v' (u p) = v n := by rw [h5, hv n (Nat.le_refl n)]
  intro i j hij hj
  rcases Nat.lt_trichotomy i p with a | a | a
  · rcases Nat.lt_trichotomy j p with c | c | c
    · rw [h4 i a, h4 j c, hv _ (Nat.le_of_lt (hb i (by omega))), hv _ (Nat.le_of_lt (hb j (by omega)))]
      exact hs i j hij (by omega)
    · subst c; rw [mid]; exact low i a
    · exact Int32.le_trans (low i a) (high j c (by omega))
  · subst a
    rcases Nat.lt_or_ge i j with c | c
    · rw [mid]; exact high j c (by omega)
    · obtain rfl : j = i := by omega
      exact Int32.le_refl _
  · rw [h6 i a (by omega), h6 j (by omega) (by omega), hv _ (Nat.le_of_lt (hb _ (by omega))), hv _ (Nat.le_of_lt (hb _ (by omega)))]
    exact hs (i - 1) (j - 1) (by omega) (by omega)
/-- counting along the order is counting along the row -/
theorem pb_count {b : Nat → Nat} {n : Nat} (h : pb_ok b n) (P : Nat → Bool) : (List.range n).countP (fun q => P (b q)) = (List.range n).countP P := by
  have e := List.Perm.countP_eq P h
  rw [List.countP_map] at e
  exact e
/-- where a row of truths begins with its trues, their number tells them -/
theorem pb_pre {P : Nat → Bool} : ∀ n, (∀ i j, i ≤ j → j < n → P j = true → P i = true) → ∀ q, q < n → (P q = true ↔ q < (List.range n).countP P)
  | 0, _, q, h => absurd h (Nat.not_lt_zero q)
  | n + 1, hm, q, h => by
    rw [List.range_succ, List.countP_append, List.countP_singleton]
    by_cases e : P n = true
    · have all : ∀ i, i ≤ n → P i = true := fun i hi => hm i n hi (Nat.lt_succ_self n) e
      have l : (List.range n).countP P = n := by
        have := List.countP_eq_length.mpr (fun x (hx : x ∈ List.range n) => all x (Nat.le_of_lt (List.mem_range.mp hx)))
        rw [this, List.length_range]
      rw [l, if_pos e]
      exact ⟨fun _ => h, fun _ => all q (by omega)⟩
    · rw [if_neg e]
      have l := List.countP_le_length (p := P) (l := List.range n)
      rw [List.length_range] at l
      by_cases c : q = n
      · subst c; exact ⟨fun g => absurd g e, fun g => absurd g (by omega)⟩
      · exact pb_pre n (fun i j hij hj => hm i j hij (by omega)) q (by omega)
theorem pl_countP (v : Nat → Int32) (x : Int32) : ∀ n, qc_pl v x n = (List.range n).countP (fun j => decide (v j ≤ x))
  | 0 => rfl
  | n + 1 => by
    rw [qc_pl, List.range_succ, List.countP_append, List.countP_singleton, pl_countP v x n]
    by_cases e : x < v n
    · rw [if_pos e, if_neg (by simpa using Int32.not_le.mpr e)]; rfl
    · rw [if_neg e, if_pos (by simpa using Int32.not_lt.mp e)]
/-- the place that placeBySize counts is the place in the order -/
theorem put_ins {v : Nat → Int32} {b u : Nat → Nat} {n : Nat} (hb : pb_ok b n) (hs : pb_so v b n) (h : qc_put v b n u) : qc_ins v b n u := by
  obtain ⟨p, hp, h4, h5, h6⟩ := h
  have e : p = (List.range n).countP (fun q => decide (v (b q) ≤ v n)) := by
    rw [hp, pl_countP]
    exact (pb_count hb (fun j => decide (v j ≤ v n))).symm
  have key := pb_pre (P := fun q => decide (v (b q) ≤ v n)) n (fun i j hij hj g => decide_eq_true (Int32.le_trans (hs i j hij hj) (of_decide_eq_true g)))
  rw [← e] at key
  have hle : p ≤ n := by rw [hp]; exact qc_pl_le v (v n) n
  refine ⟨p, hle, ?_, fun j g1 g2 g3 => ?_, h4, h5, h6⟩
  · rcases Nat.eq_zero_or_pos p with z | z
    · exact Or.inl z
    · exact Or.inr (of_decide_eq_true ((key (p - 1) (by omega)).mpr (by omega)))
  · exact absurd ((key j g2).mp (decide_eq_true g3)) (by omega)
/-! the values of a window as lists: in the order of arrival (wl), in the order of size (wb); what is told of them hangs on the list up to order -/
def wl (v f : Nat → Int32) (n : Nat) : List Int32 := ((List.range n).filter (fun i => decide (f i ≠ 0))).map v
def wb (v : Nat → Int32) (b : Nat → Nat) (f : Nat → Int32) (n : Nat) : List Int32 := ((List.range n).filter (fun q => decide (f (b q) ≠ 0))).map (fun q => v (b q))
theorem wl_0 (v f : Nat → Int32) : wl v f 0 = [] := rfl
theorem wl_s (v f : Nat → Int32) (n : Nat) : wl v f (n + 1) = if f n = 0 then wl v f n else wl v f n ++ [v n] := by
  unfold wl
  rw [List.range_succ, List.filter_append, List.map_append]
  by_cases h : f n = 0
  · simp [h]
  · simp [h]
theorem wb_0 (v : Nat → Int32) (b : Nat → Nat) (f : Nat → Int32) : wb v b f 0 = [] := rfl
theorem wb_s (v : Nat → Int32) (b : Nat → Nat) (f : Nat → Int32) (n : Nat) : wb v b f (n + 1) = if f (b n) = 0 then wb v b f n else wb v b f n ++ [v (b n)] := by
  unfold wb
  rw [List.range_succ, List.filter_append, List.map_append]
  by_cases h : f (b n) = 0
  · simp [h]
  · simp [h]
theorem wb_perm {v : Nat → Int32} {b : Nat → Nat} {f : Nat → Int32} {n : Nat} (h : pb_ok b n) : (wb v b f n).Perm (wl v f n) := by
  have e : wb v b f n = (((List.range n).map b).filter (fun i => decide (f i ≠ 0))).map v := by
    unfold wb
    rw [List.filter_map, List.map_map]
    rfl
  rw [e]
  exact List.Perm.map v (List.Perm.filter _ h)
theorem wb_mem {v : Nat → Int32} {b : Nat → Nat} {f : Nat → Int32} {n : Nat} {x : Int32} : x ∈ wb v b f n ↔ ∃ q, q < n ∧ f (b q) ≠ 0 ∧ v (b q) = x := by
  unfold wb
  simp only [List.mem_map, List.mem_filter, List.mem_range, decide_eq_true_eq]
  constructor
  · rintro ⟨q, ⟨h1, h2⟩, h3⟩; exact ⟨q, h1, h2, h3⟩
  · rintro ⟨q, h1, h2, h3⟩; exact ⟨q, ⟨h1, h2⟩, h3⟩
theorem wl_mem {v f : Nat → Int32} {n : Nat} {x : Int32} : x ∈ wl v f n ↔ ∃ q, q < n ∧ f q ≠ 0 ∧ v q = x := by
  unfold wl
  simp only [List.mem_map, List.mem_filter, List.mem_range, decide_eq_true_eq]
  constructor
  · rintro ⟨q, ⟨h1, h2⟩, h3⟩; exact ⟨q, h1, h2, h3⟩
  · rintro ⟨q, h1, h2, h3⟩; exact ⟨q, ⟨h1, h2⟩, h3⟩
theorem wb_le {v : Nat → Int32} {b : Nat → Nat} {f : Nat → Int32} {n p : Nat} (hs : pb_so v b n) (hp : p < n) : ∀ x ∈ wb v b f p, x ≤ v (b p) := by
  intro x hx
  obtain ⟨q, h1, -, rfl⟩ := wb_mem.mp hx
  exact hs q p (Nat.le_of_lt h1) hp
/-- how many unlike ones a list has -/
def nd : List Int32 → Nat
  | [] => 0
  | a :: l => if a ∈ l then nd l else nd l + 1
theorem nd_perm {l l' : List Int32} (h : l.Perm l') : nd l = nd l' := by
  induction h with
  | nil => rfl
  | @cons a l1 l2 h ih =>
    show (if a ∈ l1 then nd l1 else nd l1 + 1) = if a ∈ l2 then nd l2 else nd l2 + 1
    by_cases q : a ∈ l1
    · rw [if_pos q, if_pos (h.mem_iff.mp q), ih]
    · rw [if_neg q, if_neg (fun g => q (h.mem_iff.mpr g)), ih]
  | swap a c l =>
    show nd (c :: a :: l) = nd (a :: c :: l)
    by_cases e : a = c
    · subst e; rfl
    · have e' : ¬ c = a := fun h => e h.symm
      simp only [nd, List.mem_cons, e, e', false_or]
      by_cases h1 : a ∈ l <;> by_cases h2 : c ∈ l <;> simp [h1, h2]
  | trans _ _ ih1 ih2 => exact ih1.trans ih2
theorem nd_snoc (l : List Int32) (a : Int32) : nd (l ++ [a]) = if a ∈ l then nd l else nd l + 1 := nd_perm (List.perm_append_singleton a l)
/-- countUnlike counts the unlike ones -/
theorem unl_spec {v : Nat → Int32} {b : Nat → Nat} {f : Nat → Int32} {n : Nat} (hs : pb_so v b n) : ∀ p, p ≤ n → (qc_unl v b f p).1 = nd (wb v b f p) ∧ ((qc_unl v b f p).2 = none → wb v b f p = []) ∧ (∀ j, (qc_unl v b f p).2 = some j → v j ∈ wb v b f p ∧ ∀ x ∈ wb v b f p, x ≤ v j) := by
  intro p
  induction p with
  | zero => intro _; exact ⟨rfl, fun _ => rfl, fun j h => (by cases h)⟩
  | succ p ih =>
    intro hp
    obtain ⟨h1, h2, h3⟩ := ih (by omega)
    rw [wb_s]
    by_cases hf : f (b p) = 0
    · rw [qc_unl, if_pos hf, if_pos hf]; exact ⟨h1, h2, h3⟩
    · rw [qc_unl, if_neg hf, if_neg hf]
      have hle := wb_le (f := f) hs (show p < n by omega)
      have hlast : v (b p) ∈ wb v b f p ++ [v (b p)] ∧ ∀ x ∈ wb v b f p ++ [v (b p)], x ≤ v (b p) := ⟨List.mem_append_right _ (List.mem_singleton.mpr rfl), fun x hx => by
          rcases List.mem_append.mp hx with g | g
          · exact hle x g
          · rw [List.mem_singleton.mp g]; exact Int32.le_refl _⟩
      refine ⟨?_, fun h => (by cases h), fun j h => (by cases h; exact hlast)⟩
      rw [nd_snoc]
      cases hl : (qc_unl v b f p).2 with
      | none => rw [h2 hl]; simp [h1, h2 hl]
      | some j =>
        obtain ⟨g1, g2⟩ := h3 j hl
        by_cases e : v (b p) = v j
        · rw [if_pos (by rw [e]; exact g1)]; simp [e, h1]
        · rw [if_neg (fun g => e (Int32.le_antisymm (g2 _ g) (hle _ g1)))]; simp [e, h1]
/-- findMostFrequent finds the most frequent one, of several the least -/
def mfq (l : List Int32) (x : Int32) (c : Nat) : Prop := l.count x = c ∧ (∀ y, l.count y ≤ c) ∧ ∀ y, y < x → l.count y < c
theorem count_snoc (l : List Int32) (a y : Int32) : (l ++ [a]).count y = l.count y + if a = y then 1 else 0 := by
  rw [List.count_append, List.count_singleton]
  by_cases h : a = y
  · simp [h]
  · simp [h]
theorem fmf_spec {v : Nat → Int32} {b : Nat → Nat} {f : Nat → Int32} {n : Nat} (hs : pb_so v b n) : ∀ p, p ≤ n →
    ((qc_fmf v b f p).1 = none → wb v b f p = [] ∧ (qc_fmf v b f p).2.1 = 0) ∧ (∀ j, (qc_fmf v b f p).1 = some j → mfq (wb v b f p) (v j) (qc_fmf v b f p).2.1 ∧ 0 < (qc_fmf v b f p).2.1) ∧
    ((qc_fmf v b f p).2.2.1 = none → wb v b f p = []) ∧ (∀ j, (qc_fmf v b f p).2.2.1 = some j → (wb v b f p).count (v j) = (qc_fmf v b f p).2.2.2 ∧ v j ∈ wb v b f p ∧ ∀ x ∈ wb v b f p, x ≤ v j) := by
  intro p
  induction p with
  | zero => intro _; exact ⟨fun _ => ⟨rfl, rfl⟩, fun j h => (by cases h), fun _ => rfl, fun j h => (by cases h)⟩
  | succ p ih =>
    intro hp
    obtain ⟨h1, h2, h3, h4⟩ := ih (by omega)
    rw [wb_s]
    by_cases hf : f (b p) = 0
    · rw [qc_fmf, if_pos hf, if_pos hf]; exact ⟨h1, h2, h3, h4⟩
    · rw [qc_fmf, if_neg hf, if_neg hf]
      have hle := wb_le (f := f) hs (show p < n by omega)
      dsimp only
      have hlast : v (b p) ∈ wb v b f p ++ [v (b p)] ∧ ∀ x ∈ wb v b f p ++ [v (b p)], x ≤ v (b p) := ⟨List.mem_append_right _ (List.mem_singleton.mpr rfl), fun x hx => by
          rcases List.mem_append.mp hx with g | g
          · exact hle x g
          · rw [List.mem_singleton.mp g]; exact Int32.le_refl _⟩
      obtain ⟨o, ho⟩ : ∃ o : Nat, o = qc_oft v (v (b p)) (qc_fmf v b f p).2.2.1 (qc_fmf v b f p).2.2.2 := ⟨_, rfl⟩
      rw [← ho]
      have hco : (wb v b f p ++ [v (b p)]).count (v (b p)) = o := by
        rw [count_snoc, if_pos rfl, ho]
        cases hl : (qc_fmf v b f p).2.2.1 with
        | none => rw [h3 hl]; rfl
        | some j =>
          obtain ⟨g1, g2, g3⟩ := h4 j hl
          show _ = if v (b p) = v j then (qc_fmf v b f p).2.2.2 + 1 else 1
          by_cases e : v (b p) = v j
          · rw [if_pos e, e, g1]
          · rw [if_neg e, List.count_eq_zero_of_not_mem (fun g => e (Int32.le_antisymm (g3 _ g) (hle _ g2)))]
      have hpos : 0 < o := by rw [← hco]; exact List.count_pos_iff.mpr hlast.1
      have hall : ∀ y, (wb v b f p).count y ≤ (qc_fmf v b f p).2.1 := by
        cases hm : (qc_fmf v b f p).1 with
        | none => intro y; rw [(h1 hm).1]; exact Nat.zero_le _
        | some j => exact (h2 j hm).1.2.1
      by_cases hb : (qc_fmf v b f p).2.1 < o
      · rw [if_pos hb]
        refine ⟨fun h => (by cases h), fun j h => ?_, fun h => (by cases h), fun j h => ?_⟩
        · cases h
          refine ⟨⟨hco, fun y => ?_, fun y hy => ?_⟩, hpos⟩
          · rw [count_snoc]
            by_cases e : v (b p) = y
            · subst e; rw [← count_snoc, hco]; exact Nat.le_refl _
            · rw [if_neg e]; exact Nat.le_trans (hall y) (Nat.le_of_lt hb)
          · rw [count_snoc, if_neg (fun e => Int32.lt_irrefl (e ▸ hy))]
            exact Nat.lt_of_le_of_lt (hall y) hb
        · cases h; exact ⟨hco, hlast⟩
      · rw [if_neg hb]
        refine ⟨fun h => ?_, fun j h => ?_, fun h => (by cases h), fun j h => ?_⟩
        · exact absurd (Nat.lt_of_le_of_lt (Nat.le_of_eq (h1 h).2) hpos) hb
        · obtain ⟨⟨g1, g2, g3⟩, g4⟩ := h2 j h
          have hne : ¬ v (b p) = v j := fun e => by
            have : o = (qc_fmf v b f p).2.1 + 1 := by rw [← hco, count_snoc, if_pos rfl, e, g1]
            omega
          refine ⟨⟨?_, fun y => ?_, fun y hy => ?_⟩, g4⟩
          · rw [count_snoc, if_neg hne]; exact g1
          · rw [count_snoc]
            by_cases e : v (b p) = y
            · subst e; rw [← count_snoc, hco]; exact Nat.not_lt.mp hb
            · rw [if_neg e]; exact g2 y
          · rw [count_snoc]
            by_cases e : v (b p) = y
            · exfalso
              subst e
              have hjm : v j ∈ wb v b f p := List.count_pos_iff.mp (by rw [g1]; exact g4)
              exact Int32.lt_irrefl (Int32.lt_of_lt_of_le hy (hle _ hjm))
            · rw [if_neg e]; exact g3 y hy
        · cases h; exact ⟨hco, hlast⟩
theorem cnb_len (v : Nat → Int32) (b : Nat → Nat) (f : Nat → Int32) : ∀ p, qc_cnb b f p = (wb v b f p).length
  | 0 => rfl
  | p + 1 => by
    have ih := cnb_len v b f p
    rw [qc_cnb, wb_s]
    by_cases h : f (b p) = 0
    · rw [if_pos h, if_pos h]; exact ih
    · rw [if_neg h, if_neg h, List.length_append, ih]; rfl
theorem wb_split {v : Nat → Int32} {b : Nat → Nat} {f : Nat → Int32} {n q : Nat} (hs : pb_so v b n) (hf : f (b q) ≠ 0) : ∀ m, q < m → m ≤ n → ∃ tl, wb v b f m = wb v b f q ++ v (b q) :: tl ∧ ∀ x ∈ tl, v (b q) ≤ x := by
  intro m
  induction m with
  | zero => intro h; exact absurd h (Nat.not_lt_zero q)
  | succ m ih =>
    intro h1 h2
    by_cases e : q = m
    · subst e
      exact ⟨[], by rw [wb_s, if_neg hf], fun x hx => absurd hx List.not_mem_nil⟩
    · obtain ⟨tl, g1, g2⟩ := ih (by omega) (by omega)
      rw [wb_s]
      by_cases hm : f (b m) = 0
      · rw [if_pos hm]; exact ⟨tl, g1, g2⟩
      · rw [if_neg hm]
        refine ⟨tl ++ [v (b m)], by rw [g1, List.append_assoc]; rfl, fun x hx => ?_⟩
        rcases List.mem_append.mp hx with g | g
        · exact g2 x g
        · rw [List.mem_singleton.mp g]; exact hs q m (by omega) (by omega)
/-- the k-th by size: below it at most k, not above it more than k -/
def isk (l : List Int32) (x : Int32) (k : Nat) : Prop := l.countP (fun y => decide (y < x)) ≤ k ∧ k < l.countP (fun y => decide (y ≤ x))
theorem isk_uniq {l : List Int32} {x y : Int32} {k : Nat} (h1 : isk l x k) (h2 : isk l y k) : x = y := by
  have key : ∀ a c : Int32, isk l a k → isk l c k → ¬ a < c := by
    intro a c ha hc hac
    have : l.countP (fun z => decide (z ≤ a)) ≤ l.countP (fun z => decide (z < c)) := List.countP_mono_left (fun z _ hz => decide_eq_true (Int32.lt_of_le_of_lt (of_decide_eq_true hz) hac))
    have := ha.2
    have := hc.1
    omega
  exact Int32.le_antisymm (Int32.not_lt.mp (key y x h2 h1)) (Int32.not_lt.mp (key x y h1 h2))
theorem isk_perm {l l' : List Int32} {x : Int32} {k : Nat} (h : l.Perm l') (hk : isk l x k) : isk l' x k := ⟨by rw [← h.countP_eq]; exact hk.1, by rw [← h.countP_eq]; exact hk.2⟩
theorem kth_in {v : Nat → Int32} {b : Nat → Nat} {f : Nat → Int32} {n q : Nat} (hs : pb_so v b n) (hq : q < n) (hf : f (b q) ≠ 0) : isk (wb v b f n) (v (b q)) (qc_cnb b f q) ∧ qc_cnb b f q < (wb v b f n).length := by
  obtain ⟨tl, e, ht⟩ := wb_split hs hf n hq (Nat.le_refl n)
  have hle := wb_le (f := f) hs hq
  rw [cnb_len v, e]
  refine ⟨⟨?_, ?_⟩, by simp⟩
  · have z : tl.countP (fun y => decide (y < v (b q))) = 0 := List.countP_eq_zero.mpr (fun x hx => by simpa using Int32.not_lt.mpr (ht x hx))
    have z2 := List.countP_le_length (p := fun y => decide (y < v (b q))) (l := wb v b f q)
    rw [List.countP_append, List.countP_cons, z, if_neg (by simp [Int32.lt_irrefl])]
    omega
  · have z : (wb v b f q).countP (fun y => decide (y ≤ v (b q))) = (wb v b f q).length := List.countP_eq_length.mpr (fun x hx => decide_eq_true (hle x hx))
    rw [List.countP_append, List.countP_cons, z, if_pos (decide_eq_true (Int32.le_refl _))]
    omega
theorem kth_all {v : Nat → Int32} {b : Nat → Nat} {f : Nat → Int32} : ∀ (n k : Nat), k < (wb v b f n).length → ∃ q, q < n ∧ f (b q) ≠ 0 ∧ qc_cnb b f q = k
  | 0, k, h => absurd h (Nat.not_lt_zero k)
  | n + 1, k, h => by
    rw [wb_s] at h
    by_cases hf : f (b n) = 0
    · rw [if_pos hf] at h
      obtain ⟨q, h1, h2, h3⟩ := kth_all (v := v) n k h
      exact ⟨q, by omega, h2, h3⟩
    · rw [if_neg hf, List.length_append] at h
      by_cases e : k = (wb v b f n).length
      · exact ⟨n, by omega, hf, by rw [cnb_len v, e]⟩
      · obtain ⟨q, h1, h2, h3⟩ := kth_all (v := v) (b := b) (f := f) n k (by simp at h; omega)
        exact ⟨q, by omega, h2, h3⟩
theorem cnt_len (v f : Nat → Int32) : ∀ n, qc_cnt f n = (wl v f n).length
  | 0 => rfl
  | n + 1 => by
    have ih := cnt_len v f n
    rw [qc_cnt, wl_s]
    by_cases h : f n = 0
    · rw [if_pos h, if_pos h]; exact ih
    · rw [if_neg h, if_neg h, List.length_append, ih]; rfl
theorem eqc_count (v f : Nat → Int32) (x : Int32) : ∀ n, qc_eqc v f x n = (wl v f n).count x
  | 0 => rfl
  | n + 1 => by
    have ih := eqc_count v f x n
    rw [qc_eqc, wl_s]
    by_cases h : f n = 0
    · rw [if_pos h, if_pos h]; exact ih
    · rw [if_neg h, if_neg h, count_snoc]
      by_cases e : v n = x
      · rw [if_pos e, if_pos e, ih]
      · rw [if_neg e, if_neg e, ih]; rfl
