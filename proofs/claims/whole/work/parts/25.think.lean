/-! ===== how the reference thinks of a pen ===== -/
theorem dd_mem : ∀ (l : List Nat) {x : Nat}, x ∈ l → x ∈ dd l
  | [], _, h => h
  | y :: l, x, h => by
    rw [dd]
    by_cases e : x = y
    · exact List.mem_cons.mpr (Or.inl e)
    · rcases List.mem_cons.mp h with q | q
      · exact absurd q e
      · exact List.mem_cons.mpr (Or.inr (List.mem_filter.mpr ⟨dd_mem l q, decide_eq_true e⟩))
theorem dd_nodup : ∀ l : List Nat, (dd l).Nodup
  | [] => List.nodup_nil
  | x :: l => by
    rw [dd]
    exact List.nodup_cons.mpr ⟨fun h => absurd rfl (of_decide_eq_true (List.mem_filter.mp h).2), (dd_nodup l).filter _⟩
theorem dd_app : ∀ (l : List Nat) (x : Nat), dd (l ++ [x]) = if x ∈ l then dd l else dd l ++ [x]
  | [], x => rfl
  | y :: l, x => by
    rw [List.cons_append, dd, dd, dd_app l x]
    by_cases h : x ∈ l
    · rw [if_pos h, if_pos (List.mem_cons_of_mem _ h)]
    · rw [if_neg h]
      by_cases e : x = y
      · rw [if_pos (List.mem_cons.mpr (Or.inl e)), List.filter_append]
        simp [e]
      · rw [if_neg (by simp [e, h]), List.filter_append]
        simp [e]
theorem flt_self {x : Nat} {l : List Nat} (h : x ∉ l) : l.filter (fun y => decide (y ≠ x)) = l := List.filter_eq_self.mpr (fun a ha => decide_eq_true (fun q => h (by rw [← q]; exact ha)))
theorem flt_len {n : Nat} : ∀ {l : List Nat}, l.Nodup → l.length ≤ (l.filter (fun y => decide (y ≠ n))).length + 1
  | [], _ => Nat.zero_le _
  | x :: l, h => by
    have h2 := List.nodup_cons.mp h
    by_cases e : x = n
    · subst e
      rw [List.filter_cons_of_neg (by simp), flt_self h2.1]
      exact Nat.le_refl _
    · rw [List.filter_cons_of_pos (by simp [e])]
      have := flt_len (n := n) h2.2
      simp only [List.length_cons]
      omega
theorem nodup_le : ∀ {n : Nat} {l : List Nat}, l.Nodup → (∀ x ∈ l, x < n) → l.length ≤ n
  | 0, l, _, h => by
    cases l with
    | nil => exact Nat.le_refl 0
    | cons x l => exact absurd (h x (List.mem_cons_self ..)) (Nat.not_lt_zero x)
  | n + 1, l, hd, h => by
    have h1 := flt_len (n := n) hd
    have h2 := nodup_le (n := n) (l := l.filter (fun y => decide (y ≠ n))) (hd.filter _) (fun x hx => by
      have h3 := List.mem_filter.mp hx
      have h4 := h x h3.1
      have h5 := of_decide_eq_true h3.2
      omega)
    omega
theorem dd_len {h : List Nat} {n : Nat} (ha : ∀ x ∈ h, x < n) : (dd h).length ≤ n := nodup_le (dd_nodup h) (fun x hx => ha x (dd_sub h hx))
theorem dd_len1 {h : List Nat} {n x : Nat} (ha : ∀ x ∈ h, x < n) (hx : x < n) (hn : x ∉ h) : (dd h).length + 1 ≤ n := by
  have h1 : (dd (h ++ [x])).length ≤ n := dd_len (fun y hy => by
    rcases List.mem_append.mp hy with q | q
    · exact ha y q
    · rw [List.mem_singleton.mp q]; exact hx)
  rw [dd_app, if_neg hn, List.length_append] at h1
  exact h1
theorem dd_pos {h : List Nat} (h0 : h ≠ []) : 0 < (dd h).length := by
  cases h with
  | nil => exact absurd rfl h0
  | cons x l => rw [dd]; exact Nat.succ_pos _
theorem dd_head (h : List Nat) : (dd h).getD 0 0 = h.getD 0 0 := by
  cases h with
  | nil => rfl
  | cons x l => rfl
/-- the list with t put first, t having stood at f, or nowhere -/
theorem flt_at : ∀ {l : List Nat} {f t : Nat}, l.Nodup → f ≤ l.length → (∀ j, j < f → l.getD j 0 ≠ t) → (f < l.length → l.getD f 0 = t) → (l.filter (fun y => decide (y ≠ t))).length = (if f = l.length then l.length else l.length - 1) ∧ ∀ j, (l.filter (fun y => decide (y ≠ t))).getD j 0 = if j < f then l.getD j 0 else l.getD (j + 1) 0
  | [], f, t, _, hf, _, _ => by
    have : f = 0 := Nat.le_zero.mp hf
    subst this
    exact ⟨rfl, fun j => by simp⟩
  | x :: l, 0, t, hd, _, _, h0 => by
    have e : x = t := h0 (Nat.succ_pos _)
    subst e
    have h2 := List.nodup_cons.mp hd
    rw [List.filter_cons_of_neg (by simp), flt_self h2.1]
    refine ⟨by simp, fun j => ?_⟩
    rw [if_neg (Nat.not_lt_zero j)]
    simp
  | x :: l, f + 1, t, hd, hf, hno, h0 => by
    have e : x ≠ t := hno 0 (Nat.succ_pos _)
    have h2 := List.nodup_cons.mp hd
    have ih := flt_at (l := l) (f := f) (t := t) h2.2 (Nat.le_of_succ_le_succ hf) (fun j hj => by have := hno (j + 1) (Nat.succ_lt_succ hj); simpa using this) (fun hl => by have := h0 (Nat.succ_lt_succ hl); simpa using this)
    rw [List.filter_cons_of_pos (by simp [e])]
    refine ⟨?_, fun j => ?_⟩
    · rw [List.length_cons, ih.1, List.length_cons]
      by_cases q : f = l.length
      · rw [if_pos q, if_pos (by omega)]
      · rw [if_neg q, if_neg (by omega)]
        have : f < l.length := by simp at hf; omega
        omega
    · cases j with
      | zero => simp
      | succ j =>
        rw [List.getD_cons_succ, ih.2 j]
        by_cases q : j < f
        · rw [if_pos q, if_pos (by omega)]; simp
        · rw [if_neg q, if_neg (by omega)]; simp
/-- what bth has told after k -/
theorem bth_stop (P : PK) (l : List Nat) : bth P 0 l = 0 := rfl
theorem bth_drop {P : PK} {n k x : Nat} {l : List Nat} (hk : k < l.length) (hx : l.getD k 0 = x) : bth P (n + 1) (l.drop k) = (if kd P x = 3 then 0 else 2 ^ x) ||| (if kd P x = 2 then 0 else bth P n (l.drop (k + 1))) := by
  rw [List.drop_eq_getElem_cons hk, bth]
  have e : l[k] = x := by rw [← hx, List.getD_eq_getElem?_getD, List.getElem?_eq_getElem hk]; rfl
  rw [e]
theorem take_s {h : List Nat} {m x : Nat} (hm : m < h.length) (hx : h.getD m 0 = x) : h.take (m + 1) = h.take m ++ [x] := by
  rw [List.take_succ_eq_append_getElem hm]
  have e : h[m] = x := by rw [← hx, List.getD_eq_getElem?_getD, List.getElem?_eq_getElem hm]; rfl
  rw [e]
/-- t lendings by a number's figures to the base 5, the first the greatest -/
def lby (P : PK) : Nat → Nat → List Nat → Option (List Nat)
  | 0, _, h => some h
  | t + 1, c, h => if c / 5 ^ t < P.length ∧ mayL P h (c / 5 ^ t) = true then lby P t (c % 5 ^ t) (c / 5 ^ t :: h) else none
theorem range_mul (a m : Nat) : List.range (a * m) = (List.range a).flatMap (fun x => (List.range m).map (fun c => x * m + c)) := by
  induction a with
  | zero => simp
  | succ a ih =>
    rw [List.range_succ, List.flatMap_append, ← ih, Nat.succ_mul, List.range_add]
    simp
theorem fm_congr {α β : Type} {f g : α → Option β} : ∀ {l : List α}, (∀ x ∈ l, f x = g x) → l.filterMap f = l.filterMap g
  | [], _ => rfl
  | x :: l, h => by
    rw [List.filterMap_cons, List.filterMap_cons, h x (List.mem_cons_self ..), fm_congr (fun y hy => h y (List.mem_cons_of_mem _ hy))]
theorem flm_congr {α β : Type} {f g : α → List β} : ∀ {l : List α}, (∀ x ∈ l, f x = g x) → l.flatMap f = l.flatMap g
  | [], _ => rfl
  | x :: l, h => by
    rw [List.flatMap_cons, List.flatMap_cons, h x (List.mem_cons_self ..), flm_congr (fun y hy => h y (List.mem_cons_of_mem _ hy))]
theorem lby_ends {P : PK} (h5 : P.length ≤ 5) : ∀ (t : Nat) (h : List Nat), (List.range (5 ^ t)).filterMap (fun c => lby P t c h) = ends P t h
  | 0, h => rfl
  | t + 1, h => by
    have hp : 0 < 5 ^ t := Nat.pow_pos (by omega)
    rw [Nat.pow_succ, Nat.mul_comm, range_mul, List.filterMap_flatMap, ends]
    have h6 : List.range 5 = List.range P.length ++ (List.range (5 - P.length)).map (fun c => P.length + c) := by
      rw [← List.range_add]; congr 1; omega
    rw [h6, List.flatMap_append]
    have e2 : ((List.range (5 - P.length)).map (fun c => P.length + c)).flatMap (fun x => ((List.range (5 ^ t)).map (fun c => x * 5 ^ t + c)).filterMap (fun c => lby P (t + 1) c h)) = [] := by
      rw [List.flatMap_eq_nil_iff]
      intro x hx
      obtain ⟨y, -, rfl⟩ := List.mem_map.mp hx
      rw [List.filterMap_map, List.filterMap_eq_nil_iff]
      intro c hc
      have hc := List.mem_range.mp hc
      have e : ((P.length + y) * 5 ^ t + c) / 5 ^ t = P.length + y := by
        rw [Nat.mul_comm, Nat.mul_add_div hp, Nat.div_eq_of_lt hc]; rfl
      show lby P (t + 1) ((P.length + y) * 5 ^ t + c) h = none
      rw [lby, e, if_neg (by omega)]
    rw [e2, List.append_nil]
    refine flm_congr (fun x hx => ?_)
    have hx := List.mem_range.mp hx
    rw [List.filterMap_map]
    by_cases hm : mayL P h x = true
    · rw [if_pos hm, ← lby_ends h5 t (x :: h)]
      refine fm_congr (fun c hc => ?_)
      have hc := List.mem_range.mp hc
      have e : (x * 5 ^ t + c) / 5 ^ t = x := by rw [Nat.mul_comm, Nat.mul_add_div hp, Nat.div_eq_of_lt hc]; rfl
      have e3 : (x * 5 ^ t + c) % 5 ^ t = c := by rw [Nat.mul_comm, Nat.mul_add_mod, Nat.mod_eq_of_lt hc]
      show lby P (t + 1) (x * 5 ^ t + c) h = _
      rw [lby, e, e3, if_pos ⟨hx, hm⟩]
    · rw [if_neg hm, List.filterMap_eq_nil_iff]
      intro c hc
      have hc := List.mem_range.mp hc
      have e : (x * 5 ^ t + c) / 5 ^ t = x := by rw [Nat.mul_comm, Nat.mul_add_div hp, Nat.div_eq_of_lt hc]; rfl
      show lby P (t + 1) (x * 5 ^ t + c) h = none
      rw [lby, e, if_neg (fun q => hm q.2)]

/-- of the numbers below 5 ^ t the first whose lendings end so -/
def lok (P : PK) (lim st t : Nat) (h : List Nat) (c : Nat) : Bool := match lby P t c h with
  | none => false
  | some g => decide (bnd P lim g = st)
theorem find_app {α : Type} {p : α → Bool} : ∀ {l m : List α}, (l ++ m).find? p = (l.find? p).or (m.find? p)
  | [], m => by simp
  | x :: l, m => by
    rw [List.cons_append, List.find?_cons, List.find?_cons]
    cases p x with
    | true => rfl
    | false => exact find_app
theorem lok_none {P : PK} {lim st : Nat} (h5 : P.length ≤ 5) : ∀ (t : Nat) (h : List Nat), (∀ c, c < 5 ^ t → lok P lim st t h c = false) ↔ reach P lim st t h = false
  | 0, h => by
    constructor
    · intro q; exact q 0 (by simp)
    · intro q c _; exact q
  | t + 1, h => by
    have hp : 0 < 5 ^ t := Nat.pow_pos (by omega)
    rw [reach, List.any_eq_false]
    constructor
    · intro q x hx
      have hx := List.mem_range.mp hx
      cases hm : mayL P h x with
      | false => simp
      | true =>
        rw [Bool.true_and]
        have h9 := (lok_none (lim := lim) (st := st) h5 t (x :: h)).mp (fun c hc => by
          have e : (x * 5 ^ t + c) / 5 ^ t = x := by rw [Nat.mul_comm, Nat.mul_add_div hp, Nat.div_eq_of_lt hc]; rfl
          have e3 : (x * 5 ^ t + c) % 5 ^ t = c := by rw [Nat.mul_comm, Nat.mul_add_mod, Nat.mod_eq_of_lt hc]
          have hlt : x * 5 ^ t + c < 5 ^ (t + 1) := by
            rw [Nat.pow_succ]
            have : (x + 1) * 5 ^ t ≤ 5 * 5 ^ t := Nat.mul_le_mul_right _ (by omega)
            rw [Nat.succ_mul] at this
            omega
          have h8 := q _ hlt
          unfold lok at h8 ⊢
          rw [lby, e, e3, if_pos ⟨hx, hm⟩] at h8
          exact h8)
        rw [h9]; simp
    · intro q c hc
      unfold lok
      rw [lby]
      by_cases hx : c / 5 ^ t < P.length ∧ mayL P h (c / 5 ^ t) = true
      · rw [if_pos hx]
        have h9 := q _ (List.mem_range.mpr hx.1)
        rw [hx.2, Bool.true_and] at h9
        have h9 : reach P lim st t (c / 5 ^ t :: h) = false := by simpa using h9
        exact (lok_none h5 t (c / 5 ^ t :: h)).mpr h9 _ (Nat.mod_lt _ hp)
      · rw [if_neg hx]
/-- the first such number's first figure is the first to whom one may lend so -/
theorem lok_fst {P : PK} {lim st t c : Nat} {h : List Nat} (h5 : P.length ≤ 5) (hc : c < 5 ^ (t + 1)) (hk : lok P lim st (t + 1) h c = true) (hno : ∀ d, d < c → lok P lim st (t + 1) h d = false) : wfst P lim st h (t + 1) = some (c / 5 ^ t) := by
  have hp : 0 < 5 ^ t := Nat.pow_pos (by omega)
  unfold lok at hk
  rw [lby] at hk
  by_cases hx : c / 5 ^ t < P.length ∧ mayL P h (c / 5 ^ t) = true
  · rw [if_pos hx] at hk
    rw [wfst, List.find?_range_eq_some]
    refine ⟨?_, List.mem_range.mpr hx.1, fun x hx2 => ?_⟩
    · rw [hx.2, Bool.true_and]
      cases hr : reach P lim st t (c / 5 ^ t :: h) with
      | true => rfl
      | false =>
        have h9 := (lok_none h5 t _).mpr hr _ (Nat.mod_lt c hp)
        unfold lok at h9
        rw [h9] at hk
        cases hk
    · cases hm : mayL P h x with
      | false => simp
      | true =>
        have h9 := (lok_none (lim := lim) (st := st) h5 t (x :: h)).mp (fun d hd => by
          have e : (x * 5 ^ t + d) / 5 ^ t = x := by rw [Nat.mul_comm, Nat.mul_add_div hp, Nat.div_eq_of_lt hd]; rfl
          have e3 : (x * 5 ^ t + d) % 5 ^ t = d := by rw [Nat.mul_comm, Nat.mul_add_mod, Nat.mod_eq_of_lt hd]
          have hlt : x * 5 ^ t + d < c := by
            have h7 : (x + 1) * 5 ^ t ≤ c / 5 ^ t * 5 ^ t := Nat.mul_le_mul_right _ hx2
            have h8 := Nat.div_mul_le_self c (5 ^ t)
            rw [Nat.succ_mul] at h7
            omega
          have h8 := hno _ hlt
          unfold lok at h8 ⊢
          rw [lby, e, e3, if_pos ⟨by omega, hm⟩] at h8
          exact h8)
        rw [h9]; simp
  · rw [if_neg hx] at hk
    cases hk
theorem ff_go {pg : List Nat} {n i : Nat} (h : fitP pg i = true) (h2 : pgc pg i ≠ 59) : ff pg (n + 1) i = ff pg n (i + 1) := by
  rw [ff, if_pos h, if_neg h2]
theorem ff_bad {pg : List Nat} {n i : Nat} (h : fitP pg i = false) : ff pg (n + 1) i = i := by
  rw [ff, if_neg (by rw [h]; decide)]
theorem ff_at {pg : List Nat} : ∀ m, m ≤ pg.length → (∀ j, j < m → fitP pg j = true ∧ pgc pg j ≠ 59) → ff pg pg.length 0 = ff pg (pg.length - m) m
  | 0, _, _ => rfl
  | m + 1, hm, h => by
    rw [ff_at m (by omega) (fun j hj => h j (by omega)), show pg.length - m = pg.length - (m + 1) + 1 by omega, ff_go (h m (by omega)).1 (h m (by omega)).2]
theorem kN_59 {c : Nat} (h : (kN c).isSome = true) : c ≠ 59 := by
  intro e; subst e; revert h; decide
theorem fitP0 {pg : List Nat} {m : Nat} : fitP pg (3 * m) = (kN (pgc pg (3 * m))).isSome := by
  unfold fitP; rw [if_pos (by omega)]
theorem fitP1 {pg : List Nat} {m : Nat} : fitP pg (3 * m + 1) = decide (48 ≤ pgc pg (3 * m + 1) ∧ pgc pg (3 * m + 1) ≤ 57) := by
  unfold fitP; rw [if_neg (by omega), if_pos (by omega)]
theorem fitP2 {pg : List Nat} {m : Nat} : fitP pg (3 * m + 2) = decide (pgc pg (3 * m + 2) = 44 ∧ m + 1 < 5 ∨ pgc pg (3 * m + 2) = 59 ∧ 2 ≤ m + 1) := by
  unfold fitP; rw [if_neg (by omega), if_neg (by omega), show (3 * m + 2) / 3 = m by omega]
/-- all before i is well, and no ; -/
def okB (pg : List Nat) (i : Nat) : Prop := i ≤ pg.length ∧ ∀ j, j < i → fitP pg j = true ∧ pgc pg j ≠ 59
theorem okB_s {pg : List Nat} {i : Nat} (h : okB pg i) (hi : i < pg.length) (h1 : fitP pg i = true) (h2 : pgc pg i ≠ 59) : okB pg (i + 1) := ⟨hi, fun j hj => by
  rcases (show j < i ∨ j = i by omega) with q | q
  · exact h.2 j q
  · rw [q]; exact ⟨h1, h2⟩⟩
theorem rd_end {pg : List Nat} {i : Nat} (h : okB pg i) (he : i = pg.length) : ff pg pg.length 0 = i ∧ isT pg = false := by
  have e : ff pg pg.length 0 = i := by rw [ff_at i h.1 h.2, show pg.length - i = 0 by omega]; rfl
  refine ⟨e, decide_eq_false (fun q => ?_)⟩
  exact (h.2 (pg.length - 2) (by omega)).2 q.2.1
theorem rd_no {pg : List Nat} {i : Nat} (h : okB pg i) (hi : i < pg.length) (h1 : fitP pg i = false) : ff pg pg.length 0 = i ∧ isT pg = false := by
  have e : ff pg pg.length 0 = i := by rw [ff_at i h.1 h.2, show pg.length - i = pg.length - i - 1 + 1 by omega, ff_bad h1]
  refine ⟨e, decide_eq_false (fun q => ?_)⟩
  rw [e] at q
  omega
theorem rd_lim {pg : List Nat} {i : Nat} (h : okB pg i) (hi : i < pg.length) (h1 : fitP pg i = true) (h2 : pgc pg i = 59) (h3 : i + 1 < pg.length) (h4 : isLim (pgc pg (i + 1)) = true) : ff pg pg.length 0 = i + 2 ∧ isT pg = decide (i + 2 = pg.length) := by
  have e : ff pg pg.length 0 = i + 2 := by rw [ff_at i h.1 h.2, show pg.length - i = pg.length - i - 1 + 1 by omega, ff, if_pos h1, if_pos h2, if_neg (by omega), if_pos h4]
  refine ⟨e, ?_⟩
  unfold isT
  rw [e]
  congr 1
  refine propext ⟨fun q => q.2.2, fun q => ⟨by omega, ?_, q⟩⟩
  rw [show pg.length - 2 = i by omega]; exact h2
theorem rd_nl {pg : List Nat} {i : Nat} (h : okB pg i) (hi : i < pg.length) (h1 : fitP pg i = true) (h2 : pgc pg i = 59) (h3 : ¬ (i + 1 < pg.length ∧ isLim (pgc pg (i + 1)) = true)) : ff pg pg.length 0 = i + 1 ∧ isT pg = false := by
  have e : ff pg pg.length 0 = i + 1 := by
    rw [ff_at i h.1 h.2, show pg.length - i = pg.length - i - 1 + 1 by omega, ff, if_pos h1, if_pos h2]
    by_cases q : pg.length - i - 1 = 0
    · rw [if_pos q]
    · rw [if_neg q, if_neg (fun z => h3 ⟨by omega, z⟩)]
  refine ⟨e, decide_eq_false (fun q => ?_)⟩
  rw [e] at q
  exact (h.2 (pg.length - 2) (by omega)).2 q.2.1
theorem fGo_lo {ok : Nat → Bool} : ∀ {n b : Nat}, fGo ok n = some b → b < n
  | 0, b, h => by cases h
  | n + 1, b, h => by
    rw [fGo] at h
    cases hq : fGo ok n with
    | none =>
      rw [hq] at h
      by_cases q : ok n = true
      · simp [q] at h; omega
      · simp [q] at h
    | some d =>
      rw [hq] at h
      have := fGo_lo hq
      by_cases q : pcN n < pcN d ∧ ok n = true
      · simp [q] at h; omega
      · replace h : (if pcN n < pcN d ∧ ok n = true then some n else some d) = some b := h
        rw [if_neg q] at h; have := Option.some.inj h; omega
theorem find_le : ∀ n, n ≤ 5 → ∀ m, m < 2 ^ n - 1 → pcN m ≤ pcN (2 ^ n - 1) := by decide +kernel
theorem fGo_all {ok : Nat → Bool} {n : Nat} (hn : n ≤ 5) (h : ok (2 ^ n - 1) = true) : fGo ok (2 ^ n) = some ((fGo ok (2 ^ n - 1)).getD (2 ^ n - 1)) := by
  have hp : 0 < 2 ^ n := Nat.pow_pos (by omega)
  rw [show 2 ^ n = 2 ^ n - 1 + 1 by omega, fGo]
  simp only [Nat.add_sub_cancel]
  cases hq : fGo ok (2 ^ n - 1) with
  | none => simp [h]
  | some b =>
    have h1 := find_le n hn b (fGo_lo hq)
    simp only [Option.getD_some]
    rw [if_neg (fun z => by omega)]
/-- the reference's scratch of a pen: who had it, each once, the last first; how often it was lent -/
def Tl (A : Nat → Nat → Int32) (p : Nat) (L : List Nat) (g : Int32) : Prop := A 11 p = nI L.length ∧ A 12 p = g ∧ ∀ j, j < L.length → A 10 (5 * p + j) = nI (L.getD j 0)
/-- nothing but the scratch of this pen is touched -/
def Nk (A A1 : Nat → Nat → Int32) (p : Nat) : Prop := (∀ k, k ≠ 10 → k ≠ 11 → k ≠ 12 → A1 k = A k) ∧ ∀ q, q ≠ p → A1 11 q = A 11 q ∧ A1 12 q = A 12 q ∧ ∀ j, j < 5 → A1 10 (5 * q + j) = A 10 (5 * q + j)
theorem Nk.rf {A : Nat → Nat → Int32} {p : Nat} : Nk A A p := ⟨fun _ _ _ _ => rfl, fun _ _ => ⟨rfl, rfl, fun _ _ => rfl⟩⟩
theorem Nk.tr {A B C : Nat → Nat → Int32} {p : Nat} (h : Nk A B p) (h2 : Nk B C p) : Nk A C p := ⟨fun k a b c => (h2.1 k a b c).trans (h.1 k a b c), fun q hq => ⟨(h2.2 q hq).1.trans (h.2 q hq).1, (h2.2 q hq).2.1.trans (h.2 q hq).2.1, fun j hj => ((h2.2 q hq).2.2 j hj).trans ((h.2 q hq).2.2 j hj)⟩⟩
theorem upd_at (f : Nat → Int32) (i : Nat) (x : Int32) : upd f i x i = x := if_pos rfl
theorem upd_no {f : Nat → Int32} {i j : Nat} {x : Int32} (h : j ≠ i) : upd f i x j = f j := if_neg h
theorem Nk.s11 {A B : Nat → Nat → Int32} {p : Nat} {x : Int32} (h : Nk A B p) : Nk A (va_up B 11 (upd (B 11) p x)) p := ⟨fun k a b c => by rw [vup_ne _ _ b]; exact h.1 k a b c, fun q hq => ⟨by rw [vup_eq, upd_no hq]; exact (h.2 q hq).1, by rw [vup_ne _ _ (by omega)]; exact (h.2 q hq).2.1, fun j hj => by rw [vup_ne _ _ (by omega)]; exact (h.2 q hq).2.2 j hj⟩⟩
theorem Nk.s12 {A B : Nat → Nat → Int32} {p : Nat} {x : Int32} (h : Nk A B p) : Nk A (va_up B 12 (upd (B 12) p x)) p := ⟨fun k a b c => by rw [vup_ne _ _ c]; exact h.1 k a b c, fun q hq => ⟨by rw [vup_ne _ _ (by omega)]; exact (h.2 q hq).1, by rw [vup_eq, upd_no hq]; exact (h.2 q hq).2.1, fun j hj => by rw [vup_ne _ _ (by omega)]; exact (h.2 q hq).2.2 j hj⟩⟩
theorem Nk.s10 {A B : Nat → Nat → Int32} {p t : Nat} {x : Int32} (h : Nk A B p) (ht : t < 5) : Nk A (va_up B 10 (upd (B 10) (5 * p + t) x)) p := ⟨fun k a b c => by rw [vup_ne _ _ a]; exact h.1 k a b c, fun q hq => ⟨by rw [vup_ne _ _ (by omega)]; exact (h.2 q hq).1, by rw [vup_ne _ _ (by omega)]; exact (h.2 q hq).2.1, fun j hj => by rw [vup_eq, upd_no (by omega)]; exact (h.2 q hq).2.2 j hj⟩⟩
theorem Tl.push {A : Nat → Nat → Int32} {p x : Nat} {L : List Nat} {g : Int32} (h : Tl A p L g) : Tl (va_up (va_up A 10 (upd (A 10) (5 * p + L.length) (nI x))) 11 (upd (A 11) p (nI (L.length + 1)))) p (L ++ [x]) g := by
  refine ⟨by rw [vup_eq, upd_at, List.length_append]; rfl, by rw [vup_ne _ _ (by omega), vup_ne _ _ (by omega)]; exact h.2.1, fun j hj => ?_⟩
  rw [vup_ne _ _ (by omega), vup_eq]
  rw [List.length_append, List.length_singleton] at hj
  rcases (show j = L.length ∨ j < L.length by omega) with q | q
  · rw [q, upd_at, List.getD_eq_getElem?_getD, List.getElem?_append_right (Nat.le_refl _), Nat.sub_self]; rfl
  · rw [upd_no (by omega), h.2.2 j q, List.getD_eq_getElem?_getD, List.getD_eq_getElem?_getD, List.getElem?_append_left q]
theorem Tl.ini {A : Nat → Nat → Int32} {p : Nat} {g : Int32} {h : List Nat} : Tl (va_up (va_up A 11 (upd (A 11) p (nI 0))) 12 (upd (A 12) p g)) p (dd (List.take 0 h)) g := by
  refine ⟨by rw [vup_ne _ _ (by omega), vup_eq, upd_at]; rfl, by rw [vup_eq, upd_at], fun j hj => absurd hj (Nat.not_lt_zero j)⟩
theorem rm_nk {S : QS} {V : Nat → Value} {A A1 : Nat → Nat → Int32} {p : Nat} (hR : RM S V A) (h : Nk A A1 p) : RM S V A1 := by
  obtain ⟨ht, hn, hlm, hdn, hhn, has, hpl, hkw, hRB, hpg, b, kt, h26, h27, hkt, hk1, hk2⟩ := hR
  have e : ∀ k, k ≠ 10 → k ≠ 11 → k ≠ 12 → A1 k = A k := h.1
  refine ⟨ht, hn, hlm, hdn, hhn, has, hpl, fun i hi => ?_, ?_, fun i hi => ?_, b, kt, h26, h27, hkt, hk1, fun B hB => ?_⟩
  · rw [e 1 (by omega) (by omega) (by omega), e 2 (by omega) (by omega) (by omega)]; exact hkw i hi
  · rw [e 3 (by omega) (by omega) (by omega), e 4 (by omega) (by omega) (by omega), e 5 (by omega) (by omega) (by omega), e 6 (by omega) (by omega) (by omega), e 7 (by omega) (by omega) (by omega), e 8 (by omega) (by omega) (by omega)]; exact hRB
  · rw [e 9 (by omega) (by omega) (by omega)]; exact hpg i hi
  · rw [e 14 (by omega) (by omega) (by omega), e 15 (by omega) (by omega) (by omega), e 16 (by omega) (by omega) (by omega), e 17 (by omega) (by omega) (by omega), e 18 (by omega) (by omega) (by omega), e 19 (by omega) (by omega) (by omega)]; exact hk2 B hB
set_option maxHeartbeats 4000000 in
set_option maxRecDepth 100000 in
theorem kX12_think (l : Launch) (N0 : Nat) (G : XG) (w : Wd) (M0 : Nat) (V : Nat → Value) (A : Nat → Nat → Int32) (hM : MW G w M0 V A) (S : QS) (hR : RM S V A) (hL : WB S) (i : Nat) (hi : i < sn S) (hall : ∀ x ∈ sp S i, x < sn S) : XM l yX12_think wsX12_think (rmD 2) N0 G [.ref M0, .int (nI i)] w vV (fun _ w1 => ∃ A1, MW G w1 M0 V A1 ∧ Nk A A1 i ∧ Tl A1 i (dd (sp S i)) (nI ((sp S i).length - 1)) ∧ Out w w1 M0 (M0 + 20)) 0 0 := by
  refine XM.of (cc := cX12_think) (maxL := 5) (ret := none) (by decide) rfl (Nat.le_of_ble_eq_true rfl) ?_
  intro p e s m below meth c hx hb hr hlk hin0 hml hown hts hN hw hG hS ls hl
  have hown : s.vm.findClass RX12 = some m.cls := hown
  have hiX12 : ∀ x ∈ u_ws RX12 TX12 37, x ∈ wsX12_think := by decide +kernel
  have hlnk0 := hts (.fieldLink RX12 41 "LentQuillModel" "lastMany" "[I") (by decide +kernel)
  have hlnk1 := hts (.fieldLink RX12 44 "LentQuillModel" "goneOf" "[I") (by decide +kernel)
  have hlnk2 := hts (.fieldLink RX12 19 "LentQuillModel" "lentOf" "[I") (by decide +kernel)
  have hlnk3 := hts (.fieldLink RX12 16 "LentQuillModel" "handOf" "[I") (by decide +kernel)
  have hlnk4 := hts (.fieldLink RX12 38 "LentQuillModel" "lastOf" "[I") (by decide +kernel)
  have hl : lh ls 5 [some (.ref M0), some (.int (nI i)), none, none, none] := hl
  obtain ⟨hm0, ⟨hv3, hv4, hv5, hv6, hv8, hv9, hv11, hv12, hv15, hv18, hv19, hv20, hv24, hv30, hv31, hv32, hv33, hv34, hv35⟩, ha1, ha2, ha3, ha4, ha5, ha6, ha7, ha8, ha9, ha10, ha11, ha12, ha13, ha14, ha15, ha16, ha17, ha18, ha19⟩ := id hM
  obtain ⟨ht, hn, hlm, hdn, hhn, has, hpl, hkw, hRB, hpg, hkp⟩ := id hR
  obtain ⟨hn5, hl5, hkd, hsp, hd6, hdw, hh6, hg18, hgr, hIm⟩ := id hL
  obtain ⟨hlo, hha⟩ := hRB.1 i hi
  obtain ⟨hs1, hs41⟩ := hsp i hi
  have hlo : A 4 i = nI ((sp S i).length - 1) := hlo
  refine xaload_n hx hb dX12_think_0 hl rfl ?_
  refine xgetM hx hb hts hiX12 hown hG hw (by repeat first | assumption | exact wu_eq _ _ _ | refine wu_ne (by omega) ?_) 19 (by decide) hlnk0 (by repeat first | assumption | exact vu_eq _ _ _ | refine vu_ne (by decide) ?_) dX12_think_1 ?_
  refine xiload_n hx hb dX12_think_4 hl rfl ?_
  refine lv_iconst (v := nI 0) hx hb dX12_think_5 (by decide) ?_
  refine xiast hx hb hG hw hS (by repeat first | assumption | exact wu_eq _ _ _ | refine wu_ne (by omega) ?_) (by omega) (by omega) dX12_think_6 (fun H locs hzz hw hS => ?_)
  refine xaload_n hx hb dX12_think_7 hl rfl ?_
  refine xgetM hx hb hts hiX12 hown hG hw (by repeat first | assumption | exact wu_eq _ _ _ | refine wu_ne (by omega) ?_) 20 (by decide) hlnk1 (by repeat first | assumption | exact vu_eq _ _ _ | refine vu_ne (by decide) ?_) dX12_think_8 ?_
  refine xiload_n hx hb dX12_think_11 hl rfl ?_
  refine xaload_n hx hb dX12_think_12 hl rfl ?_
  refine xgetM hx hb hts hiX12 hown hG hw (by repeat first | assumption | exact wu_eq _ _ _ | refine wu_ne (by omega) ?_) 6 (by decide) hlnk2 (by repeat first | assumption | exact vu_eq _ _ _ | refine vu_ne (by decide) ?_) dX12_think_13 ?_
  refine xiload_n hx hb dX12_think_16 hl rfl ?_
  refine xiald hx hb hG hw (by repeat first | assumption | exact wu_eq _ _ _ | refine wu_ne (by omega) ?_) (by omega) (by omega) dX12_think_17 ?_
  refine xtop hlo ?_
  refine xiast hx hb hG hw hS (by repeat first | assumption | exact wu_eq _ _ _ | refine wu_ne (by omega) ?_) (by omega) (by omega) dX12_think_18 (fun H locs hzz hw hS => ?_)
  refine lv_iconst (v := nI 0) hx hb dX12_think_19 (by decide) ?_
  refine xistore_n hx hb dX12_think_20 hl (by decide) rfl (fun ls hl => ?_)
  refine xaload_n hx hb dX12_think_21 hl rfl ?_
  refine xgetM hx hb hts hiX12 hown hG hw (by repeat first | assumption | exact wu_eq _ _ _ | refine wu_ne (by omega) ?_) 6 (by decide) hlnk2 (by repeat first | assumption | exact vu_eq _ _ _ | refine vu_ne (by decide) ?_) dX12_think_22 ?_
  refine xiload_n hx hb dX12_think_25 hl rfl ?_
  refine xiald hx hb hG hw (by repeat first | assumption | exact wu_eq _ _ _ | refine wu_ne (by omega) ?_) (by omega) (by omega) dX12_think_26 ?_
  refine xtop (hlo.trans (sb_m1 (p := (sp S i).length) (by omega)).symm) ?_
  refine xistore_n hx hb dX12_think_27 hl (by decide) rfl (fun ls hl => ?_)
  have loop28 : ∀ (nf : Nat) (j b : Nat) (A1 : Nat → Nat → Int32) (w1 : Wd) (u : Option Value) (H : Heap) (locs : List Loc) (ls : Array Slot), j < nf → (j ≤ (sp S i).length) → (MW G w1 M0 V A1) → (Nk A A1 i) → (Tl A1 i (dd ((sp S i).take ((sp S i).length - j))) (nI ((sp S i).length - 1))) → (b < 32) → (∀ y, y < 5 → b.testBit y = decide (y ∈ (sp S i).take ((sp S i).length - j))) → (Out w w1 M0 (M0 + 20)) → PW N0 G w1 H → va_S (fun q => N0 ≤ q) s.heap H locs → lh ls 5 [some (.ref M0), some (.int (nI i)), some (.int (nI b)), some (.int (nI j + (-1))), u] → W p l e (rmD 2) s m ([.ref M0, .int (nI i)] : List Value).toArray below meth c H locs 0 0 (MQ below (XQ N0 G vV (fun _ w1 => ∃ A1, MW G w1 M0 V A1 ∧ Nk A A1 i ∧ Tl A1 i (dd (sp S i)) (nI ((sp S i).length - 1)) ∧ Out w w1 M0 (M0 + 20))) ([.ref M0, .int (nI i)] : List Value).toArray s 0 0 (fun q => N0 ≤ q)) (F0 m 28 ls []) := by
    intro nf
    induction nf with
    | zero => intros; omega
    | succ nf ih28 =>
      intro j b A1 w1 u H locs ls hnf hj hM1 hN1 hT1 hb32 hsb hO1 hw hS hl
      obtain ⟨hm0z, ⟨hv3z, hv4z, hv5z, hv6z, hv8z, hv9z, hv11z, hv12z, hv15z, hv18z, hv19z, hv20z, hv24z, hv30z, hv31z, hv32z, hv33z, hv34z, hv35z⟩, ha1z, ha2z, ha3z, ha4z, ha5z, ha6z, ha7z, ha8z, ha9z, ha10z, ha11z, ha12z, ha13z, ha14z, ha15z, ha16z, ha17z, ha18z, ha19z⟩ := id hM1
      rcases j with _ | j
      · skip
        refine xiload_n hx hb dX12_think_28 hl rfl ?_
        refine lv_if_lt (tgt := 94) hx hb dX12_think_29 (by decide) (fun c29 => ?_) (fun c29 => absurd (by decide) c29)
        exact xvret hx hb hr hlk hw hS dX12_think_94 ⟨A1, hM1, hN1, by rw [Nat.sub_zero, List.take_length] at hT1; exact hT1, hO1⟩
      · skip
        have hl : lh ls 5 [some (.ref M0), some (.int (nI i)), some (.int (nI b)), some (.int (nI j)), u] := by
          have e : nI (j + 1) + (-1) = nI j := sb_m1 (by omega)
          rw [e] at hl
          exact hl
        obtain ⟨m1, hm1⟩ : ∃ m1, m1 = (sp S i).length - (j + 1) := ⟨_, rfl⟩
        rw [← hm1] at hT1 hsb
        obtain ⟨x, hxe⟩ : ∃ x, (sp S i).getD m1 0 = x := ⟨_, rfl⟩
        have hx5 : x < sn S := by rw [← hxe]; exact getD_lt hall (by omega)
        have htk := take_s (h := sp S i) (m := m1) (by omega) hxe
        have h3x : A1 3 (41 * i + j) = nI x := by
          rw [hN1.1 3 (by omega) (by omega) (by omega), hha j (by show j < (sp S i).length; omega)]
          show nI ((sp S i).getD ((sp S i).length - 1 - j) 0) = nI x
          rw [show (sp S i).length - 1 - j = m1 by omega, hxe]
        have hal2 : ∀ y ∈ (sp S i).take m1, y < sn S := fun y hy => hall y (List.mem_of_mem_take hy)
        have hll := dd_len hal2
        refine xiload_n hx hb dX12_think_28 hl rfl ?_
        refine xif_lt (tgt := 94) hx hb dX12_think_29 (by decide) (by omega) ?_
        refine xaload_n hx hb dX12_think_32 hl rfl ?_
        refine xgetM hx hb hts hiX12 hown hG hw (by repeat first | assumption | exact wu_eq _ _ _ | refine wu_ne (by omega) ?_) 5 (by decide) hlnk3 (by repeat first | assumption | exact vu_eq _ _ _ | refine vu_ne (by decide) ?_) dX12_think_33 ?_
        refine lv_bipush (v := nI 41) hx hb dX12_think_36 (by decide) ?_
        refine xiload_n hx hb dX12_think_38 hl rfl ?_
        first | refine xmul hx hb dX12_think_39 ?_ | refine lv_imul hx hb dX12_think_39 ?_
        refine xiload_n hx hb dX12_think_40 hl rfl ?_
        first | refine xadd hx hb dX12_think_41 ?_ | refine lv_iadd hx hb dX12_think_41 ?_
        refine xiald hx hb hG hw (by repeat first | assumption | exact wu_eq _ _ _ | refine wu_ne (by omega) ?_) (by omega) (by omega) dX12_think_42 ?_
        refine xtop h3x ?_
        refine xistore hx hb dX12_think_43 hl (by decide) rfl (fun ls hl => ?_)
        refine xiload_n hx hb dX12_think_45 hl rfl ?_
        refine xiload hx hb dX12_think_46 hl rfl ?_
        refine xSi ⟨hx, hb, hml, hown, hts⟩ (kX12_isIn l N0 G _ b x hb32 (by omega)) (va_cwS 2 hts gX12_think_X12_isIn rfl rfl rfl (by decide +kernel) ⟨Nat.le_of_ble_eq_true rfl, Nat.le_of_ble_eq_true rfl⟩) hG hN hw hS rfl hl.1 rfl (Nat.le_of_ble_eq_true rfl) dX12_think_48 ⟨Nat.le_of_ble_eq_true rfl, Nat.le_of_ble_eq_true rfl⟩ (fun r48 w48 H locs hp48 hw hS => ?_)
        obtain ⟨rfl, rfl⟩ := hp48
        first | refine xifb_ne (tgt := 81) hx hb dX12_think_51 (by decide) (fun c51 => ?_) (fun c51 => ?_) | refine xif_ne (tgt := 81) hx hb dX12_think_51 (by decide) (by omega) (fun c51 => ?_) (fun c51 => ?_) | refine lv_if_ne (tgt := 81) hx hb dX12_think_51 (by decide) (fun c51 => ?_) (fun c51 => ?_)
        · skip
          obtain ⟨A2, w2, hw2, hM2, hN2, hT2, hO2⟩ : ∃ A2 w2, PW N0 G w2 H ∧ MW G w2 M0 V A2 ∧ Nk A A2 i ∧ Tl A2 i (dd ((sp S i).take (m1 + 1))) (nI ((sp S i).length - 1)) ∧ Out w w2 M0 (M0 + 20) := by
            rw [htk, dd_app]
            first
              | (rw [if_pos (of_decide_eq_true ((hsb x (by omega)).symm.trans c51))]; exact ⟨_, _, hw, hM1, hN1, hT1, hO1⟩)
              | (rw [if_neg (of_decide_eq_false ((hsb x (by omega)).symm.trans c51))]; exact ⟨_, _, hw, (hM1.a10 _).a11 _, (hN1.s10 (by omega)).s11, hT1.push, (hO1.wu (by omega) (by omega)).wu (by omega) (by omega)⟩)
          replace hw := hw2
          refine xiload_n hx hb dX12_think_81 hl rfl ?_
          refine lv_iconst (v := nI 1) hx hb dX12_think_82 (by decide) ?_
          refine xiload hx hb dX12_think_83 hl rfl ?_
          first | refine xshl hx hb dX12_think_85 (by omega) ?_ | refine lv_ishl hx hb dX12_think_85 ?_
          first | refine xor_ hx hb dX12_think_86 ?_ | refine lv_ior hx hb dX12_think_86 ?_
          refine xistore_n hx hb dX12_think_87 hl (by decide) rfl (fun ls hl => ?_)
          refine xiinc hx hb dX12_think_88 hl rfl rfl (by decide) rfl (fun ls hl => ?_)
          refine lv_goto (tgt := 28) hx hb dX12_think_91 (by decide) ?_
          exact ih28 j (b ||| 2 ^ x) A2 w2 _ _ _ _ (by omega) (by omega) hM2 hN2 (by rw [show (sp S i).length - j = m1 + 1 by omega]; exact hT2) (Nat.or_lt_two_pow (n := 5) hb32 (Nat.lt_of_lt_of_le (Nat.pow_lt_pow_right (by omega) (show x < 5 by omega)) (Nat.le_refl _))) (fun y hy => by rw [show (sp S i).length - j = m1 + 1 by omega, htk, Nat.testBit_or, hsb y hy, Nat.testBit_two_pow]; simp [eq_comm]) hO2 hw hS hl
        · skip
          have hl4 := dd_len1 hal2 hx5 (of_decide_eq_false ((hsb x (by omega)).symm.trans c51))
          refine xaload_n hx hb dX12_think_54 hl rfl ?_
          refine xgetM hx hb hts hiX12 hown hG hw (by repeat first | assumption | exact wu_eq _ _ _ | refine wu_ne (by omega) ?_) 18 (by decide) hlnk4 (by repeat first | assumption | exact vu_eq _ _ _ | refine vu_ne (by decide) ?_) dX12_think_55 ?_
          refine lv_iconst (v := nI 5) hx hb dX12_think_58 (by decide) ?_
          refine xiload_n hx hb dX12_think_59 hl rfl ?_
          first | refine xmul hx hb dX12_think_60 ?_ | refine lv_imul hx hb dX12_think_60 ?_
          refine xaload_n hx hb dX12_think_61 hl rfl ?_
          refine xgetM hx hb hts hiX12 hown hG hw (by repeat first | assumption | exact wu_eq _ _ _ | refine wu_ne (by omega) ?_) 19 (by decide) hlnk0 (by repeat first | assumption | exact vu_eq _ _ _ | refine vu_ne (by decide) ?_) dX12_think_62 ?_
          refine xiload_n hx hb dX12_think_65 hl rfl ?_
          refine xiald hx hb hG hw (by repeat first | assumption | exact wu_eq _ _ _ | refine wu_ne (by omega) ?_) (by omega) (by omega) dX12_think_66 ?_
          refine xtop hT1.1 ?_
          first | refine xadd hx hb dX12_think_67 ?_ | refine lv_iadd hx hb dX12_think_67 ?_
          refine xiload hx hb dX12_think_68 hl rfl ?_
          refine xiast hx hb hG hw hS (by repeat first | assumption | exact wu_eq _ _ _ | refine wu_ne (by omega) ?_) (by omega) (by omega) dX12_think_70 (fun H locs hzz hw hS => ?_)
          refine xaload_n hx hb dX12_think_71 hl rfl ?_
          refine xgetM hx hb hts hiX12 hown hG hw (by repeat first | assumption | exact wu_eq _ _ _ | refine wu_ne (by omega) ?_) 19 (by decide) hlnk0 (by repeat first | assumption | exact vu_eq _ _ _ | refine vu_ne (by decide) ?_) dX12_think_72 ?_
          refine xiload_n hx hb dX12_think_75 hl rfl ?_
          first | refine lv_dup2_11 hx hb dX12_think_76 rfl rfl ?_ | refine lv_dup2_2 hx hb dX12_think_76 rfl ?_
          refine xiald hx hb hG hw (by repeat first | assumption | exact wu_eq _ _ _ | refine wu_ne (by omega) ?_) (by omega) (by omega) dX12_think_77 ?_
          refine xtop hT1.1 ?_
          refine lv_iconst (v := nI 1) hx hb dX12_think_78 (by decide) ?_
          first | refine xadd hx hb dX12_think_79 ?_ | refine lv_iadd hx hb dX12_think_79 ?_
          refine xiast hx hb hG hw hS (by repeat first | assumption | exact wu_eq _ _ _ | refine wu_ne (by omega) ?_) (by omega) (by omega) dX12_think_80 (fun H locs hzz hw hS => ?_)
          obtain ⟨A2, w2, hw2, hM2, hN2, hT2, hO2⟩ : ∃ A2 w2, PW N0 G w2 H ∧ MW G w2 M0 V A2 ∧ Nk A A2 i ∧ Tl A2 i (dd ((sp S i).take (m1 + 1))) (nI ((sp S i).length - 1)) ∧ Out w w2 M0 (M0 + 20) := by
            rw [htk, dd_app]
            first
              | (rw [if_pos (of_decide_eq_true ((hsb x (by omega)).symm.trans c51))]; exact ⟨_, _, hw, hM1, hN1, hT1, hO1⟩)
              | (rw [if_neg (of_decide_eq_false ((hsb x (by omega)).symm.trans c51))]; exact ⟨_, _, hw, (hM1.a10 _).a11 _, (hN1.s10 (by omega)).s11, hT1.push, (hO1.wu (by omega) (by omega)).wu (by omega) (by omega)⟩)
          replace hw := hw2
          refine xiload_n hx hb dX12_think_81 hl rfl ?_
          refine lv_iconst (v := nI 1) hx hb dX12_think_82 (by decide) ?_
          refine xiload hx hb dX12_think_83 hl rfl ?_
          first | refine xshl hx hb dX12_think_85 (by omega) ?_ | refine lv_ishl hx hb dX12_think_85 ?_
          first | refine xor_ hx hb dX12_think_86 ?_ | refine lv_ior hx hb dX12_think_86 ?_
          refine xistore_n hx hb dX12_think_87 hl (by decide) rfl (fun ls hl => ?_)
          refine xiinc hx hb dX12_think_88 hl rfl rfl (by decide) rfl (fun ls hl => ?_)
          refine lv_goto (tgt := 28) hx hb dX12_think_91 (by decide) ?_
          exact ih28 j (b ||| 2 ^ x) A2 w2 _ _ _ _ (by omega) (by omega) hM2 hN2 (by rw [show (sp S i).length - j = m1 + 1 by omega]; exact hT2) (Nat.or_lt_two_pow (n := 5) hb32 (Nat.lt_of_lt_of_le (Nat.pow_lt_pow_right (by omega) (show x < 5 by omega)) (Nat.le_refl _))) (fun y hy => by rw [show (sp S i).length - j = m1 + 1 by omega, htk, Nat.testBit_or, hsb y hy, Nat.testBit_two_pow]; simp [eq_comm]) hO2 hw hS hl
  exact loop28 ((sp S i).length + 1) (sp S i).length 0 _ _ none _ _ _ (by omega) (by omega) ((hM.a11 _).a12 _) Nk.rf.s11.s12 (by rw [Nat.sub_self]; exact Tl.ini) (by omega) (fun y _ => by rw [Nat.sub_self]; simp) ((Out.rf.wu (by omega) (by omega)).wu (by omega) (by omega)) hw hS hl
set_option maxHeartbeats 4000000 in
set_option maxRecDepth 100000 in
theorem kX12_boundThought (l : Launch) (N0 : Nat) (G : XG) (w : Wd) (M0 : Nat) (V : Nat → Value) (A : Nat → Nat → Int32) (hM : MW G w M0 V A) (S : QS) (hR : RM S V A) (hL : WB S) (i : Nat) (hi : i < sn S) (L : List Nat) (g : Int32) (hT : Tl A i L g) (hall : ∀ x ∈ L, x < sn S) (hL5 : L.length ≤ 5) : XM l yX12_boundThought wsX12_boundThought (rmD 1) N0 G [.ref M0, .int (nI i)] w vI (fun r w1 => nI (bth (sP S) (sL S) L) = r ∧ w = w1) 0 0 := by
  refine XM.of (cc := cX12_boundThought) (maxL := 6) (ret := (some .int)) (by decide) rfl (Nat.le_of_ble_eq_true rfl) ?_
  intro p e s m below meth c hx hb hr hlk hin0 hml hown hts hN hw hG hS ls hl
  have hown : s.vm.findClass RX12 = some m.cls := hown
  have hiX12 : ∀ x ∈ u_ws RX12 TX12 37, x ∈ wsX12_boundThought := by decide +kernel
  have hlnk0 := hts (.fieldLink RX12 41 "LentQuillModel" "lastMany" "[I") (by decide +kernel)
  have hlnk1 := hts (.fieldLink RX12 97 "LentQuillModel" "limit" "I") (by decide +kernel)
  have hlnk2 := hts (.fieldLink RX12 38 "LentQuillModel" "lastOf" "[I") (by decide +kernel)
  have hlnk3 := hts (.fieldLink RX12 7 "LentQuillModel" "kindOf" "[I") (by decide +kernel)
  have hl : lh ls 6 [some (.ref M0), some (.int (nI i)), none, none, none, none] := hl
  obtain ⟨hm0, ⟨hv3, hv4, hv5, hv6, hv8, hv9, hv11, hv12, hv15, hv18, hv19, hv20, hv24, hv30, hv31, hv32, hv33, hv34, hv35⟩, ha1, ha2, ha3, ha4, ha5, ha6, ha7, ha8, ha9, ha10, ha11, ha12, ha13, ha14, ha15, ha16, ha17, ha18, ha19⟩ := id hM
  obtain ⟨ht, hn, hlm, hdn, hhn, has, hpl, hkw, hRB, hpg, hkp⟩ := id hR
  obtain ⟨hn5, hl5, hkd, hsp, hd6, hdw, hh6, hg18, hgr, hIm⟩ := id hL
  refine lv_iconst (v := nI 0) hx hb dX12_boundThought_0 (by decide) ?_
  refine xistore_n hx hb dX12_boundThought_1 hl (by decide) rfl (fun ls hl => ?_)
  refine lv_iconst (v := nI 1) hx hb dX12_boundThought_2 (by decide) ?_
  refine xistore_n hx hb dX12_boundThought_3 hl (by decide) rfl (fun ls hl => ?_)
  refine lv_iconst (v := nI 0) hx hb dX12_boundThought_4 (by decide) ?_
  refine xistore hx hb dX12_boundThought_5 hl (by decide) rfl (fun ls hl => ?_)
  have loop7 : ∀ (nf : Nat) (k b : Nat) (on : Bool) (u : Option Value) (H : Heap) (locs : List Loc) (ls : Array Slot), L.length - k < nf → (k ≤ L.length) → (bth (sP S) (sL S) L = b ||| (if on = true then bth (sP S) (sL S - k) (L.drop k) else 0)) → PW N0 G w H → va_S (fun q => N0 ≤ q) s.heap H locs → lh ls 6 [some (.ref M0), some (.int (nI i)), some (.int (nI b)), some (.int (bI on)), some (.int (nI k)), u] → W p l e (rmD 1) s m ([.ref M0, .int (nI i)] : List Value).toArray below meth c H locs 0 0 (MQ below (XQ N0 G vI (fun r w1 => nI (bth (sP S) (sL S) L) = r ∧ w = w1)) ([.ref M0, .int (nI i)] : List Value).toArray s 0 0 (fun q => N0 ≤ q)) (F0 m 7 ls []) := by
    intro nf
    induction nf with
    | zero => intros; omega
    | succ nf ih7 =>
      intro k b on u H locs ls hnf hk he hw hS hl
      refine xiload hx hb dX12_boundThought_7 hl rfl ?_
      refine xaload_n hx hb dX12_boundThought_9 hl rfl ?_
      refine xgetM hx hb hts hiX12 hown hG hw (by repeat first | assumption | exact wu_eq _ _ _ | refine wu_ne (by omega) ?_) 19 (by decide) hlnk0 (by repeat first | assumption | exact vu_eq _ _ _ | refine vu_ne (by decide) ?_) dX12_boundThought_10 ?_
      refine xiload_n hx hb dX12_boundThought_13 hl rfl ?_
      refine xiald hx hb hG hw (by repeat first | assumption | exact wu_eq _ _ _ | refine wu_ne (by omega) ?_) (by omega) (by omega) dX12_boundThought_14 ?_
      refine xtop hT.1 ?_
      first | refine xcmp_ge (tgt := 89) hx hb dX12_boundThought_15 (by decide) (by omega) (by omega) (fun c15 => ?_) (fun c15 => ?_) | refine lv_icmp_ge (tgt := 89) hx hb dX12_boundThought_15 (by decide) (fun c15 => ?_) (fun c15 => ?_)
      · skip
        refine xiload_n hx hb dX12_boundThought_89 hl rfl ?_
        exact xiret hx hb hr hlk hw hS dX12_boundThought_90 ⟨by rw [he]; first | (rw [if_neg (by rw [c28]; decide)]; simp) | (rw [List.drop_of_length_le (by omega), bth_nil]; simp) | (rw [show sL S - k = 0 by omega]; simp [bth_stop]), rfl⟩
      · skip
        refine xiload hx hb dX12_boundThought_18 hl rfl ?_
        refine xaload_n hx hb dX12_boundThought_20 hl rfl ?_
        refine xgetM hx hb hts hiX12 hown hG hw (by repeat first | assumption | exact wu_eq _ _ _ | refine wu_ne (by omega) ?_) 2 (by decide) hlnk1 (by repeat first | assumption | exact vu_eq _ _ _ | refine vu_ne (by decide) ?_) dX12_boundThought_21 ?_
        first | refine xcmp_ge (tgt := 89) hx hb dX12_boundThought_24 (by decide) (by omega) (by omega) (fun c24 => ?_) (fun c24 => ?_) | refine lv_icmp_ge (tgt := 89) hx hb dX12_boundThought_24 (by decide) (fun c24 => ?_) (fun c24 => ?_)
        · skip
          refine xiload_n hx hb dX12_boundThought_89 hl rfl ?_
          exact xiret hx hb hr hlk hw hS dX12_boundThought_90 ⟨by rw [he]; first | (rw [if_neg (by rw [c28]; decide)]; simp) | (rw [List.drop_of_length_le (by omega), bth_nil]; simp) | (rw [show sL S - k = 0 by omega]; simp [bth_stop]), rfl⟩
        · skip
          refine xiload_n hx hb dX12_boundThought_27 hl rfl ?_
          first | refine xifb_eq (tgt := 89) hx hb dX12_boundThought_28 (by decide) (fun c28 => ?_) (fun c28 => ?_) | refine xif_eq (tgt := 89) hx hb dX12_boundThought_28 (by decide) (by omega) (fun c28 => ?_) (fun c28 => ?_) | refine lv_if_eq (tgt := 89) hx hb dX12_boundThought_28 (by decide) (fun c28 => ?_) (fun c28 => ?_)
          · skip
            refine xiload_n hx hb dX12_boundThought_89 hl rfl ?_
            exact xiret hx hb hr hlk hw hS dX12_boundThought_90 ⟨by rw [he]; first | (rw [if_neg (by rw [c28]; decide)]; simp) | (rw [List.drop_of_length_le (by omega), bth_nil]; simp) | (rw [show sL S - k = 0 by omega]; simp [bth_stop]), rfl⟩
          · skip
            obtain ⟨x, hxe⟩ : ∃ x, L.getD k 0 = x := ⟨_, rfl⟩
            have hx5 : x < sn S := by rw [← hxe]; exact getD_lt hall (by omega)
            obtain ⟨hk1, hw1⟩ := hkw x hx5
            obtain ⟨hk4, hw9⟩ := hkd x hx5
            have hbd := bth_drop (P := sP S) (n := sL S - (k + 1)) (l := L) (by omega) hxe
            rw [show sL S - (k + 1) + 1 = sL S - k by omega] at hbd
            refine xaload_n hx hb dX12_boundThought_31 hl rfl ?_
            refine xgetM hx hb hts hiX12 hown hG hw (by repeat first | assumption | exact wu_eq _ _ _ | refine wu_ne (by omega) ?_) 18 (by decide) hlnk2 (by repeat first | assumption | exact vu_eq _ _ _ | refine vu_ne (by decide) ?_) dX12_boundThought_32 ?_
            refine lv_iconst (v := nI 5) hx hb dX12_boundThought_35 (by decide) ?_
            refine xiload_n hx hb dX12_boundThought_36 hl rfl ?_
            first | refine xmul hx hb dX12_boundThought_37 ?_ | refine lv_imul hx hb dX12_boundThought_37 ?_
            refine xiload hx hb dX12_boundThought_38 hl rfl ?_
            first | refine xadd hx hb dX12_boundThought_40 ?_ | refine lv_iadd hx hb dX12_boundThought_40 ?_
            refine xiald hx hb hG hw (by repeat first | assumption | exact wu_eq _ _ _ | refine wu_ne (by omega) ?_) (by omega) (by omega) dX12_boundThought_41 ?_
            refine xtop ((hT.2.2 k (by omega)).trans (congrArg nI hxe)) ?_
            refine xistore hx hb dX12_boundThought_42 hl (by decide) rfl (fun ls hl => ?_)
            refine xiload_n hx hb dX12_boundThought_44 hl rfl ?_
            refine xaload_n hx hb dX12_boundThought_45 hl rfl ?_
            refine xgetM hx hb hts hiX12 hown hG hw (by repeat first | assumption | exact wu_eq _ _ _ | refine wu_ne (by omega) ?_) 3 (by decide) hlnk3 (by repeat first | assumption | exact vu_eq _ _ _ | refine vu_ne (by decide) ?_) dX12_boundThought_46 ?_
            refine xiload hx hb dX12_boundThought_49 hl rfl ?_
            refine xiald hx hb hG hw (by repeat first | assumption | exact wu_eq _ _ _ | refine wu_ne (by omega) ?_) (by omega) (by omega) dX12_boundThought_51 ?_
            refine xtop hk1 ?_
            refine lv_iconst (v := nI 3) hx hb dX12_boundThought_52 (by decide) ?_
            first | refine xcmp_ne (tgt := 60) hx hb dX12_boundThought_53 (by decide) (by omega) (by omega) (fun c53 => ?_) (fun c53 => ?_) | refine lv_icmp_ne (tgt := 60) hx hb dX12_boundThought_53 (by decide) (fun c53 => ?_) (fun c53 => ?_)
            · skip
              refine lv_iconst (v := nI 1) hx hb dX12_boundThought_60 (by decide) ?_
              refine xiload hx hb dX12_boundThought_61 hl rfl ?_
              first | refine xshl hx hb dX12_boundThought_63 (by omega) ?_ | refine lv_ishl hx hb dX12_boundThought_63 ?_
              first | refine xor_ hx hb dX12_boundThought_64 ?_ | refine lv_ior hx hb dX12_boundThought_64 ?_
              refine xtop (y := nI (b ||| (if kd (sP S) x = 3 then 0 else 2 ^ x))) (by first | rw [if_pos c53] | rw [if_neg c53]) ?_
              refine xistore_n hx hb dX12_boundThought_65 hl (by decide) rfl (fun ls hl => ?_)
              refine xaload_n hx hb dX12_boundThought_66 hl rfl ?_
              refine xgetM hx hb hts hiX12 hown hG hw (by repeat first | assumption | exact wu_eq _ _ _ | refine wu_ne (by omega) ?_) 3 (by decide) hlnk3 (by repeat first | assumption | exact vu_eq _ _ _ | refine vu_ne (by decide) ?_) dX12_boundThought_67 ?_
              refine xiload hx hb dX12_boundThought_70 hl rfl ?_
              refine xiald hx hb hG hw (by repeat first | assumption | exact wu_eq _ _ _ | refine wu_ne (by omega) ?_) (by omega) (by omega) dX12_boundThought_72 ?_
              refine xtop hk1 ?_
              refine lv_iconst (v := nI 2) hx hb dX12_boundThought_73 (by decide) ?_
              first | refine xcmp_eq (tgt := 81) hx hb dX12_boundThought_74 (by decide) (by omega) (by omega) (fun c74 => ?_) (fun c74 => ?_) | refine lv_icmp_eq (tgt := 81) hx hb dX12_boundThought_74 (by decide) (fun c74 => ?_) (fun c74 => ?_)
              · skip
                refine lv_iconst (v := nI 0) hx hb dX12_boundThought_81 (by decide) ?_
                refine xtop (y := bI (decide (kd (sP S) x ≠ 2))) (by first | (rw [decide_eq_true c74]; rfl) | (rw [decide_eq_false (fun q => q c74)]; rfl)) ?_
                refine xistore_n hx hb dX12_boundThought_82 hl (by decide) rfl (fun ls hl => ?_)
                first | refine xiincN hx hb 1 dX12_boundThought_83 hl rfl (by decide) (by decide) rfl (fun ls hl => ?_) | refine xiinc hx hb dX12_boundThought_83 hl rfl rfl (by decide) rfl (fun ls hl => ?_)
                refine lv_goto (tgt := 7) hx hb dX12_boundThought_86 (by decide) ?_
                exact ih7 (k + 1) (b ||| (if kd (sP S) x = 3 then 0 else 2 ^ x)) (decide (kd (sP S) x ≠ 2)) _ _ _ _ (by omega) (by omega) (by
                  rw [he, if_pos c28, hbd]
                  by_cases q : kd (sP S) x = 2
                  · rw [if_pos q, decide_eq_false (fun z => z q)]; simp
                  · rw [if_neg q, decide_eq_true q, if_pos rfl, Nat.or_assoc]) hw hS hl
              · skip
                refine lv_iconst (v := nI 1) hx hb dX12_boundThought_77 (by decide) ?_
                refine lv_goto (tgt := 82) hx hb dX12_boundThought_78 (by decide) ?_
                refine xtop (y := bI (decide (kd (sP S) x ≠ 2))) (by first | (rw [decide_eq_true c74]; rfl) | (rw [decide_eq_false (fun q => q c74)]; rfl)) ?_
                refine xistore_n hx hb dX12_boundThought_82 hl (by decide) rfl (fun ls hl => ?_)
                first | refine xiincN hx hb 1 dX12_boundThought_83 hl rfl (by decide) (by decide) rfl (fun ls hl => ?_) | refine xiinc hx hb dX12_boundThought_83 hl rfl rfl (by decide) rfl (fun ls hl => ?_)
                refine lv_goto (tgt := 7) hx hb dX12_boundThought_86 (by decide) ?_
                exact ih7 (k + 1) (b ||| (if kd (sP S) x = 3 then 0 else 2 ^ x)) (decide (kd (sP S) x ≠ 2)) _ _ _ _ (by omega) (by omega) (by
                  rw [he, if_pos c28, hbd]
                  by_cases q : kd (sP S) x = 2
                  · rw [if_pos q, decide_eq_false (fun z => z q)]; simp
                  · rw [if_neg q, decide_eq_true q, if_pos rfl, Nat.or_assoc]) hw hS hl
            · skip
              refine lv_iconst (v := nI 0) hx hb dX12_boundThought_56 (by decide) ?_
              refine lv_goto (tgt := 64) hx hb dX12_boundThought_57 (by decide) ?_
              first | refine xor_ hx hb dX12_boundThought_64 ?_ | refine lv_ior hx hb dX12_boundThought_64 ?_
              refine xtop (y := nI (b ||| (if kd (sP S) x = 3 then 0 else 2 ^ x))) (by first | rw [if_pos c53] | rw [if_neg c53]) ?_
              refine xistore_n hx hb dX12_boundThought_65 hl (by decide) rfl (fun ls hl => ?_)
              refine xaload_n hx hb dX12_boundThought_66 hl rfl ?_
              refine xgetM hx hb hts hiX12 hown hG hw (by repeat first | assumption | exact wu_eq _ _ _ | refine wu_ne (by omega) ?_) 3 (by decide) hlnk3 (by repeat first | assumption | exact vu_eq _ _ _ | refine vu_ne (by decide) ?_) dX12_boundThought_67 ?_
              refine xiload hx hb dX12_boundThought_70 hl rfl ?_
              refine xiald hx hb hG hw (by repeat first | assumption | exact wu_eq _ _ _ | refine wu_ne (by omega) ?_) (by omega) (by omega) dX12_boundThought_72 ?_
              refine xtop hk1 ?_
              refine lv_iconst (v := nI 2) hx hb dX12_boundThought_73 (by decide) ?_
              first | refine xcmp_eq (tgt := 81) hx hb dX12_boundThought_74 (by decide) (by omega) (by omega) (fun c74 => ?_) (fun c74 => ?_) | refine lv_icmp_eq (tgt := 81) hx hb dX12_boundThought_74 (by decide) (fun c74 => ?_) (fun c74 => ?_)
              · skip
                refine lv_iconst (v := nI 0) hx hb dX12_boundThought_81 (by decide) ?_
                refine xtop (y := bI (decide (kd (sP S) x ≠ 2))) (by first | (rw [decide_eq_true c74]; rfl) | (rw [decide_eq_false (fun q => q c74)]; rfl)) ?_
                refine xistore_n hx hb dX12_boundThought_82 hl (by decide) rfl (fun ls hl => ?_)
                first | refine xiincN hx hb 1 dX12_boundThought_83 hl rfl (by decide) (by decide) rfl (fun ls hl => ?_) | refine xiinc hx hb dX12_boundThought_83 hl rfl rfl (by decide) rfl (fun ls hl => ?_)
                refine lv_goto (tgt := 7) hx hb dX12_boundThought_86 (by decide) ?_
                exact ih7 (k + 1) (b ||| (if kd (sP S) x = 3 then 0 else 2 ^ x)) (decide (kd (sP S) x ≠ 2)) _ _ _ _ (by omega) (by omega) (by
                  rw [he, if_pos c28, hbd]
                  by_cases q : kd (sP S) x = 2
                  · rw [if_pos q, decide_eq_false (fun z => z q)]; simp
                  · rw [if_neg q, decide_eq_true q, if_pos rfl, Nat.or_assoc]) hw hS hl
              · skip
                refine lv_iconst (v := nI 1) hx hb dX12_boundThought_77 (by decide) ?_
                refine lv_goto (tgt := 82) hx hb dX12_boundThought_78 (by decide) ?_
                refine xtop (y := bI (decide (kd (sP S) x ≠ 2))) (by first | (rw [decide_eq_true c74]; rfl) | (rw [decide_eq_false (fun q => q c74)]; rfl)) ?_
                refine xistore_n hx hb dX12_boundThought_82 hl (by decide) rfl (fun ls hl => ?_)
                first | refine xiincN hx hb 1 dX12_boundThought_83 hl rfl (by decide) (by decide) rfl (fun ls hl => ?_) | refine xiinc hx hb dX12_boundThought_83 hl rfl rfl (by decide) rfl (fun ls hl => ?_)
                refine lv_goto (tgt := 7) hx hb dX12_boundThought_86 (by decide) ?_
                exact ih7 (k + 1) (b ||| (if kd (sP S) x = 3 then 0 else 2 ^ x)) (decide (kd (sP S) x ≠ 2)) _ _ _ _ (by omega) (by omega) (by
                  rw [he, if_pos c28, hbd]
                  by_cases q : kd (sP S) x = 2
                  · rw [if_pos q, decide_eq_false (fun z => z q)]; simp
                  · rw [if_neg q, decide_eq_true q, if_pos rfl, Nat.or_assoc]) hw hS hl
  exact loop7 (L.length + 1) 0 0 true none _ _ _ (by omega) (by omega) (by simp) hw hS hl
