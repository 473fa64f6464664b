/-! ===== Search ===== -/
abbrev TS : Type := Nat × Nat × (Nat → Nat)
def t1 (P : PK) (lim : Nat) (hd : List (Nat × Bool)) (S : TS) (g : List Nat) : TS := if okH hd (bnd P lim g) = true then (S.1 + 1, S.2.1 ||| 2 ^ (g.getD 0 0), fun i => S.2.2 i + (if (bnd P lim g).testBit i = true then 1 else 0)) else S
def handS (P : PK) (lim : Nat) (hd : List (Nat × Bool)) (t : Nat) (h : List Nat) : TS := (ends P t h).foldl (t1 P lim hd) (0, 0, fun _ => 0)
def RSrch (G : XG) (w : Wd) (s0 : Nat) (h : List Nat) (S : TS) (fw fr : Int32) : Prop := ∃ f : Nat → Int32, w s0 = some (eO 8 [.ref (s0 + 1), .ref (s0 + 3), .int (nI S.1), .int (nI S.2.1), .int fw, .int fr]) ∧ w (s0 + 3) = some (eI G 5 f) ∧ (∀ i, i < 5 → f i = nI (S.2.2 i)) ∧ RPen G w (s0 + 1) h
theorem RSrch.cell {G : XG} {w : Wd} {s0 : Nat} {h : List Nat} {S : TS} {fw fr : Int32} (hR : RSrch G w s0 h S fw fr) : w s0 = some (eO 8 [.ref (s0 + 1), .ref (s0 + 3), .int (nI S.1), .int (nI S.2.1), .int fw, .int fr]) := hR.choose_spec.1
theorem RSrch.rpen {G : XG} {w : Wd} {s0 : Nat} {h : List Nat} {S : TS} {fw fr : Int32} (hR : RSrch G w s0 h S fw fr) : RPen G w (s0 + 1) h := hR.choose_spec.2.2.2
theorem RSrch.pen {G : XG} {w w1 : Wd} {s0 : Nat} {h h1 : List Nat} {S : TS} {fw fr : Int32} (hR : RSrch G w s0 h S fw fr) (hp : RPen G w1 (s0 + 1) h1) (ho : Out w w1 (s0 + 1) (s0 + 1 + 2)) : RSrch G w1 s0 h1 S fw fr := by
  obtain ⟨f, a, b, c, d⟩ := hR
  exact ⟨f, (ho _ (by omega)).trans a, (ho _ (by omega)).trans b, c, hp⟩
theorem RSrch.out {G : XG} {w w1 : Wd} {s0 lo hi : Nat} {h : List Nat} {S : TS} {fw fr : Int32} (hR : RSrch G w s0 h S fw fr) (ho : Out w w1 lo hi) (hd : s0 + 4 ≤ lo ∨ hi ≤ s0) : RSrch G w1 s0 h S fw fr := by
  obtain ⟨f, a, b, c, d⟩ := hR
  exact ⟨f, (ho _ (by omega)).trans a, (ho _ (by omega)).trans b, c, d.out ho (by omega)⟩
theorem RSrch.cong {G : XG} {w : Wd} {s0 : Nat} {h : List Nat} {S S1 : TS} {fw fr : Int32} (hR : RSrch G w s0 h S fw fr) (e1 : S.1 = S1.1) (e2 : S.2.1 = S1.2.1) (e3 : ∀ i, i < 5 → S.2.2 i = S1.2.2 i) : RSrch G w s0 h S1 fw fr := by
  obtain ⟨f, a, b, c, d⟩ := hR
  refine ⟨f, ?_, b, fun i hi => by rw [← e3 i hi]; exact c i hi, d⟩
  rw [← e1, ← e2]
  exact a
/-- the fields that a search's end writes -/
theorem RSrch.puts {G : XG} {w w1 : Wd} {s0 : Nat} {h : List Nat} {S S1 : TS} {fw fr fw1 fr1 : Int32} {f : Nat → Int32} (hR : RSrch G w s0 h S fw fr) (e0 : w1 s0 = some (eO 8 [.ref (s0 + 1), .ref (s0 + 3), .int (nI S1.1), .int (nI S1.2.1), .int fw1, .int fr1])) (e3 : w1 (s0 + 3) = some (eI G 5 f)) (ef : ∀ i, i < 5 → f i = nI (S1.2.2 i)) (ep : w1 (s0 + 1) = w (s0 + 1)) (eq : w1 (s0 + 2) = w (s0 + 2)) : RSrch G w1 s0 h S1 fw1 fr1 := ⟨f, e0, e3, ef, hR.rpen.keep ep eq⟩
theorem mayL_len {P : PK} {h : List Nat} {t : Nat} (hm : mayL P h t = true) : h.length ≤ 40 := (of_decide_eq_true hm).2.2
def FolS (P : PK) (lim : Nat) (hd : List (Nat × Bool)) (h : List Nat) (k : Nat) (S : TS) (j : Nat) : TS := ((List.range j).flatMap (fun x => if mayL P h x = true then ends P k (x :: h) else [])).foldl (t1 P lim hd) S
theorem FolS_0 (P : PK) (lim : Nat) (hd : List (Nat × Bool)) (h : List Nat) (k : Nat) (S : TS) : FolS P lim hd h k S 0 = S := rfl
theorem FolS_s (P : PK) (lim : Nat) (hd : List (Nat × Bool)) (h : List Nat) (k : Nat) (S : TS) (j : Nat) : FolS P lim hd h k S (j + 1) = (if mayL P h j = true then (ends P k (j :: h)).foldl (t1 P lim hd) (FolS P lim hd h k S j) else FolS P lim hd h k S j) := by
  unfold FolS
  rw [List.range_succ, List.flatMap_append, List.foldl_append, List.flatMap_cons, List.flatMap_nil, List.append_nil]
  split <;> rfl
theorem FolS_n (P : PK) (lim : Nat) (hd : List (Nat × Bool)) (h : List Nat) (k : Nat) (S : TS) : FolS P lim hd h k S P.length = (ends P (k + 1) h).foldl (t1 P lim hd) S := rfl
def FolC (l : Launch) (N0 : Nat) (G : XG) (s0 t0 b0 Z : Nat) (P : PK) (lim : Nat) (pn : Nat → List Nat) (ds : List (Nat × Nat)) (hd : List (Nat × Bool)) (k : Nat) : Prop := ∀ (w : Wd) (h : List Nat) (S : TS) (fw fr : Int32), RTown G w t0 Z P lim → RBooks G w b0 pn ds hd → RSrch G w s0 h S fw fr → (∀ x ∈ h, x < P.length) → XM l yX8_follow wsX8_follow (rmD (6 + k)) N0 G [.ref s0, .ref t0, .ref b0, .int (nI k)] w vV (fun _ w1 => RSrch G w1 s0 h ((ends P k h).foldl (t1 P lim hd) S) fw fr ∧ Out w w1 s0 (s0 + 4)) 0 0
theorem hall_cons {P : PK} {h : List Nat} {j : Nat} (hall : ∀ x ∈ h, x < P.length) (hj : j < P.length) : ∀ x ∈ j :: h, x < P.length := fun x hx => by
  rcases List.mem_cons.mp hx with e | e
  · rw [e]; exact hj
  · exact hall x e
theorem bnd32 {P : PK} {lim : Nat} {h : List Nat} (hall : ∀ x ∈ h, x < P.length) (h5 : P.length ≤ 5) : bnd P lim h < 32 := bnd_lt (m := 5) (fun x hx => by have := hall x hx; omega)
theorem nmax {a b : Nat} (ha : a < 2 ^ 31) (hb : b < 2 ^ 31) : (if nI a < nI b then nI b else nI a) = nI (max a b) := by
  by_cases h : a < b
  · rw [if_pos (nI_lt h hb), Nat.max_eq_right (by omega)]
  · rw [if_neg (nI_nlt (by omega) ha), Nat.max_eq_left (by omega)]
theorem nmin {a b : Nat} (ha : a < 2 ^ 31) (hb : b < 2 ^ 31) : (if nI b < nI a then nI b else nI a) = nI (min a b) := by
  by_cases h : b < a
  · rw [if_pos (nI_lt h ha), Nat.min_eq_right (by omega)]
  · rw [if_neg (nI_nlt (by omega) hb), Nat.min_eq_left (by omega)]
def askI (o : Option (Nat × Nat)) : Int32 := match o with | none => -1 | some q => nI q.1
def askM (ws : Nat) (o : Option (Nat × Nat)) : Nat := match o with | none => ws | some q => q.2
theorem nI_m1 {n : Nat} (h : n < 2 ^ 31) : nI n ≠ -1 := fun e => by
  have := nI_toInt h
  rw [e] at this
  have h2 : (-1 : Int32).toInt = -1 := by decide
  rw [h2] at this
  omega
theorem askGo_s1 {f : Nat → Nat} {i : Nat} (h : askGo f i = none) : askGo f (i + 1) = some (i, f i) := by rw [askGo, h]
theorem askGo_s2 {f : Nat → Nat} {i : Nat} {q : Nat × Nat} (h : askGo f i = some q) (hl : f i < q.2) : askGo f (i + 1) = some (i, f i) := by rw [askGo, h]; exact if_pos hl
theorem askGo_s3 {f : Nat → Nat} {i : Nat} {q : Nat × Nat} (h : askGo f i = some q) (hl : q.2 ≤ f i) : askGo f (i + 1) = some q := by rw [askGo, h]; exact if_neg (Nat.not_lt.mpr hl)
theorem askGo_lt {f : Nat → Nat} {M : Nat} (hM : ∀ i, f i ≤ M) : ∀ {i : Nat} {q : Nat × Nat}, askGo f i = some q → q.1 < i ∧ q.2 ≤ M
  | 0, _, h => by cases h
  | i + 1, q, h => by
    cases hq : askGo f i with
    | none => rw [askGo_s1 hq] at h; cases h; exact ⟨by omega, hM i⟩
    | some r =>
      have hr := askGo_lt hM hq
      rcases Nat.lt_or_ge (f i) r.2 with z | z
      · rw [askGo_s2 hq z] at h; cases h; exact ⟨by omega, hM i⟩
      · rw [askGo_s3 hq z] at h; cases h; exact ⟨by omega, hr.2⟩
theorem askI_none {f : Nat → Nat} {i : Nat} (hi : i ≤ 5) (h : askI (askGo f i) = -1) : askGo f i = none := by
  cases hq : askGo f i with
  | none => rfl
  | some q =>
    rw [hq] at h
    have : q.1 < i := by
      have : ∀ M, (∀ i, f i ≤ M) → q.1 < i := fun M hM => (askGo_lt hM hq).1
      clear h
      induction i generalizing q with
      | zero => cases hq
      | succ i ih =>
        cases hr : askGo f i with
        | none => rw [askGo_s1 hr] at hq; cases hq; omega
        | some r =>
          rcases Nat.lt_or_ge (f i) r.2 with z | z
          · rw [askGo_s2 hr z] at hq; cases hq; omega
          · rw [askGo_s3 hr z] at hq; cases hq
            exact Nat.lt_succ_of_lt (ih (by omega) q hr (fun M hM => (askGo_lt hM hr).1))
    exact absurd h (nI_m1 (by omega))
/-- the worst that is left when one is asked -/
def wrs (S : TS) (i : Nat) : Nat := max (S.2.2 i) (S.1 - S.2.2 i)
/-- ASK, out of what was tallied -/
def askR (S : TS) (n : Nat) : Int32 := if S.1 = 0 then -1 else askI (askGo (wrs S) n)
theorem t1_le {P : PK} {lim : Nat} {hd : List (Nat × Bool)} {S : TS} {g : List Nat} (h : ∀ i, S.2.2 i ≤ S.1) : (t1 P lim hd S g).1 ≤ S.1 + 1 ∧ ∀ i, (t1 P lim hd S g).2.2 i ≤ (t1 P lim hd S g).1 := by
  unfold t1
  split
  · refine ⟨Nat.le_refl _, fun i => ?_⟩
    have := h i
    show S.2.2 i + (if _ then 1 else 0) ≤ S.1 + 1
    split <;> omega
  · exact ⟨by omega, h⟩
theorem foldS_le {P : PK} {lim : Nat} {hd : List (Nat × Bool)} : ∀ (l : List (List Nat)) (S : TS), (∀ i, S.2.2 i ≤ S.1) → (l.foldl (t1 P lim hd) S).1 ≤ S.1 + l.length ∧ ∀ i, (l.foldl (t1 P lim hd) S).2.2 i ≤ (l.foldl (t1 P lim hd) S).1
  | [], S, h => ⟨by simp, h⟩
  | g :: l, S, h => by
    have h1 := t1_le (P := P) (lim := lim) (hd := hd) (g := g) h
    have h2 := foldS_le (P := P) (lim := lim) (hd := hd) l (t1 P lim hd S g) h1.2
    refine ⟨?_, h2.2⟩
    have := h2.1
    have := h1.1
    simp only [List.foldl_cons, List.length_cons]
    omega
theorem flat_len {f : Nat → List (List Nat)} {M : Nat} (hf : ∀ x, (f x).length ≤ M) : ∀ n, ((List.range n).flatMap f).length ≤ n * M
  | 0 => by simp
  | n + 1 => by
    rw [List.range_succ, List.flatMap_append, List.length_append, List.flatMap_cons, List.flatMap_nil, List.append_nil, Nat.succ_mul]
    have := flat_len hf n
    have := hf n
    omega
theorem ends_len {P : PK} (h5 : P.length ≤ 5) : ∀ (t : Nat) (h : List Nat), (ends P t h).length ≤ 5 ^ t
  | 0, h => by simp [ends]
  | t + 1, h => by
    rw [ends]
    have h1 := flat_len (f := fun x => if mayL P h x = true then ends P t (x :: h) else []) (M := 5 ^ t) (fun x => by
      split
      · exact ends_len h5 t _
      · simp) P.length
    have h2 : P.length * 5 ^ t ≤ 5 * 5 ^ t := Nat.mul_le_mul_right _ h5
    rw [Nat.pow_succ]
    omega
theorem handS_le {P : PK} {lim : Nat} {hd : List (Nat × Bool)} {t : Nat} {h : List Nat} (h5 : P.length ≤ 5) (ht : t ≤ 4) : (handS P lim hd t h).1 ≤ 625 ∧ ∀ i, (handS P lim hd t h).2.2 i ≤ (handS P lim hd t h).1 := by
  have h1 := foldS_le (P := P) (lim := lim) (hd := hd) (ends P t h) (0, 0, fun _ => 0) (fun _ => Nat.le_refl 0)
  refine ⟨?_, h1.2⟩
  have h2 := ends_len h5 t h
  have h3 : 5 ^ t ≤ 5 ^ 4 := Nat.pow_le_pow_right (by omega) ht
  have h4 := h1.1
  show ((ends P t h).foldl (t1 P lim hd) (0, 0, fun _ => 0)).1 ≤ 625
  have : (5 : Nat) ^ 4 = 625 := rfl
  simp only [Nat.zero_add] at h4
  omega
/-- 'first' behind reaches -/
def frA (P : PK) (lim st : Nat) (h : List Nat) (k : Nat) (fr : Int32) : Int32 := if reach P lim st k h = true then (match wfst P lim st h k with | some x => nI x | none => fr) else fr
def ReaC (l : Launch) (N0 : Nat) (G : XG) (s0 t0 Z : Nat) (P : PK) (lim st k : Nat) : Prop := ∀ (w : Wd) (h : List Nat) (S : TS) (fw fr : Int32), RTown G w t0 Z P lim → RSrch G w s0 h S fw fr → (∀ x ∈ h, x < P.length) → XM l yX8_reaches wsX8_reaches (rmD (6 + k)) N0 G [.ref s0, .ref t0, .int (nI st), .int (nI k)] w vI (fun r w1 => bI (reach P lim st k h) = r ∧ RSrch G w1 s0 h S fw (frA P lim st h k fr) ∧ Out w w1 s0 (s0 + 4)) 0 0
theorem frA_0 {P : PK} {lim st : Nat} {h : List Nat} {fr : Int32} : frA P lim st h 0 fr = fr := by
  unfold frA
  split <;> rfl
theorem any_no {p : Nat → Bool} : ∀ {n : Nat}, (∀ x, x < n → p x = false) → (List.range n).any p = false := by
  intro n h
  rw [List.any_eq_false]
  intro x hx
  rw [h x (List.mem_range.mp hx)]
  decide
theorem find_no {p : Nat → Bool} {n : Nat} (h : ∀ x, x < n → p x = false) : (List.range n).find? p = none := by
  rw [List.find?_eq_none]
  intro x hx
  rw [h x (List.mem_range.mp hx)]
  decide
theorem find_yes {p : Nat → Bool} {j : Nat} (h : ∀ x, x < j → p x = false) (hj : p j = true) : ∀ {n : Nat}, j < n → (List.range n).find? p = some j
  | 0, hn => absurd hn (Nat.not_lt_zero j)
  | n + 1, hn => by
    rw [List.range_succ, List.find?_append]
    rcases Nat.lt_or_ge j n with q | q
    · rw [find_yes h hj q]; rfl
    · rw [show n = j by omega, find_no h]
      simp [hj]
theorem any_yes {p : Nat → Bool} {j n : Nat} (hn : j < n) (hj : p j = true) : (List.range n).any p = true := List.any_eq_true.mpr ⟨j, List.mem_range.mpr hn, hj⟩
theorem rea_no {P : PK} {lim st k : Nat} {h : List Nat} (hno : ∀ x, x < P.length → (mayL P h x && reach P lim st k (x :: h)) = false) {fr : Int32} : reach P lim st (k + 1) h = false ∧ frA P lim st h (k + 1) fr = fr := by
  have e : reach P lim st (k + 1) h = false := any_no hno
  refine ⟨e, ?_⟩
  unfold frA
  rw [e]
  rfl
theorem rea_yes {P : PK} {lim st k j : Nat} {h : List Nat} (hno : ∀ x, x < j → (mayL P h x && reach P lim st k (x :: h)) = false) (hj : j < P.length) (hy : (mayL P h j && reach P lim st k (j :: h)) = true) {fr : Int32} : reach P lim st (k + 1) h = true ∧ frA P lim st h (k + 1) fr = nI j := by
  have e : reach P lim st (k + 1) h = true := any_yes hj hy
  refine ⟨e, ?_⟩
  unfold frA
  rw [e]
  have e2 : wfst P lim st h (k + 1) = some j := find_yes hno hy hj
  rw [e2]
  rfl
/-- the first number of times, of those below k -/
def wF (P : PK) (lim st : Nat) (h : List Nat) (k : Nat) : Option Nat := (List.range k).find? (fun t => reach P lim st t h)
def oI (o : Option Nat) : Int32 := match o with | none => -1 | some t => nI t
def frO (P : PK) (lim st : Nat) (h : List Nat) (o : Option Nat) : Int32 := match o with | none => -1 | some t => oI (wfst P lim st h t)
theorem wF_some {P : PK} {lim st : Nat} {h : List Nat} {t : Nat} : ∀ {k n : Nat}, wF P lim st h k = some t → k ≤ n → wF P lim st h n = some t
  | k, 0, hk, hn => by rw [show k = 0 by omega] at hk; exact hk
  | k, n + 1, hk, hn => by
    rcases Nat.lt_or_ge n k with q | q
    · rw [show n + 1 = k by omega]; exact hk
    · unfold wF
      rw [List.range_succ, List.find?_append]
      have := wF_some hk q
      unfold wF at this
      rw [this]; rfl
theorem wF_s1 {P : PK} {lim st : Nat} {h : List Nat} {k : Nat} (hk : wF P lim st h k = none) (hr : reach P lim st k h = true) : wF P lim st h (k + 1) = some k := by
  unfold wF at *
  rw [List.range_succ, List.find?_append, hk]
  simp [hr]
theorem wF_s0 {P : PK} {lim st : Nat} {h : List Nat} {k : Nat} (hk : wF P lim st h k = none) (hr : reach P lim st k h = false) : wF P lim st h (k + 1) = none := by
  unfold wF at *
  rw [List.range_succ, List.find?_append, hk]
  simp [hr]
theorem wF_lt {P : PK} {lim st : Nat} {h : List Nat} {k t : Nat} (hk : wF P lim st h k = some t) : t < k := by
  have := List.mem_of_find?_eq_some hk
  exact List.mem_range.mp this
theorem oI_none {o : Option Nat} (ho : ∀ t, o = some t → t < 100) (h : oI o = -1) : o = none := by
  cases o with
  | none => rfl
  | some t => exact absurd h (nI_m1 (by have := ho t rfl; omega))
theorem frA_y {P : PK} {lim st : Nat} {h : List Nat} {k : Nat} (hr : reach P lim st k h = true) : frA P lim st h k (-1) = frO P lim st h (some k) := by
  unfold frA frO
  rw [if_pos hr]
  show _ = oI (wfst P lim st h k)
  unfold oI
  cases wfst P lim st h k <;> rfl
theorem frA_n {P : PK} {lim st : Nat} {h : List Nat} {k : Nat} {fr : Int32} (hr : reach P lim st k h = false) : frA P lim st h k fr = fr := by
  unfold frA
  rw [hr]; rfl
theorem tal_1 {S : TS} {b i : Nat} {f1 : Nat → Int32} {x : Nat} (h : ∀ j, j < i → f1 j = nI (S.2.2 j + (if b.testBit j = true then 1 else 0))) (hx : x = (if b.testBit i = true then 1 else 0)) : ∀ j, j < i + 1 → upd f1 i (nI (S.2.2 i + x)) j = nI (S.2.2 j + (if b.testBit j = true then 1 else 0)) := fun j hj => by
  by_cases hji : j = i
  · subst hji; rw [pk_us, hx]
  · rw [pk_un hji]; exact h j (by omega)
theorem tal_2 {S : TS} {i : Nat} {f1 : Nat → Int32} {x : Int32} (h : ∀ j, i ≤ j → j < 5 → f1 j = nI (S.2.2 j)) : ∀ j, i + 1 ≤ j → j < 5 → upd f1 i x j = nI (S.2.2 j) := fun j hj h5 => by
  rw [pk_un (by omega)]; exact h j (by omega) h5
theorem reach_put {G : XG} {w : Wd} {s0 : Nat} {h : List Nat} {S : TS} {fw fr x : Int32} (hR : RSrch G w s0 h S fw fr) : RSrch G (wu w s0 (eO 8 [.ref (s0 + 1), .ref (s0 + 3), .int (nI S.1), .int (nI S.2.1), .int fw, .int x])) s0 h S fw x := by
  obtain ⟨f, a, b, c, d⟩ := id hR
  exact hR.puts (wu_eq _ _ _) (by rw [wu_nq (by omega)]; exact b) c (wu_nq (by omega)) (wu_nq (by omega))
theorem seek_put {G : XG} {w : Wd} {s0 : Nat} {P : PK} {lim st k : Nat} {h : List Nat} {S : TS} {fw : Int32} (hR : RSrch G w s0 h S fw (frA P lim st h k (-1))) (hr : reach P lim st k h = true) : RSrch G (wu w s0 (eO 8 [.ref (s0 + 1), .ref (s0 + 3), .int (nI S.1), .int (nI S.2.1), .int (nI k), .int (frA P lim st h k (-1))])) s0 h S (oI (some k)) (frO P lim st h (some k)) := by
  rw [← frA_y hr]
  obtain ⟨f, a, b, c, d⟩ := id hR
  exact hR.puts (wu_eq _ _ _) (by rw [wu_nq (by omega)]; exact b) c (wu_nq (by omega)) (wu_nq (by omega))
theorem seek_0 {G : XG} {w w5 : Wd} {s0 : Nat} {h g : List Nat} {S : TS} {fw fr : Int32} {P : PK} {lim st : Nat} (hR : RSrch G w s0 h S fw fr) (hp : RPen G w5 (s0 + 1) g) (ho : Out w w5 (s0 + 1) (s0 + 1 + 2)) : RSrch G (wu (wu w5 s0 (eO 8 [.ref (s0 + 1), .ref (s0 + 3), .int (nI S.1), .int (nI S.2.1), .int (-1), .int fr])) s0 (eO 8 [.ref (s0 + 1), .ref (s0 + 3), .int (nI S.1), .int (nI S.2.1), .int (-1), .int (-1)])) s0 g S (oI (wF P lim st g 0)) (frO P lim st g (wF P lim st g 0)) := by
  have h1 := hR.pen hp ho
  obtain ⟨f, a, b, c, d⟩ := id h1
  exact h1.puts (wu_eq _ _ _) (by rw [wu_nq (by omega), wu_nq (by omega)]; exact b) c (by rw [wu_nq (by omega), wu_nq (by omega)]) (by rw [wu_nq (by omega), wu_nq (by omega)])
set_option maxHeartbeats 4000000 in
set_option maxRecDepth 100000 in
theorem kX8_ways (l : Launch) (N0 : Nat) (G : XG) (w : Wd) (s0 : Nat) (h : List Nat) (S : TS) (fw fr : Int32) (hR : RSrch G w s0 h S fw fr) : XM l yX8_ways wsX8_ways (rmD 1) N0 G [.ref s0] w vI (fun r w1 => nI S.1 = r ∧ w = w1) 0 0 := by
  refine XM.of (cc := cX8_ways) (maxL := 1) (ret := (some .int)) (by decide) rfl (Nat.le_of_ble_eq_true rfl) ?_
  intro p e s m below meth c hx hb hr hlk hin0 hml hown hts hN hw hG hS ls hl
  have hown : s.vm.findClass RX8 = some m.cls := hown
  have hiX8 : ∀ x ∈ u_ws RX8 TX8 6, x ∈ wsX8_ways := by decide +kernel
  have hlnk0 := hts (.fieldLink RX8 22 "LentQuill$Search" "ways" "I") (by decide +kernel)
  have hl : lh ls 1 [some (.ref s0)] := hl
  obtain ⟨f, hs0, hs3, hsf, hpen⟩ := id hR
  refine xaload_n hx hb dX8_ways_0 hl rfl ?_
  refine xget (C := RX8) (T := TX8) (N := 6) hx hb (ci := 8) hts hiX8 hown hG hw (by repeat first | assumption | exact wu_eq _ _ _ | refine wu_ne (by omega) ?_) rfl 2 (by decide) hlnk0 (fun _ h9 => h9) rfl dX8_ways_1 ?_
  exact xiret hx hb hr hlk hw hS dX8_ways_4 ⟨rfl, rfl⟩
set_option maxHeartbeats 4000000 in
set_option maxRecDepth 100000 in
theorem kX8_holders (l : Launch) (N0 : Nat) (G : XG) (w : Wd) (s0 : Nat) (h : List Nat) (S : TS) (fw fr : Int32) (hR : RSrch G w s0 h S fw fr) : XM l yX8_holders wsX8_holders (rmD 1) N0 G [.ref s0] w vI (fun r w1 => nI S.2.1 = r ∧ w = w1) 0 0 := by
  refine XM.of (cc := cX8_holders) (maxL := 1) (ret := (some .int)) (by decide) rfl (Nat.le_of_ble_eq_true rfl) ?_
  intro p e s m below meth c hx hb hr hlk hin0 hml hown hts hN hw hG hS ls hl
  have hown : s.vm.findClass RX8 = some m.cls := hown
  have hiX8 : ∀ x ∈ u_ws RX8 TX8 6, x ∈ wsX8_holders := by decide +kernel
  have hlnk0 := hts (.fieldLink RX8 26 "LentQuill$Search" "holders" "I") (by decide +kernel)
  have hl : lh ls 1 [some (.ref s0)] := hl
  obtain ⟨f, hs0, hs3, hsf, hpen⟩ := id hR
  refine xaload_n hx hb dX8_holders_0 hl rfl ?_
  refine xget (C := RX8) (T := TX8) (N := 6) hx hb (ci := 8) hts hiX8 hown hG hw (by repeat first | assumption | exact wu_eq _ _ _ | refine wu_ne (by omega) ?_) rfl 3 (by decide) hlnk0 (fun _ h9 => h9) rfl dX8_holders_1 ?_
  exact xiret hx hb hr hlk hw hS dX8_holders_4 ⟨rfl, rfl⟩
set_option maxHeartbeats 4000000 in
set_option maxRecDepth 100000 in
theorem kX8_fewest (l : Launch) (N0 : Nat) (G : XG) (w : Wd) (s0 : Nat) (h : List Nat) (S : TS) (fw fr : Int32) (hR : RSrch G w s0 h S fw fr) : XM l yX8_fewest wsX8_fewest (rmD 1) N0 G [.ref s0] w vI (fun r w1 => fw = r ∧ w = w1) 0 0 := by
  refine XM.of (cc := cX8_fewest) (maxL := 1) (ret := (some .int)) (by decide) rfl (Nat.le_of_ble_eq_true rfl) ?_
  intro p e s m below meth c hx hb hr hlk hin0 hml hown hts hN hw hG hS ls hl
  have hown : s.vm.findClass RX8 = some m.cls := hown
  have hiX8 : ∀ x ∈ u_ws RX8 TX8 6, x ∈ wsX8_fewest := by decide +kernel
  have hlnk0 := hts (.fieldLink RX8 29 "LentQuill$Search" "fewest" "I") (by decide +kernel)
  have hl : lh ls 1 [some (.ref s0)] := hl
  obtain ⟨f, hs0, hs3, hsf, hpen⟩ := id hR
  refine xaload_n hx hb dX8_fewest_0 hl rfl ?_
  refine xget (C := RX8) (T := TX8) (N := 6) hx hb (ci := 8) hts hiX8 hown hG hw (by repeat first | assumption | exact wu_eq _ _ _ | refine wu_ne (by omega) ?_) rfl 4 (by decide) hlnk0 (fun _ h9 => h9) rfl dX8_fewest_1 ?_
  exact xiret hx hb hr hlk hw hS dX8_fewest_4 ⟨rfl, rfl⟩
set_option maxHeartbeats 4000000 in
set_option maxRecDepth 100000 in
theorem kX8_first (l : Launch) (N0 : Nat) (G : XG) (w : Wd) (s0 : Nat) (h : List Nat) (S : TS) (fw fr : Int32) (hR : RSrch G w s0 h S fw fr) : XM l yX8_first wsX8_first (rmD 1) N0 G [.ref s0] w vI (fun r w1 => fr = r ∧ w = w1) 0 0 := by
  refine XM.of (cc := cX8_first) (maxL := 1) (ret := (some .int)) (by decide) rfl (Nat.le_of_ble_eq_true rfl) ?_
  intro p e s m below meth c hx hb hr hlk hin0 hml hown hts hN hw hG hS ls hl
  have hown : s.vm.findClass RX8 = some m.cls := hown
  have hiX8 : ∀ x ∈ u_ws RX8 TX8 6, x ∈ wsX8_first := by decide +kernel
  have hlnk0 := hts (.fieldLink RX8 32 "LentQuill$Search" "first" "I") (by decide +kernel)
  have hl : lh ls 1 [some (.ref s0)] := hl
  obtain ⟨f, hs0, hs3, hsf, hpen⟩ := id hR
  refine xaload_n hx hb dX8_first_0 hl rfl ?_
  refine xget (C := RX8) (T := TX8) (N := 6) hx hb (ci := 8) hts hiX8 hown hG hw (by repeat first | assumption | exact wu_eq _ _ _ | refine wu_ne (by omega) ?_) rfl 5 (by decide) hlnk0 (fun _ h9 => h9) rfl dX8_first_1 ?_
  exact xiret hx hb hr hlk hw hS dX8_first_4 ⟨rfl, rfl⟩
set_option maxHeartbeats 4000000 in
set_option maxRecDepth 100000 in
theorem kX8_tallyEnd (l : Launch) (N0 : Nat) (G : XG) (w : Wd) (s0 : Nat) (h : List Nat) (S : TS) (fw fr : Int32) (hR : RSrch G w s0 h S fw fr) (b0 : Nat) (pn : Nat → List Nat) (ds : List (Nat × Nat)) (hd : List (Nat × Bool)) (hB : RBooks G w b0 pn ds hd) (b : Nat) (hb32 : b < 32) (hh0 : h.getD 0 0 < 5) : XM l yX8_tallyEnd wsX8_tallyEnd (rmD 2) N0 G [.ref s0, .int (nI b), .ref b0] w vV (fun _ w1 => RSrch G w1 s0 h (if okH hd b = true then (S.1 + 1, S.2.1 ||| 2 ^ (h.getD 0 0), fun i => S.2.2 i + (if b.testBit i = true then 1 else 0)) else S) fw fr ∧ Out w w1 s0 (s0 + 4)) 0 0 := by
  refine XM.of (cc := cX8_tallyEnd) (maxL := 4) (ret := none) (by decide) rfl (Nat.le_of_ble_eq_true rfl) ?_
  intro p e s m below meth c hx hb hr hlk hin0 hml hown hts hN hw hG hS ls hl
  have hown : s.vm.findClass RX8 = some m.cls := hown
  have hiX8 : ∀ x ∈ u_ws RX8 TX8 6, x ∈ wsX8_tallyEnd := by decide +kernel
  have hlnk0 := hts (.fieldLink RX8 22 "LentQuill$Search" "ways" "I") (by decide +kernel)
  have hlnk1 := hts (.fieldLink RX8 26 "LentQuill$Search" "holders" "I") (by decide +kernel)
  have hlnk2 := hts (.fieldLink RX8 12 "LentQuill$Search" "pen" "LLentQuill$Pen;") (by decide +kernel)
  have hlnk3 := hts (.fieldLink RX8 18 "LentQuill$Search" "waysBound" "[I") (by decide +kernel)
  have hlnk4 := hts (.initialized RX11) (by decide +kernel)
  have hlnk5 := hts (.static yX11_holds) (by decide +kernel)
  have hl : lh ls 4 [some (.ref s0), some (.int (nI b)), some (.ref b0), none] := hl
  obtain ⟨f, hs0, hs3, hsf, hpen⟩ := id hR
  obtain ⟨g, fd, fb, hb0, -⟩ := id hB
  refine xaload_n hx hb dX8_tallyEnd_0 hl rfl ?_
  refine xiload_n hx hb dX8_tallyEnd_1 hl rfl ?_
  refine xVi ⟨hx, hb, hml, hown, hts⟩ (kX2_agreesWithHeard l N0 G _ _ _ _ _ hB b hb32) (cwV 1 hts gX8_tallyEnd_X2_agreesWithHeard rfl rfl rfl (by decide +kernel) ⟨Nat.le_of_ble_eq_true rfl, Nat.le_of_ble_eq_true rfl⟩) hG hN hw hS (ci := 2) (by repeat first | assumption | exact wu_eq _ _ _ | refine wu_ne (by omega) ?_) rfl rfl hl.1 rfl (Nat.le_of_ble_eq_true rfl) dX8_tallyEnd_2 ⟨Nat.le_of_ble_eq_true rfl, Nat.le_of_ble_eq_true rfl⟩ (fun r2 w2 H locs hp2 hw hS => ?_)
  obtain ⟨rfl, rfl⟩ := hp2
  first | refine xifb_ne (tgt := 9) hx hb dX8_tallyEnd_5 (by decide) (fun c5 => ?_) (fun c5 => ?_) | refine xif_ne (tgt := 9) hx hb dX8_tallyEnd_5 (by decide) (by omega) (fun c5 => ?_) (fun c5 => ?_) | refine lv_if_ne (tgt := 9) hx hb dX8_tallyEnd_5 (by decide) (fun c5 => ?_) (fun c5 => ?_)
  · skip
    refine xaload_n hx hb dX8_tallyEnd_9 hl rfl ?_
    refine lv_dup hx hb dX8_tallyEnd_10 rfl ?_
    refine xget (C := RX8) (T := TX8) (N := 6) hx hb (ci := 8) hts hiX8 hown hG hw (by repeat first | assumption | exact wu_eq _ _ _ | refine wu_ne (by omega) ?_) rfl 2 (by decide) hlnk0 (fun _ h9 => h9) rfl dX8_tallyEnd_11 ?_
    refine lv_iconst (v := nI 1) hx hb dX8_tallyEnd_14 (by decide) ?_
    first | refine xadd hx hb dX8_tallyEnd_15 ?_ | refine lv_iadd hx hb dX8_tallyEnd_15 ?_
    refine xput (C := RX8) (T := TX8) (N := 6) hx hb (ci := 8) (ty := .int) hts hiX8 tyX8 tyX8_ok nmX8 hown hG hw hS (by repeat first | assumption | exact wu_eq _ _ _ | refine wu_ne (by omega) ?_) rfl 2 (by decide) hlnk0 (fun _ h9 => h9) rfl (by decide +kernel) rfl rfl (Nat.le_of_ble_eq_true rfl) dX8_tallyEnd_16 (fun H locs hzz hw hS => ?_)
    refine xaload_n hx hb dX8_tallyEnd_19 hl rfl ?_
    refine lv_dup hx hb dX8_tallyEnd_20 rfl ?_
    refine xget (C := RX8) (T := TX8) (N := 6) hx hb (ci := 8) hts hiX8 hown hG hw (by repeat first | assumption | exact wu_eq _ _ _ | refine wu_ne (by omega) ?_) rfl 3 (by decide) hlnk1 (fun _ h9 => h9) rfl dX8_tallyEnd_21 ?_
    refine lv_iconst (v := nI 1) hx hb dX8_tallyEnd_24 (by decide) ?_
    refine xaload_n hx hb dX8_tallyEnd_25 hl rfl ?_
    refine xget (C := RX8) (T := TX8) (N := 6) hx hb (ci := 8) hts hiX8 hown hG hw (by repeat first | assumption | exact wu_eq _ _ _ | refine wu_ne (by omega) ?_) rfl 0 (by decide) hlnk2 (fun _ h9 => h9) rfl dX8_tallyEnd_26 ?_
    have hpn1 : RPen G _ (s0 + 1) h := hpen.keep (w1 := wu w s0 (eO 8 [.ref (s0 + 1), .ref (s0 + 3), .int (nI (S.1 + 1)), .int (nI S.2.1), .int fw, .int fr])) (wu_nq (by omega)) (wu_nq (by omega))
    refine xVi ⟨hx, hb, hml, hown, hts⟩ (kX6_holder l N0 G _ _ _ hpn1) (cwV 0 hts gX8_tallyEnd_X6_holder rfl rfl rfl (by decide +kernel) ⟨Nat.le_of_ble_eq_true rfl, Nat.le_of_ble_eq_true rfl⟩) hG hN hw hS (ci := 6) hpn1.cell rfl rfl hl.1 rfl (Nat.le_of_ble_eq_true rfl) dX8_tallyEnd_29 ⟨Nat.le_of_ble_eq_true rfl, Nat.le_of_ble_eq_true rfl⟩ (fun r29 w29 H locs hp29 hw hS => ?_)
    obtain ⟨rfl, rfl⟩ := hp29
    first | refine xshl hx hb dX8_tallyEnd_32 (by omega) ?_ | refine lv_ishl hx hb dX8_tallyEnd_32 ?_
    first | refine xor_ hx hb dX8_tallyEnd_33 ?_ | refine lv_ior hx hb dX8_tallyEnd_33 ?_
    refine xput (C := RX8) (T := TX8) (N := 6) hx hb (ci := 8) (ty := .int) hts hiX8 tyX8 tyX8_ok nmX8 hown hG hw hS (by repeat first | assumption | exact wu_eq _ _ _ | refine wu_ne (by omega) ?_) rfl 3 (by decide) hlnk1 (fun _ h9 => h9) rfl (by decide +kernel) rfl rfl (Nat.le_of_ble_eq_true rfl) dX8_tallyEnd_34 (fun H locs hzz hw hS => ?_)
    refine lv_iconst (v := nI 0) hx hb dX8_tallyEnd_37 (by decide) ?_
    refine xistore_n hx hb dX8_tallyEnd_38 hl (by decide) rfl (fun ls hl => ?_)
    have loop39 : ∀ (nf : Nat) (i : Nat) (w1 : Wd) (f1 : Nat → Int32) (H : Heap) (locs : List Loc) (ls : Array Slot), 5 - i < nf → (i ≤ 5) → (w1 s0 = some (eO 8 [.ref (s0 + 1), .ref (s0 + 3), .int (nI (S.1 + 1)), .int (nI (S.2.1 ||| 2 ^ (h.getD 0 0))), .int fw, .int fr])) → (w1 (s0 + 3) = some (eI G 5 f1)) → (w1 (s0 + 1) = w (s0 + 1)) → (w1 (s0 + 2) = w (s0 + 2)) → (∀ j, j < i → f1 j = nI (S.2.2 j + (if b.testBit j = true then 1 else 0))) → (∀ j, i ≤ j → j < 5 → f1 j = nI (S.2.2 j)) → (Out w w1 s0 (s0 + 4)) → PW N0 G w1 H → va_S (fun q => N0 ≤ q) s.heap H locs → lh ls 4 [some (.ref s0), some (.int (nI b)), some (.ref b0), some (.int (nI i))] → W p l e (rmD 2) s m ([.ref s0, .int (nI b), .ref b0] : List Value).toArray below meth c H locs 0 0 (MQ below (XQ N0 G vV (fun _ w1 => RSrch G w1 s0 h (if okH hd b = true then (S.1 + 1, S.2.1 ||| 2 ^ (h.getD 0 0), fun i => S.2.2 i + (if b.testBit i = true then 1 else 0)) else S) fw fr ∧ Out w w1 s0 (s0 + 4))) ([.ref s0, .int (nI b), .ref b0] : List Value).toArray s 0 0 (fun q => N0 ≤ q)) (F0 m 39 ls []) := by
      intro nf
      induction nf with
      | zero => intros; omega
      | succ nf ih39 =>
        intro i w1 f1 H locs ls hnf hi e0 e3 ep eq ef1 ef2 hO1 hw hS hl
        refine xiload_n hx hb dX8_tallyEnd_39 hl rfl ?_
        refine xaload_n hx hb dX8_tallyEnd_40 hl rfl ?_
        refine xget (C := RX8) (T := TX8) (N := 6) hx hb (ci := 8) hts hiX8 hown hG hw (by repeat first | assumption | exact wu_eq _ _ _ | refine wu_ne (by omega) ?_) rfl 1 (by decide) hlnk3 (fun _ h9 => h9) rfl dX8_tallyEnd_41 ?_
        first | refine xalenI hx hb hG hw (by repeat first | assumption | exact wu_eq _ _ _ | refine wu_ne (by omega) ?_) dX8_tallyEnd_44 ?_ | refine xalenP hx hb hG hw (by repeat first | assumption | exact wu_eq _ _ _ | refine wu_ne (by omega) ?_) dX8_tallyEnd_44 ?_ | refine xalenN hx hb hG hw (by repeat first | assumption | exact wu_eq _ _ _ | refine wu_ne (by omega) ?_) dX8_tallyEnd_44 ?_
        first | refine xcmp_ge (tgt := 76) hx hb dX8_tallyEnd_45 (by decide) (by omega) (by omega) (fun c45 => ?_) (fun c45 => ?_) | refine lv_icmp_ge (tgt := 76) hx hb dX8_tallyEnd_45 (by decide) (fun c45 => ?_) (fun c45 => ?_)
        · skip
          exact xvret hx hb hr hlk hw hS dX8_tallyEnd_76 ⟨by rw [if_pos c5]; exact hR.puts e0 e3 (fun j hj => ef1 j (by omega)) ep eq, hO1⟩
        · skip
          refine xaload_n hx hb dX8_tallyEnd_48 hl rfl ?_
          refine xget (C := RX8) (T := TX8) (N := 6) hx hb (ci := 8) hts hiX8 hown hG hw (by repeat first | assumption | exact wu_eq _ _ _ | refine wu_ne (by omega) ?_) rfl 1 (by decide) hlnk3 (fun _ h9 => h9) rfl dX8_tallyEnd_49 ?_
          refine xiload_n hx hb dX8_tallyEnd_52 hl rfl ?_
          refine lv_dup2_11 hx hb dX8_tallyEnd_53 rfl rfl ?_
          refine xiald hx hb hG hw e3 (by omega) (by omega) dX8_tallyEnd_54 ?_
          refine xtop (ef2 i (Nat.le_refl i) (by omega)) ?_
          refine xiload_n hx hb dX8_tallyEnd_55 hl rfl ?_
          refine xiload_n hx hb dX8_tallyEnd_56 hl rfl ?_
          refine xSNi ⟨hx, hb, hml, hown, hts⟩ (kX11_holds l N0 G _ b i hb32 (by omega)) ⟨(va_cnB (host := "LentQuill") 2 hts gX8_tallyEnd_X11_holds_n83 rfl rfl rfl (hG.2.1 (.methodLinkNest RX8 83 yX11_holds "LentQuill") (by decide +kernel)) hlnk4 (by decide +kernel) ⟨Nat.le_of_ble_eq_true rfl, Nat.le_of_ble_eq_true rfl⟩), hlnk5, trivial⟩ hG hN hw hS rfl hl.1 rfl (Nat.le_of_ble_eq_true rfl) dX8_tallyEnd_57 ⟨Nat.le_of_ble_eq_true rfl, Nat.le_of_ble_eq_true rfl⟩ (fun r57 w57 H locs hp57 hw hS => ?_)
          obtain ⟨rfl, rfl⟩ := hp57
          first | refine xifb_eq (tgt := 67) hx hb dX8_tallyEnd_60 (by decide) (fun c60 => ?_) (fun c60 => ?_) | refine xif_eq (tgt := 67) hx hb dX8_tallyEnd_60 (by decide) (by omega) (fun c60 => ?_) (fun c60 => ?_) | refine lv_if_eq (tgt := 67) hx hb dX8_tallyEnd_60 (by decide) (fun c60 => ?_) (fun c60 => ?_)
          · skip
            refine lv_iconst (v := nI 0) hx hb dX8_tallyEnd_67 (by decide) ?_
            first | refine xadd hx hb dX8_tallyEnd_68 ?_ | refine lv_iadd hx hb dX8_tallyEnd_68 ?_
            refine xiast hx hb hG hw hS (by repeat first | assumption | exact wu_eq _ _ _ | refine wu_ne (by omega) ?_) (by omega) (by omega) dX8_tallyEnd_69 (fun H locs hzz hw hS => ?_)
            first | refine xiincN hx hb 1 dX8_tallyEnd_70 hl rfl (by decide) (by decide) rfl (fun ls hl => ?_) | refine xiinc hx hb dX8_tallyEnd_70 hl rfl rfl (by decide) rfl (fun ls hl => ?_)
            refine lv_goto (tgt := 39) hx hb dX8_tallyEnd_73 (by decide) ?_
            exact ih39 (i + 1) _ _ _ _ _ (by omega) (by omega) (by rw [wu_nq (by omega)]; exact e0) (wu_eq _ _ _) (by rw [wu_nq (by omega)]; exact ep) (by rw [wu_nq (by omega)]; exact eq) (tal_1 ef1 (by first | rw [if_pos c60] | (rw [if_neg (by rw [c60]; decide)]))) (tal_2 ef2) (hO1.wu (by omega) (by omega)) hw hS hl
          · skip
            refine lv_iconst (v := nI 1) hx hb dX8_tallyEnd_63 (by decide) ?_
            refine lv_goto (tgt := 68) hx hb dX8_tallyEnd_64 (by decide) ?_
            first | refine xadd hx hb dX8_tallyEnd_68 ?_ | refine lv_iadd hx hb dX8_tallyEnd_68 ?_
            refine xiast hx hb hG hw hS (by repeat first | assumption | exact wu_eq _ _ _ | refine wu_ne (by omega) ?_) (by omega) (by omega) dX8_tallyEnd_69 (fun H locs hzz hw hS => ?_)
            first | refine xiincN hx hb 1 dX8_tallyEnd_70 hl rfl (by decide) (by decide) rfl (fun ls hl => ?_) | refine xiinc hx hb dX8_tallyEnd_70 hl rfl rfl (by decide) rfl (fun ls hl => ?_)
            refine lv_goto (tgt := 39) hx hb dX8_tallyEnd_73 (by decide) ?_
            exact ih39 (i + 1) _ _ _ _ _ (by omega) (by omega) (by rw [wu_nq (by omega)]; exact e0) (wu_eq _ _ _) (by rw [wu_nq (by omega)]; exact ep) (by rw [wu_nq (by omega)]; exact eq) (tal_1 ef1 (by first | rw [if_pos c60] | (rw [if_neg (by rw [c60]; decide)]))) (tal_2 ef2) (hO1.wu (by omega) (by omega)) hw hS hl
    exact loop39 6 0 _ f _ _ _ (by omega) (by omega) (by repeat first | assumption | exact wu_eq _ _ _ | refine wu_ne (by omega) ?_) (by repeat first | assumption | exact wu_eq _ _ _ | refine wu_ne (by omega) ?_) (by rw [wu_nq (by omega), wu_nq (by omega)]) (by rw [wu_nq (by omega), wu_nq (by omega)]) (fun j hj => absurd hj (Nat.not_lt_zero j)) (fun j _ hj => hsf j hj) ((Out.rf.wu (by omega) (by omega)).wu (by omega) (by omega)) hw hS hl
  · skip
    exact xvret hx hb hr hlk hw hS dX8_tallyEnd_8 ⟨by rw [if_neg (by rw [c5]; decide)]; exact hR, Out.rf⟩
set_option maxHeartbeats 4000000 in
set_option maxRecDepth 100000 in
theorem kX8_follow_0 (l : Launch) (N0 : Nat) (G : XG) (w : Wd) (s0 : Nat) (h : List Nat) (S : TS) (fw fr : Int32) (hR : RSrch G w s0 h S fw fr) (t0 Z : Nat) (P : PK) (lim : Nat) (ht : RTown G w t0 Z P lim) (b0 : Nat) (pn : Nat → List Nat) (ds : List (Nat × Nat)) (hd : List (Nat × Bool)) (hB : RBooks G w b0 pn ds hd) (hsep : (t0 + 2 ≤ s0 ∨ s0 + 4 ≤ t0) ∧ (b0 + 14 ≤ s0 ∨ s0 + 4 ≤ b0) ∧ s0 + 4 ≤ Z) (hall : ∀ x ∈ h, x < P.length) : XM l yX8_follow wsX8_follow (rmD 6) N0 G [.ref s0, .ref t0, .ref b0, .int (nI 0)] w vV (fun _ w1 => RSrch G w1 s0 h ((ends P 0 h).foldl (t1 P lim hd) S) fw fr ∧ Out w w1 s0 (s0 + 4)) 0 0 := by
  refine XM.of (cc := cX8_follow) (maxL := 5) (ret := none) (by decide) rfl (Nat.le_of_ble_eq_true rfl) ?_
  intro p e s m below meth c hx hb hr hlk hin0 hml hown hts hN hw hG hS ls hl
  have hown : s.vm.findClass RX8 = some m.cls := hown
  have hiX8 : ∀ x ∈ u_ws RX8 TX8 6, x ∈ wsX8_follow := by decide +kernel
  have hlnk0 := hts (.fieldLink RX8 12 "LentQuill$Search" "pen" "LLentQuill$Pen;") (by decide +kernel)
  have hl : lh ls 5 [some (.ref s0), some (.ref t0), some (.ref b0), some (.int (nI 0)), none] := hl
  obtain ⟨f, hs0, hs3, hsf, hpen⟩ := id hR
  obtain ⟨hl0, hl41⟩ := hpen.len
  obtain ⟨h5, -⟩ := ht.five
  have hh0 := getD_lt hall hl0
  have htc := ht.cell
  refine xiload_n hx hb dX8_follow_0 hl rfl ?_
  refine xif_gt (tgt := 18) hx hb dX8_follow_1 (by decide) (by omega) (fun c1 => ?_) (fun c1 => ?_)
  · skip
    exfalso
    omega
  · skip
    refine xaload_n hx hb dX8_follow_4 hl rfl ?_
    refine xaload_n hx hb dX8_follow_5 hl rfl ?_
    refine xaload_n hx hb dX8_follow_6 hl rfl ?_
    refine xget (C := RX8) (T := TX8) (N := 6) hx hb (ci := 8) hts hiX8 hown hG hw (by repeat first | assumption | exact wu_eq _ _ _ | refine wu_ne (by omega) ?_) rfl 0 (by decide) hlnk0 (fun _ h9 => h9) rfl dX8_follow_7 ?_
    refine xVi ⟨hx, hb, hml, hown, hts⟩ (kX10_boundBy l N0 G _ _ Z P lim ht _ h hpen hall) (cwV 1 hts gX8_follow_X10_boundBy rfl rfl rfl (by decide +kernel) ⟨Nat.le_of_ble_eq_true rfl, Nat.le_of_ble_eq_true rfl⟩) hG hN hw hS (ci := 10) (by repeat first | assumption | exact wu_eq _ _ _ | refine wu_ne (by omega) ?_) rfl rfl hl.1 rfl (Nat.le_of_ble_eq_true rfl) dX8_follow_10 ⟨Nat.le_of_ble_eq_true rfl, Nat.le_of_ble_eq_true rfl⟩ (fun r10 w10 H locs hp10 hw hS => ?_)
    obtain ⟨rfl, rfl⟩ := hp10
    refine xaload_n hx hb dX8_follow_13 hl rfl ?_
    refine xVv ⟨hx, hb, hml, hown, hts⟩ (kX8_tallyEnd l N0 G _ _ h S fw fr hR _ pn ds hd hB _ (bnd32 hall h5) (by omega)) (cwV 2 hts gX8_follow_X8_tallyEnd rfl rfl rfl (by decide +kernel) ⟨Nat.le_of_ble_eq_true rfl, Nat.le_of_ble_eq_true rfl⟩) hG hN hw hS (ci := 8) (by repeat first | assumption | exact wu_eq _ _ _ | refine wu_ne (by omega) ?_) rfl rfl hl.1 rfl (Nat.le_of_ble_eq_true rfl) dX8_follow_14 ⟨Nat.le_of_ble_eq_true rfl, Nat.le_of_ble_eq_true rfl⟩ (fun r14 w14 H locs hp14 hw hS => ?_)
    obtain ⟨hR1, hO1⟩ := hp14
    exact xvret hx hb hr hlk hw hS dX8_follow_17 ⟨hR1, hO1⟩
set_option maxHeartbeats 4000000 in
set_option maxRecDepth 100000 in
theorem kX8_follow_s (l : Launch) (N0 : Nat) (G : XG) (w : Wd) (s0 : Nat) (h : List Nat) (S : TS) (fw fr : Int32) (hR : RSrch G w s0 h S fw fr) (t0 Z : Nat) (P : PK) (lim : Nat) (ht : RTown G w t0 Z P lim) (b0 : Nat) (pn : Nat → List Nat) (ds : List (Nat × Nat)) (hd : List (Nat × Bool)) (hB : RBooks G w b0 pn ds hd) (hsep : (t0 + 2 ≤ s0 ∨ s0 + 4 ≤ t0) ∧ (b0 + 14 ≤ s0 ∨ s0 + 4 ≤ b0) ∧ s0 + 4 ≤ Z) (hall : ∀ x ∈ h, x < P.length) (k : Nat) (hk4 : k ≤ 4) (ih : FolC l N0 G s0 t0 b0 Z P lim pn ds hd k) : XM l yX8_follow wsX8_follow (rmD (6 + (k + 1))) N0 G [.ref s0, .ref t0, .ref b0, .int (nI (k + 1))] w vV (fun _ w1 => RSrch G w1 s0 h ((ends P (k + 1) h).foldl (t1 P lim hd) S) fw fr ∧ Out w w1 s0 (s0 + 4)) 0 0 := by
  refine XM.of (cc := cX8_follow) (maxL := 5) (ret := none) (by decide) rfl (Nat.le_of_ble_eq_true rfl) ?_
  intro p e s m below meth c hx hb hr hlk hin0 hml hown hts hN hw hG hS ls hl
  have hown : s.vm.findClass RX8 = some m.cls := hown
  have hiX8 : ∀ x ∈ u_ws RX8 TX8 6, x ∈ wsX8_follow := by decide +kernel
  have hlnk0 := hts (.fieldLink RX8 12 "LentQuill$Search" "pen" "LLentQuill$Pen;") (by decide +kernel)
  have hl : lh ls 5 [some (.ref s0), some (.ref t0), some (.ref b0), some (.int (nI (k + 1))), none] := hl
  obtain ⟨h5, -⟩ := ht.five
  refine xiload_n hx hb dX8_follow_0 hl rfl ?_
  refine xif_gt (tgt := 18) hx hb dX8_follow_1 (by decide) (by omega) (fun c1 => ?_) (fun c1 => ?_)
  · skip
    refine lv_iconst (v := nI 0) hx hb dX8_follow_18 (by decide) ?_
    refine xistore hx hb dX8_follow_19 hl (by decide) rfl (fun ls hl => ?_)
    have loop21 : ∀ (nf : Nat) (j : Nat) (w1 : Wd) (H : Heap) (locs : List Loc) (ls : Array Slot), P.length - j < nf → (j ≤ P.length) → (RSrch G w1 s0 h (FolS P lim hd h k S j) fw fr) → (Out w w1 s0 (s0 + 4)) → PW N0 G w1 H → va_S (fun q => N0 ≤ q) s.heap H locs → lh ls 5 [some (.ref s0), some (.ref t0), some (.ref b0), some (.int (nI (k + 1))), some (.int (nI j))] → W p l e (rmD (6 + (k + 1))) s m ([.ref s0, .ref t0, .ref b0, .int (nI (k + 1))] : List Value).toArray below meth c H locs 0 0 (MQ below (XQ N0 G vV (fun _ w1 => RSrch G w1 s0 h ((ends P (k + 1) h).foldl (t1 P lim hd) S) fw fr ∧ Out w w1 s0 (s0 + 4))) ([.ref s0, .ref t0, .ref b0, .int (nI (k + 1))] : List Value).toArray s 0 0 (fun q => N0 ≤ q)) (F0 m 21 ls []) := by
      intro nf
      induction nf with
      | zero => intros; omega
      | succ nf ih21 =>
        intro j w1 H locs ls hnf hj hR1 hO1 hw hS hl
        have ht1 := ht.out hO1 hsep.1 hsep.2.2
        have hB1 := hB.out hO1 hsep.2.1
        have htc := ht1.cell
        have hsc := hR1.cell
        have hpen := hR1.rpen
        obtain ⟨hl0, hl41⟩ := hpen.len
        refine xiload hx hb dX8_follow_21 hl rfl ?_
        refine xaload_n hx hb dX8_follow_23 hl rfl ?_
        refine xVi ⟨hx, hb, hml, hown, hts⟩ (kX10_size l N0 G _ _ Z P lim ht1) (cwV 0 hts gX8_follow_X10_size rfl rfl rfl (by decide +kernel) ⟨by simp only [rmD]; omega, by simp only [rmD]; omega⟩) hG hN hw hS (ci := 10) (by repeat first | assumption | exact wu_eq _ _ _ | refine wu_ne (by omega) ?_) rfl rfl hl.1 rfl (Nat.le_of_ble_eq_true rfl) dX8_follow_24 ⟨Nat.le_refl _, Nat.le_refl _⟩ (fun r24 w24 H locs hp24 hw hS => ?_)
        obtain ⟨rfl, rfl⟩ := hp24
        first | refine xcmp_ge (tgt := 74) hx hb dX8_follow_27 (by decide) (by omega) (by omega) (fun c27 => ?_) (fun c27 => ?_) | refine lv_icmp_ge (tgt := 74) hx hb dX8_follow_27 (by decide) (fun c27 => ?_) (fun c27 => ?_)
        · skip
          exact xvret hx hb hr hlk hw hS dX8_follow_74 ⟨by rw [← FolS_n, ← show j = P.length by omega]; exact hR1, hO1⟩
        · skip
          refine xaload_n hx hb dX8_follow_30 hl rfl ?_
          refine xaload_n hx hb dX8_follow_31 hl rfl ?_
          refine xget (C := RX8) (T := TX8) (N := 6) hx hb (ci := 8) hts hiX8 hown hG hw (by repeat first | assumption | exact wu_eq _ _ _ | refine wu_ne (by omega) ?_) rfl 0 (by decide) hlnk0 (fun _ h9 => h9) rfl dX8_follow_32 ?_
          refine xiload hx hb dX8_follow_35 hl rfl ?_
          refine xVi ⟨hx, hb, hml, hown, hts⟩ (kX10_canBeLent l N0 G _ _ Z P lim ht1 _ h hpen hall j c27) (cwV 2 hts gX8_follow_X10_canBeLent rfl rfl rfl (by decide +kernel) ⟨by simp only [rmD]; omega, by simp only [rmD]; omega⟩) hG hN hw hS (ci := 10) (by repeat first | assumption | exact wu_eq _ _ _ | refine wu_ne (by omega) ?_) rfl rfl hl.1 rfl (Nat.le_of_ble_eq_true rfl) dX8_follow_37 ⟨Nat.le_refl _, Nat.le_refl _⟩ (fun r37 w37 H locs hp37 hw hS => ?_)
          obtain ⟨rfl, rfl⟩ := hp37
          first | refine xifb_eq (tgt := 68) hx hb dX8_follow_40 (by decide) (fun c40 => ?_) (fun c40 => ?_) | refine xif_eq (tgt := 68) hx hb dX8_follow_40 (by decide) (by omega) (fun c40 => ?_) (fun c40 => ?_) | refine lv_if_eq (tgt := 68) hx hb dX8_follow_40 (by decide) (fun c40 => ?_) (fun c40 => ?_)
          · skip
            first | refine xiincN hx hb 1 dX8_follow_68 hl rfl (by decide) (by decide) rfl (fun ls hl => ?_) | refine xiinc hx hb dX8_follow_68 hl rfl rfl (by decide) rfl (fun ls hl => ?_)
            refine lv_goto (tgt := 21) hx hb dX8_follow_71 (by decide) ?_
            have hF := FolS_s P lim hd h k S j
            first | rw [if_pos c40] at hF | rw [if_neg (by rw [c40]; decide)] at hF
            exact ih21 (j + 1) _ _ _ _ (by omega) (by omega) (by rw [hF]; first | exact hR4 | exact hR1) (by first | exact hO4 | exact hO1) hw hS hl
          · skip
            refine xaload_n hx hb dX8_follow_43 hl rfl ?_
            refine xget (C := RX8) (T := TX8) (N := 6) hx hb (ci := 8) hts hiX8 hown hG hw (by repeat first | assumption | exact wu_eq _ _ _ | refine wu_ne (by omega) ?_) rfl 0 (by decide) hlnk0 (fun _ h9 => h9) rfl dX8_follow_44 ?_
            refine xiload hx hb dX8_follow_47 hl rfl ?_
            refine xVv ⟨hx, hb, hml, hown, hts⟩ (kX6_passTo l N0 G _ _ _ hpen j (mayL_len c40)) (cwV 1 hts gX8_follow_X6_passTo rfl rfl rfl (by decide +kernel) ⟨by simp only [rmD]; omega, by simp only [rmD]; omega⟩) hG hN hw hS (ci := 6) hpen.cell rfl rfl hl.1 rfl (Nat.le_of_ble_eq_true rfl) dX8_follow_49 ⟨Nat.le_refl _, Nat.le_refl _⟩ (fun r49 w49 H locs hp49 hw hS => ?_)
            obtain ⟨hp2, hO2⟩ := hp49
            have hR2 := hR1.pen hp2 hO2
            have ht2 := ht1.out hO2 (by omega) (by omega)
            have hB2 := hB1.out hO2 (by omega)
            have hsc2 := hR2.cell
            refine xaload_n hx hb dX8_follow_52 hl rfl ?_
            refine xaload_n hx hb dX8_follow_53 hl rfl ?_
            refine xaload_n hx hb dX8_follow_54 hl rfl ?_
            refine xiload_n hx hb dX8_follow_55 hl rfl ?_
            refine lv_iconst (v := nI 1) hx hb dX8_follow_56 (by decide) ?_
            first | refine xsub hx hb dX8_follow_57 (by omega) ?_ | refine lv_isub hx hb dX8_follow_57 ?_
            refine xVv ⟨hx, hb, hml, hown, hts⟩ (ih w49 (j :: h) _ fw fr ht2 hB2 hR2 (hall_cons hall c27)) (cwV 3 hts gX8_follow_X8_follow rfl rfl rfl (by decide +kernel) ⟨by simp only [rmD]; omega, by simp only [rmD]; omega⟩) hG hN hw hS (ci := 8) (by repeat first | assumption | exact wu_eq _ _ _ | refine wu_ne (by omega) ?_) rfl rfl hl.1 rfl (Nat.le_of_ble_eq_true rfl) dX8_follow_58 ⟨Nat.le_refl _, Nat.le_refl _⟩ (fun r58 w58 H locs hp58 hw hS => ?_)
            obtain ⟨hR3, hO3⟩ := hp58
            have hsc3 := hR3.cell
            refine xaload_n hx hb dX8_follow_61 hl rfl ?_
            refine xget (C := RX8) (T := TX8) (N := 6) hx hb (ci := 8) hts hiX8 hown hG hw (by repeat first | assumption | exact wu_eq _ _ _ | refine wu_ne (by omega) ?_) rfl 0 (by decide) hlnk0 (fun _ h9 => h9) rfl dX8_follow_62 ?_
            refine xVv ⟨hx, hb, hml, hown, hts⟩ (kX6_takeBack l N0 G _ _ _ hR3.rpen (by simp only [List.length_cons]; omega)) (cwV 0 hts gX8_follow_X6_takeBack rfl rfl rfl (by decide +kernel) ⟨by simp only [rmD]; omega, by simp only [rmD]; omega⟩) hG hN hw hS (ci := 6) hR3.rpen.cell rfl rfl hl.1 rfl (Nat.le_of_ble_eq_true rfl) dX8_follow_65 ⟨Nat.le_refl _, Nat.le_refl _⟩ (fun r65 w65 H locs hp65 hw hS => ?_)
            obtain ⟨hp4, hO4a⟩ := hp65
            have hR4 : RSrch G w65 s0 h _ fw fr := hR3.pen hp4 hO4a
            have hO4 := ((hO1.tr hO2 (by omega) (by omega)).tr hO3 (by omega) (by omega)).tr hO4a (by omega) (by omega)
            first | refine xiincN hx hb 1 dX8_follow_68 hl rfl (by decide) (by decide) rfl (fun ls hl => ?_) | refine xiinc hx hb dX8_follow_68 hl rfl rfl (by decide) rfl (fun ls hl => ?_)
            refine lv_goto (tgt := 21) hx hb dX8_follow_71 (by decide) ?_
            have hF := FolS_s P lim hd h k S j
            first | rw [if_pos c40] at hF | rw [if_neg (by rw [c40]; decide)] at hF
            exact ih21 (j + 1) _ _ _ _ (by omega) (by omega) (by rw [hF]; first | exact hR4 | exact hR1) (by first | exact hO4 | exact hO1) hw hS hl
    exact loop21 (P.length + 1) 0 w _ _ _ (by omega) (by omega) hR Out.rf hw hS hl
  · skip
    exfalso
    omega
theorem kX8_follow (l : Launch) (N0 : Nat) (G : XG) (s0 t0 b0 Z : Nat) (P : PK) (lim : Nat) (pn : Nat → List Nat) (ds : List (Nat × Nat)) (hd : List (Nat × Bool)) (hsep : (t0 + 2 ≤ s0 ∨ s0 + 4 ≤ t0) ∧ (b0 + 14 ≤ s0 ∨ s0 + 4 ≤ b0) ∧ s0 + 4 ≤ Z) : ∀ k, k ≤ 4 → FolC l N0 G s0 t0 b0 Z P lim pn ds hd k
  | 0, _ => fun w h S fw fr ht hB hR hall => kX8_follow_0 l N0 G w s0 h S fw fr hR t0 Z P lim ht b0 pn ds hd hB hsep hall
  | k + 1, hk => fun w h S fw fr ht hB hR hall => kX8_follow_s l N0 G w s0 h S fw fr hR t0 Z P lim ht b0 pn ds hd hB hsep hall k (by omega) (kX8_follow l N0 G s0 t0 b0 Z P lim pn ds hd hsep k (by omega))
set_option maxHeartbeats 4000000 in
set_option maxRecDepth 100000 in
theorem kX8_tally (l : Launch) (N0 : Nat) (G : XG) (w : Wd) (s0 : Nat) (h : List Nat) (S : TS) (fw fr : Int32) (hR : RSrch G w s0 h S fw fr) (t0 Z : Nat) (P : PK) (lim : Nat) (ht : RTown G w t0 Z P lim) (b0 : Nat) (pn : Nat → List Nat) (ds : List (Nat × Nat)) (hd : List (Nat × Bool)) (hB : RBooks G w b0 pn ds hd) (hsep : (t0 + 2 ≤ s0 ∨ s0 + 4 ≤ t0) ∧ (b0 + 14 ≤ s0 ∨ s0 + 4 ≤ b0) ∧ s0 + 4 ≤ Z) (q0 : Nat) (g : List Nat) (hq : RPen G w q0 g) (hqs : q0 + 2 ≤ s0 ∨ s0 + 4 ≤ q0) (hall : ∀ x ∈ g, x < P.length) (k : Nat) (hk4 : k ≤ 4) : XM l yX8_tally wsX8_tally (rmD 11) N0 G [.ref s0, .ref t0, .ref q0, .int (nI k), .ref b0] w vV (fun _ w1 => RSrch G w1 s0 g (handS P lim hd k g) fw fr ∧ Out w w1 s0 (s0 + 4)) 0 0 := by
  refine XM.of (cc := cX8_tally) (maxL := 6) (ret := none) (by decide) rfl (Nat.le_of_ble_eq_true rfl) ?_
  intro p e s m below meth c hx hb hr hlk hin0 hml hown hts hN hw hG hS ls hl
  have hown : s.vm.findClass RX8 = some m.cls := hown
  have hiX8 : ∀ x ∈ u_ws RX8 TX8 6, x ∈ wsX8_tally := by decide +kernel
  have hlnk0 := hts (.fieldLink RX8 12 "LentQuill$Search" "pen" "LLentQuill$Pen;") (by decide +kernel)
  have hlnk1 := hts (.fieldLink RX8 22 "LentQuill$Search" "ways" "I") (by decide +kernel)
  have hlnk2 := hts (.fieldLink RX8 26 "LentQuill$Search" "holders" "I") (by decide +kernel)
  have hlnk3 := hts (.fieldLink RX8 18 "LentQuill$Search" "waysBound" "[I") (by decide +kernel)
  have hlnk4 := hts (.methodLink RX8 39 Lib.Math.min.name) (by decide +kernel)
  have hlnk5 := hts (.static Lib.Math.min.name) (by decide +kernel)
  have hlnk6 := hts (.initialized "java/lang/Math") (by decide +kernel)
  have hlnk7 := hts (.code Lib.Math.min.name Lib.Math.min.code 2 (some .int)) (by decide +kernel)
  have hl : lh ls 6 [some (.ref s0), some (.ref t0), some (.ref q0), some (.int (nI k)), some (.ref b0), none] := hl
  obtain ⟨f, hs0, hs3, hsf, hpen⟩ := id hR
  refine xaload_n hx hb dX8_tally_0 hl rfl ?_
  refine xget (C := RX8) (T := TX8) (N := 6) hx hb (ci := 8) hts hiX8 hown hG hw (by repeat first | assumption | exact wu_eq _ _ _ | refine wu_ne (by omega) ?_) rfl 0 (by decide) hlnk0 (fun _ h9 => h9) rfl dX8_tally_1 ?_
  refine xaload_n hx hb dX8_tally_4 hl rfl ?_
  refine xVv ⟨hx, hb, hml, hown, hts⟩ (kX6_copyFrom l N0 G _ _ _ hpen _ g hq (by omega)) (cwV 1 hts gX8_tally_X6_copyFrom rfl rfl rfl (by decide +kernel) ⟨Nat.le_of_ble_eq_true rfl, Nat.le_of_ble_eq_true rfl⟩) hG hN hw hS (ci := 6) hpen.cell rfl rfl hl.1 rfl (Nat.le_of_ble_eq_true rfl) dX8_tally_5 ⟨Nat.le_of_ble_eq_true rfl, Nat.le_of_ble_eq_true rfl⟩ (fun r5 w5 H locs hp5 hw hS => ?_)
  obtain ⟨hp1, hO5⟩ := hp5
  have hs05 := hO5.at (by omega) hs0
  have hs35 := hO5.at (by omega) hs3
  refine xaload_n hx hb dX8_tally_8 hl rfl ?_
  refine lv_iconst (v := nI 0) hx hb dX8_tally_9 (by decide) ?_
  refine xput (C := RX8) (T := TX8) (N := 6) hx hb (ci := 8) (ty := .int) hts hiX8 tyX8 tyX8_ok nmX8 hown hG hw hS (by repeat first | assumption | exact wu_eq _ _ _ | refine wu_ne (by omega) ?_) rfl 2 (by decide) hlnk1 (fun _ h9 => h9) rfl (by decide +kernel) rfl rfl (Nat.le_of_ble_eq_true rfl) dX8_tally_10 (fun H locs hzz hw hS => ?_)
  refine xaload_n hx hb dX8_tally_13 hl rfl ?_
  refine lv_iconst (v := nI 0) hx hb dX8_tally_14 (by decide) ?_
  refine xput (C := RX8) (T := TX8) (N := 6) hx hb (ci := 8) (ty := .int) hts hiX8 tyX8 tyX8_ok nmX8 hown hG hw hS (by repeat first | assumption | exact wu_eq _ _ _ | refine wu_ne (by omega) ?_) rfl 3 (by decide) hlnk2 (fun _ h9 => h9) rfl (by decide +kernel) rfl rfl (Nat.le_of_ble_eq_true rfl) dX8_tally_15 (fun H locs hzz hw hS => ?_)
  refine lv_iconst (v := nI 0) hx hb dX8_tally_18 (by decide) ?_
  refine xistore hx hb dX8_tally_19 hl (by decide) rfl (fun ls hl => ?_)
  have loop21 : ∀ (nf : Nat) (i : Nat) (w1 : Wd) (f1 : Nat → Int32) (H : Heap) (locs : List Loc) (ls : Array Slot), 5 - i < nf → (i ≤ 5) → (w1 s0 = some (eO 8 [.ref (s0 + 1), .ref (s0 + 3), .int (nI 0), .int (nI 0), .int fw, .int fr])) → (w1 (s0 + 3) = some (eI G 5 f1)) → (RPen G w1 (s0 + 1) g) → (∀ j, j < i → f1 j = nI 0) → (Out w w1 s0 (s0 + 4)) → PW N0 G w1 H → va_S (fun q => N0 ≤ q) s.heap H locs → lh ls 6 [some (.ref s0), some (.ref t0), some (.ref q0), some (.int (nI k)), some (.ref b0), some (.int (nI i))] → W p l e (rmD 11) s m ([.ref s0, .ref t0, .ref q0, .int (nI k), .ref b0] : List Value).toArray below meth c H locs 0 0 (MQ below (XQ N0 G vV (fun _ w1 => RSrch G w1 s0 g (handS P lim hd k g) fw fr ∧ Out w w1 s0 (s0 + 4))) ([.ref s0, .ref t0, .ref q0, .int (nI k), .ref b0] : List Value).toArray s 0 0 (fun q => N0 ≤ q)) (F0 m 21 ls []) := by
    intro nf
    induction nf with
    | zero => intros; omega
    | succ nf ih21 =>
      intro i w1 f1 H locs ls hnf hi e0 e3 ep ef1 hO1 hw hS hl
      refine xiload hx hb dX8_tally_21 hl rfl ?_
      refine xaload_n hx hb dX8_tally_23 hl rfl ?_
      refine xget (C := RX8) (T := TX8) (N := 6) hx hb (ci := 8) hts hiX8 hown hG hw (by repeat first | assumption | exact wu_eq _ _ _ | refine wu_ne (by omega) ?_) rfl 1 (by decide) hlnk3 (fun _ h9 => h9) rfl dX8_tally_24 ?_
      first | refine xalenI hx hb hG hw (by repeat first | assumption | exact wu_eq _ _ _ | refine wu_ne (by omega) ?_) dX8_tally_27 ?_ | refine xalenP hx hb hG hw (by repeat first | assumption | exact wu_eq _ _ _ | refine wu_ne (by omega) ?_) dX8_tally_27 ?_ | refine xalenN hx hb hG hw (by repeat first | assumption | exact wu_eq _ _ _ | refine wu_ne (by omega) ?_) dX8_tally_27 ?_
      first | refine xcmp_ge (tgt := 45) hx hb dX8_tally_28 (by decide) (by omega) (by omega) (fun c28 => ?_) (fun c28 => ?_) | refine lv_icmp_ge (tgt := 45) hx hb dX8_tally_28 (by decide) (fun c28 => ?_) (fun c28 => ?_)
      · skip
        refine xaload_n hx hb dX8_tally_45 hl rfl ?_
        refine xaload_n hx hb dX8_tally_46 hl rfl ?_
        refine xaload hx hb dX8_tally_47 hl rfl ?_
        refine xiload_n hx hb dX8_tally_49 hl rfl ?_
        refine lv_iconst (v := nI 4) hx hb dX8_tally_50 (by decide) ?_
        refine va_mmin hx hb (hml.trans hl.1.symm) hown hlnk4 hlnk5 hlnk6 hlnk7 (Nat.le_of_ble_eq_true rfl) (Nat.le_of_ble_eq_true rfl) (Nat.le_of_ble_eq_true rfl) (Nat.le_of_ble_eq_true rfl) dX8_tally_51 ?_
        refine xtop (nmin (by omega) (by omega)) ?_
        refine xtop (show nI (min k 4) = nI k by rw [Nat.min_eq_left hk4]) ?_
        have hR5 : RSrch G w1 s0 g (0, 0, fun _ => 0) fw fr := ⟨f1, e0, e3, fun j hj => ef1 j (by omega), ep⟩
        have ht5 := ht.out hO1 hsep.1 hsep.2.2
        have hB5 := hB.out hO1 hsep.2.1
        refine xVv ⟨hx, hb, hml, hown, hts⟩ (kX8_follow l N0 G s0 t0 b0 Z P lim pn ds hd hsep k hk4 w1 g _ fw fr ht5 hB5 hR5 hall) (cwV 3 hts gX8_tally_X8_follow rfl rfl rfl (by decide +kernel) ⟨by simp only [rmD]; omega, by simp only [rmD]; omega⟩) hG hN hw hS (ci := 8) (by repeat first | assumption | exact wu_eq _ _ _ | refine wu_ne (by omega) ?_) rfl rfl hl.1 rfl (Nat.le_of_ble_eq_true rfl) dX8_tally_54 ⟨Nat.le_refl _, Nat.le_refl _⟩ (fun r54 w54 H locs hp54 hw hS => ?_)
        obtain ⟨hR6, hO6⟩ := hp54
        exact xvret hx hb hr hlk hw hS dX8_tally_57 ⟨hR6, hO1.tr hO6 (by omega) (by omega)⟩
      · skip
        refine xaload_n hx hb dX8_tally_31 hl rfl ?_
        refine xget (C := RX8) (T := TX8) (N := 6) hx hb (ci := 8) hts hiX8 hown hG hw (by repeat first | assumption | exact wu_eq _ _ _ | refine wu_ne (by omega) ?_) rfl 1 (by decide) hlnk3 (fun _ h9 => h9) rfl dX8_tally_32 ?_
        refine xiload hx hb dX8_tally_35 hl rfl ?_
        refine lv_iconst (v := nI 0) hx hb dX8_tally_37 (by decide) ?_
        refine xiast hx hb hG hw hS (by repeat first | assumption | exact wu_eq _ _ _ | refine wu_ne (by omega) ?_) (by omega) (by omega) dX8_tally_38 (fun H locs hzz hw hS => ?_)
        first | refine xiincN hx hb 1 dX8_tally_39 hl rfl (by decide) (by decide) rfl (fun ls hl => ?_) | refine xiinc hx hb dX8_tally_39 hl rfl rfl (by decide) rfl (fun ls hl => ?_)
        refine lv_goto (tgt := 21) hx hb dX8_tally_42 (by decide) ?_
        exact ih21 (i + 1) _ _ _ _ _ (by omega) (by omega) (by rw [wu_nq (by omega)]; exact e0) (wu_eq _ _ _) (ep.keep (wu_nq (by omega)) (wu_nq (by omega))) (fun j hj => by
          rcases Nat.lt_or_ge j i with q | q
          · rw [pk_un (by omega)]; exact ef1 j q
          · rw [show j = i by omega, pk_us]) (hO1.wu (by omega) (by omega)) hw hS hl
  exact loop21 6 0 _ f _ _ _ (by omega) (by omega) (by repeat first | assumption | exact wu_eq _ _ _ | refine wu_ne (by omega) ?_) (by repeat first | assumption | exact wu_eq _ _ _ | refine wu_ne (by omega) ?_) (hp1.keep (by rw [wu_nq (by omega), wu_nq (by omega)]) (by rw [wu_nq (by omega), wu_nq (by omega)])) (fun j hj => absurd hj (Nat.not_lt_zero j)) (((hO5.mono (by omega) (by omega)).wu (by omega) (by omega)).wu (by omega) (by omega)) hw hS hl
set_option maxHeartbeats 4000000 in
set_option maxRecDepth 100000 in
theorem kX8_bestAsked (l : Launch) (N0 : Nat) (G : XG) (w : Wd) (s0 : Nat) (h : List Nat) (S : TS) (fw fr : Int32) (hR : RSrch G w s0 h S fw fr) (n : Nat) (hn5 : n ≤ 5) (hS1 : S.1 ≤ 625) (hS2 : ∀ i, S.2.2 i ≤ S.1) : XM l yX8_bestAsked wsX8_bestAsked (rmD 2) N0 G [.ref s0, .int (nI n)] w vI (fun r w1 => askR S n = r ∧ w = w1) 0 0 := by
  refine XM.of (cc := cX8_bestAsked) (maxL := 6) (ret := (some .int)) (by decide) rfl (Nat.le_of_ble_eq_true rfl) ?_
  intro p e s m below meth c hx hb hr hlk hin0 hml hown hts hN hw hG hS ls hl
  have hown : s.vm.findClass RX8 = some m.cls := hown
  have hiX8 : ∀ x ∈ u_ws RX8 TX8 6, x ∈ wsX8_bestAsked := by decide +kernel
  have hlnk0 := hts (.fieldLink RX8 22 "LentQuill$Search" "ways" "I") (by decide +kernel)
  have hlnk1 := hts (.fieldLink RX8 18 "LentQuill$Search" "waysBound" "[I") (by decide +kernel)
  have hlnk2 := hts (.methodLink RX8 87 Lib.Math.max.name) (by decide +kernel)
  have hlnk3 := hts (.static Lib.Math.max.name) (by decide +kernel)
  have hlnk4 := hts (.initialized "java/lang/Math") (by decide +kernel)
  have hlnk5 := hts (.code Lib.Math.max.name Lib.Math.max.code 2 (some .int)) (by decide +kernel)
  have hl : lh ls 6 [some (.ref s0), some (.int (nI n)), none, none, none, none] := hl
  obtain ⟨f, hs0, hs3, hsf, hpen⟩ := id hR
  refine lv_iconst (v := -1) hx hb dX8_bestAsked_0 (by decide) ?_
  refine xistore_n hx hb dX8_bestAsked_1 hl (by decide) rfl (fun ls hl => ?_)
  refine xaload_n hx hb dX8_bestAsked_2 hl rfl ?_
  refine xget (C := RX8) (T := TX8) (N := 6) hx hb (ci := 8) hts hiX8 hown hG hw (by repeat first | assumption | exact wu_eq _ _ _ | refine wu_ne (by omega) ?_) rfl 2 (by decide) hlnk0 (fun _ h9 => h9) rfl dX8_bestAsked_3 ?_
  refine xistore_n hx hb dX8_bestAsked_6 hl (by decide) rfl (fun ls hl => ?_)
  refine lv_iconst (v := nI 0) hx hb dX8_bestAsked_7 (by decide) ?_
  refine xistore hx hb dX8_bestAsked_8 hl (by decide) rfl (fun ls hl => ?_)
  have loop10 : ∀ (nf : Nat) (i : Nat) (H : Heap) (locs : List Loc) (ls : Array Slot), n - i < nf → (i ≤ n) → (S.1 = 0 → i = 0) → PW N0 G w H → va_S (fun q => N0 ≤ q) s.heap H locs → lh ls 6 [some (.ref s0), some (.int (nI n)), some (.int (askI (askGo (wrs S) i))), some (.int (nI (askM S.1 (askGo (wrs S) i)))), some (.int (nI i)), none] → W p l e (rmD 2) s m ([.ref s0, .int (nI n)] : List Value).toArray below meth c H locs 0 0 (MQ below (XQ N0 G vI (fun r w1 => askR S n = r ∧ w = w1)) ([.ref s0, .int (nI n)] : List Value).toArray s 0 0 (fun q => N0 ≤ q)) (F0 m 10 ls []) := by
    intro nf
    induction nf with
    | zero => intros; omega
    | succ nf ih10 =>
      intro i H locs ls hnf hi h0 hw hS hl
      have hb1 := hS2 i
      have hM : ∀ i, wrs S i ≤ 625 := fun i => by unfold wrs; have := hS2 i; omega
      refine xiload hx hb dX8_bestAsked_10 hl rfl ?_
      refine xiload_n hx hb dX8_bestAsked_12 hl rfl ?_
      first | refine xcmp_ge (tgt := 80) hx hb dX8_bestAsked_13 (by decide) (by omega) (by omega) (fun c13 => ?_) (fun c13 => ?_) | refine lv_icmp_ge (tgt := 80) hx hb dX8_bestAsked_13 (by decide) (fun c13 => ?_) (fun c13 => ?_)
      · skip
        refine xiload_n hx hb dX8_bestAsked_80 hl rfl ?_
        exact xiret hx hb hr hlk hw hS dX8_bestAsked_81 ⟨by unfold askR; first | (rw [if_neg (by omega), show n = i by omega]) | (rw [if_pos (by omega), show i = 0 by omega]; rfl) | (rw [show n = i by omega]; split <;> rename_i hz <;> first | rfl | (rw [h0 hz]; rfl)), rfl⟩
      · skip
        refine xiload hx hb dX8_bestAsked_16 hl rfl ?_
        refine xaload_n hx hb dX8_bestAsked_18 hl rfl ?_
        refine xget (C := RX8) (T := TX8) (N := 6) hx hb (ci := 8) hts hiX8 hown hG hw (by repeat first | assumption | exact wu_eq _ _ _ | refine wu_ne (by omega) ?_) rfl 1 (by decide) hlnk1 (fun _ h9 => h9) rfl dX8_bestAsked_19 ?_
        first | refine xalenI hx hb hG hw (by repeat first | assumption | exact wu_eq _ _ _ | refine wu_ne (by omega) ?_) dX8_bestAsked_22 ?_ | refine xalenP hx hb hG hw (by repeat first | assumption | exact wu_eq _ _ _ | refine wu_ne (by omega) ?_) dX8_bestAsked_22 ?_ | refine xalenN hx hb hG hw (by repeat first | assumption | exact wu_eq _ _ _ | refine wu_ne (by omega) ?_) dX8_bestAsked_22 ?_
        first | refine xcmp_ge (tgt := 80) hx hb dX8_bestAsked_23 (by decide) (by omega) (by omega) (fun c23 => ?_) (fun c23 => ?_) | refine lv_icmp_ge (tgt := 80) hx hb dX8_bestAsked_23 (by decide) (fun c23 => ?_) (fun c23 => ?_)
        · skip
          exfalso
          omega
        · skip
          refine xaload_n hx hb dX8_bestAsked_26 hl rfl ?_
          refine xget (C := RX8) (T := TX8) (N := 6) hx hb (ci := 8) hts hiX8 hown hG hw (by repeat first | assumption | exact wu_eq _ _ _ | refine wu_ne (by omega) ?_) rfl 2 (by decide) hlnk0 (fun _ h9 => h9) rfl dX8_bestAsked_27 ?_
          refine xif_le (tgt := 80) hx hb dX8_bestAsked_30 (by decide) (by omega) (fun c30 => ?_) (fun c30 => ?_)
          · skip
            refine xiload_n hx hb dX8_bestAsked_80 hl rfl ?_
            exact xiret hx hb hr hlk hw hS dX8_bestAsked_81 ⟨by unfold askR; first | (rw [if_neg (by omega), show n = i by omega]) | (rw [if_pos (by omega), show i = 0 by omega]; rfl) | (rw [show n = i by omega]; split <;> rename_i hz <;> first | rfl | (rw [h0 hz]; rfl)), rfl⟩
          · skip
            refine xaload_n hx hb dX8_bestAsked_33 hl rfl ?_
            refine xget (C := RX8) (T := TX8) (N := 6) hx hb (ci := 8) hts hiX8 hown hG hw (by repeat first | assumption | exact wu_eq _ _ _ | refine wu_ne (by omega) ?_) rfl 1 (by decide) hlnk1 (fun _ h9 => h9) rfl dX8_bestAsked_34 ?_
            refine xiload hx hb dX8_bestAsked_37 hl rfl ?_
            refine xiald hx hb hG hw hs3 (by omega) (by omega) dX8_bestAsked_39 ?_
            refine xtop (hsf i (by omega)) ?_
            refine xaload_n hx hb dX8_bestAsked_40 hl rfl ?_
            refine xget (C := RX8) (T := TX8) (N := 6) hx hb (ci := 8) hts hiX8 hown hG hw (by repeat first | assumption | exact wu_eq _ _ _ | refine wu_ne (by omega) ?_) rfl 2 (by decide) hlnk0 (fun _ h9 => h9) rfl dX8_bestAsked_41 ?_
            refine xaload_n hx hb dX8_bestAsked_44 hl rfl ?_
            refine xget (C := RX8) (T := TX8) (N := 6) hx hb (ci := 8) hts hiX8 hown hG hw (by repeat first | assumption | exact wu_eq _ _ _ | refine wu_ne (by omega) ?_) rfl 1 (by decide) hlnk1 (fun _ h9 => h9) rfl dX8_bestAsked_45 ?_
            refine xiload hx hb dX8_bestAsked_48 hl rfl ?_
            refine xiald hx hb hG hw hs3 (by omega) (by omega) dX8_bestAsked_50 ?_
            refine xtop (hsf i (by omega)) ?_
            first | refine xsub hx hb dX8_bestAsked_51 (by omega) ?_ | refine lv_isub hx hb dX8_bestAsked_51 ?_
            refine va_mmax hx hb (hml.trans hl.1.symm) hown hlnk2 hlnk3 hlnk4 hlnk5 (Nat.le_of_ble_eq_true rfl) (Nat.le_of_ble_eq_true rfl) (Nat.le_of_ble_eq_true rfl) (Nat.le_of_ble_eq_true rfl) dX8_bestAsked_52 ?_
            refine xtop (nmax (by omega) (by omega)) ?_
            refine xistore hx hb dX8_bestAsked_55 hl (by decide) rfl (fun ls hl => ?_)
            have hl : lh ls 6 [some (.ref s0), some (.int (nI n)), some (.int (askI (askGo (wrs S) i))), some (.int (nI (askM S.1 (askGo (wrs S) i)))), some (.int (nI i)), some (.int (nI (wrs S i)))] := hl
            refine xiload_n hx hb dX8_bestAsked_57 hl rfl ?_
            refine lv_iconst (v := -1) hx hb dX8_bestAsked_58 (by decide) ?_
            refine lv_icmp_eq (tgt := 68) hx hb dX8_bestAsked_59 (by decide) (fun c59 => ?_) (fun c59 => ?_)
            · skip
              have hq := askI_none (by omega) c59
              have h9 := askGo_s1 hq
              refine xiload hx hb dX8_bestAsked_68 hl rfl ?_
              refine xistore_n hx hb dX8_bestAsked_70 hl (by decide) rfl (fun ls hl => ?_)
              refine xiload hx hb dX8_bestAsked_71 hl rfl ?_
              refine xistore_n hx hb dX8_bestAsked_73 hl (by decide) rfl (fun ls hl => ?_)
              first | refine xiincN hx hb 1 dX8_bestAsked_74 hl rfl (by decide) (by decide) rfl (fun ls hl => ?_) | refine xiinc hx hb dX8_bestAsked_74 hl rfl rfl (by decide) rfl (fun ls hl => ?_)
              refine lv_goto (tgt := 10) hx hb dX8_bestAsked_77 (by decide) ?_
              exact ih10 (i + 1) _ _ _ (by omega) (by omega) (by omega) hw hS (by rw [h9]; exact hl.drop 5)
            · skip
              obtain ⟨q, hq⟩ : ∃ q, askGo (wrs S) i = some q := by
                cases hq : askGo (wrs S) i with
                | none => rw [hq] at c59; exact absurd rfl c59
                | some q => exact ⟨q, rfl⟩
              rw [hq] at hl
              have hq2 := askGo_lt hM hq
              have hl : lh ls 6 [some (.ref s0), some (.int (nI n)), some (.int (nI q.1)), some (.int (nI q.2)), some (.int (nI i)), some (.int (nI (wrs S i)))] := hl
              refine xiload hx hb dX8_bestAsked_62 hl rfl ?_
              refine xiload_n hx hb dX8_bestAsked_64 hl rfl ?_
              have hMi := hM i
              first | refine xcmp_ge (tgt := 74) hx hb dX8_bestAsked_65 (by decide) (by omega) (by omega) (fun c65 => ?_) (fun c65 => ?_) | refine lv_icmp_ge (tgt := 74) hx hb dX8_bestAsked_65 (by decide) (fun c65 => ?_) (fun c65 => ?_)
              · skip
                have h9 := askGo_s3 hq c65
                first | refine xiincN hx hb 1 dX8_bestAsked_74 hl rfl (by decide) (by decide) rfl (fun ls hl => ?_) | refine xiinc hx hb dX8_bestAsked_74 hl rfl rfl (by decide) rfl (fun ls hl => ?_)
                refine lv_goto (tgt := 10) hx hb dX8_bestAsked_77 (by decide) ?_
                exact ih10 (i + 1) _ _ _ (by omega) (by omega) (by omega) hw hS (by rw [h9]; exact hl.drop 5)
              · skip
                have h9 := askGo_s2 hq c65
                refine xiload hx hb dX8_bestAsked_68 hl rfl ?_
                refine xistore_n hx hb dX8_bestAsked_70 hl (by decide) rfl (fun ls hl => ?_)
                refine xiload hx hb dX8_bestAsked_71 hl rfl ?_
                refine xistore_n hx hb dX8_bestAsked_73 hl (by decide) rfl (fun ls hl => ?_)
                first | refine xiincN hx hb 1 dX8_bestAsked_74 hl rfl (by decide) (by decide) rfl (fun ls hl => ?_) | refine xiinc hx hb dX8_bestAsked_74 hl rfl rfl (by decide) rfl (fun ls hl => ?_)
                refine lv_goto (tgt := 10) hx hb dX8_bestAsked_77 (by decide) ?_
                exact ih10 (i + 1) _ _ _ (by omega) (by omega) (by omega) hw hS (by rw [h9]; exact hl.drop 5)
  exact loop10 (n + 1) 0 _ _ _ (by omega) (by omega) (fun _ => rfl) hw hS hl
set_option maxHeartbeats 4000000 in
set_option maxRecDepth 100000 in
theorem kX8_reaches_0 (l : Launch) (N0 : Nat) (G : XG) (w : Wd) (s0 : Nat) (h : List Nat) (S : TS) (fw fr : Int32) (hR : RSrch G w s0 h S fw fr) (t0 Z : Nat) (P : PK) (lim : Nat) (ht : RTown G w t0 Z P lim) (hsep : (t0 + 2 ≤ s0 ∨ s0 + 4 ≤ t0) ∧ s0 + 4 ≤ Z) (hall : ∀ x ∈ h, x < P.length) (st : Nat) (hst : st < 32) : XM l yX8_reaches wsX8_reaches (rmD 6) N0 G [.ref s0, .ref t0, .int (nI st), .int (nI 0)] w vI (fun r w1 => bI (reach P lim st 0 h) = r ∧ RSrch G w1 s0 h S fw (frA P lim st h 0 fr) ∧ Out w w1 s0 (s0 + 4)) 0 0 := by
  refine XM.of (cc := cX8_reaches) (maxL := 6) (ret := (some .boolean)) (by decide) rfl (Nat.le_of_ble_eq_true rfl) ?_
  intro p e s m below meth c hx hb hr hlk hin0 hml hown hts hN hw hG hS ls hl
  have hown : s.vm.findClass RX8 = some m.cls := hown
  have hiX8 : ∀ x ∈ u_ws RX8 TX8 6, x ∈ wsX8_reaches := by decide +kernel
  have hlnk0 := hts (.fieldLink RX8 12 "LentQuill$Search" "pen" "LLentQuill$Pen;") (by decide +kernel)
  have hl : lh ls 6 [some (.ref s0), some (.ref t0), some (.int (nI st)), some (.int (nI 0)), none, none] := hl
  obtain ⟨f, hs0, hs3, hsf, hpen⟩ := id hR
  obtain ⟨hl0, hl41⟩ := hpen.len
  obtain ⟨h5, -⟩ := ht.five
  have htc := ht.cell
  have hb32 := bnd32 (lim := lim) hall h5
  refine xiload_n hx hb dX8_reaches_0 hl rfl ?_
  refine xif_gt (tgt := 22) hx hb dX8_reaches_1 (by decide) (by omega) (fun c1 => ?_) (fun c1 => ?_)
  · skip
    exfalso
    omega
  · skip
    refine xaload_n hx hb dX8_reaches_4 hl rfl ?_
    refine xaload_n hx hb dX8_reaches_5 hl rfl ?_
    refine xget (C := RX8) (T := TX8) (N := 6) hx hb (ci := 8) hts hiX8 hown hG hw (by repeat first | assumption | exact wu_eq _ _ _ | refine wu_ne (by omega) ?_) rfl 0 (by decide) hlnk0 (fun _ h9 => h9) rfl dX8_reaches_6 ?_
    refine xVi ⟨hx, hb, hml, hown, hts⟩ (kX10_boundBy l N0 G _ _ Z P lim ht _ h hpen hall) (cwV 1 hts gX8_reaches_X10_boundBy rfl rfl rfl (by decide +kernel) ⟨Nat.le_of_ble_eq_true rfl, Nat.le_of_ble_eq_true rfl⟩) hG hN hw hS (ci := 10) (by repeat first | assumption | exact wu_eq _ _ _ | refine wu_ne (by omega) ?_) rfl rfl hl.1 rfl (Nat.le_of_ble_eq_true rfl) dX8_reaches_9 ⟨Nat.le_of_ble_eq_true rfl, Nat.le_of_ble_eq_true rfl⟩ (fun r9 w9 H locs hp9 hw hS => ?_)
    obtain ⟨rfl, rfl⟩ := hp9
    refine xiload_n hx hb dX8_reaches_12 hl rfl ?_
    first | refine xcmp_ne (tgt := 20) hx hb dX8_reaches_13 (by decide) (by omega) (by omega) (fun c13 => ?_) (fun c13 => ?_) | refine lv_icmp_ne (tgt := 20) hx hb dX8_reaches_13 (by decide) (fun c13 => ?_) (fun c13 => ?_)
    · skip
      refine lv_iconst (v := nI 0) hx hb dX8_reaches_20 (by decide) ?_
      first | exact xzret hx hb hr hlk hw hS dX8_reaches_21 true rfl ⟨congrArg bI (decide_eq_true c13), by rw [frA_0]; exact hR, Out.rf⟩ | exact xzret hx hb hr hlk hw hS dX8_reaches_21 false rfl ⟨congrArg bI (decide_eq_false c13), by rw [frA_0]; exact hR, Out.rf⟩
    · skip
      refine lv_iconst (v := nI 1) hx hb dX8_reaches_16 (by decide) ?_
      refine lv_goto (tgt := 21) hx hb dX8_reaches_17 (by decide) ?_
      first | exact xzret hx hb hr hlk hw hS dX8_reaches_21 true rfl ⟨congrArg bI (decide_eq_true c13), by rw [frA_0]; exact hR, Out.rf⟩ | exact xzret hx hb hr hlk hw hS dX8_reaches_21 false rfl ⟨congrArg bI (decide_eq_false c13), by rw [frA_0]; exact hR, Out.rf⟩
set_option maxHeartbeats 4000000 in
set_option maxRecDepth 100000 in
theorem kX8_reaches_s (l : Launch) (N0 : Nat) (G : XG) (w : Wd) (s0 : Nat) (h : List Nat) (S : TS) (fw fr : Int32) (hR : RSrch G w s0 h S fw fr) (t0 Z : Nat) (P : PK) (lim : Nat) (ht : RTown G w t0 Z P lim) (hsep : (t0 + 2 ≤ s0 ∨ s0 + 4 ≤ t0) ∧ s0 + 4 ≤ Z) (hall : ∀ x ∈ h, x < P.length) (st : Nat) (hst : st < 32) (k : Nat) (hk4 : k ≤ 4) (ih : ReaC l N0 G s0 t0 Z P lim st k) : XM l yX8_reaches wsX8_reaches (rmD (6 + (k + 1))) N0 G [.ref s0, .ref t0, .int (nI st), .int (nI (k + 1))] w vI (fun r w1 => bI (reach P lim st (k + 1) h) = r ∧ RSrch G w1 s0 h S fw (frA P lim st h (k + 1) fr) ∧ Out w w1 s0 (s0 + 4)) 0 0 := by
  refine XM.of (cc := cX8_reaches) (maxL := 6) (ret := (some .boolean)) (by decide) rfl (Nat.le_of_ble_eq_true rfl) ?_
  intro p e s m below meth c hx hb hr hlk hin0 hml hown hts hN hw hG hS ls hl
  have hown : s.vm.findClass RX8 = some m.cls := hown
  have hiX8 : ∀ x ∈ u_ws RX8 TX8 6, x ∈ wsX8_reaches := by decide +kernel
  have hlnk0 := hts (.fieldLink RX8 12 "LentQuill$Search" "pen" "LLentQuill$Pen;") (by decide +kernel)
  have hlnk1 := hts (.fieldLink RX8 32 "LentQuill$Search" "first" "I") (by decide +kernel)
  have hl : lh ls 6 [some (.ref s0), some (.ref t0), some (.int (nI st)), some (.int (nI (k + 1))), none, none] := hl
  obtain ⟨h5, -⟩ := ht.five
  refine xiload_n hx hb dX8_reaches_0 hl rfl ?_
  refine xif_gt (tgt := 22) hx hb dX8_reaches_1 (by decide) (by omega) (fun c1 => ?_) (fun c1 => ?_)
  · skip
    refine lv_iconst (v := nI 0) hx hb dX8_reaches_22 (by decide) ?_
    refine xistore hx hb dX8_reaches_23 hl (by decide) rfl (fun ls hl => ?_)
    have loop25 : ∀ (nf : Nat) (j : Nat) (w1 : Wd) (H : Heap) (locs : List Loc) (ls : Array Slot), P.length - j < nf → (j ≤ P.length) → (∀ x, x < j → (mayL P h x && reach P lim st k (x :: h)) = false) → (RSrch G w1 s0 h S fw fr) → (Out w w1 s0 (s0 + 4)) → PW N0 G w1 H → va_S (fun q => N0 ≤ q) s.heap H locs → lh ls 6 [some (.ref s0), some (.ref t0), some (.int (nI st)), some (.int (nI (k + 1))), some (.int (nI j)), none] → W p l e (rmD (6 + (k + 1))) s m ([.ref s0, .ref t0, .int (nI st), .int (nI (k + 1))] : List Value).toArray below meth c H locs 0 0 (MQ below (XQ N0 G vI (fun r w1 => bI (reach P lim st (k + 1) h) = r ∧ RSrch G w1 s0 h S fw (frA P lim st h (k + 1) fr) ∧ Out w w1 s0 (s0 + 4))) ([.ref s0, .ref t0, .int (nI st), .int (nI (k + 1))] : List Value).toArray s 0 0 (fun q => N0 ≤ q)) (F0 m 25 ls []) := by
      intro nf
      induction nf with
      | zero => intros; omega
      | succ nf ih25 =>
        intro j w1 H locs ls hnf hj hno hR1 hO1 hw hS hl
        have ht1 := ht.out hO1 hsep.1 hsep.2
        have htc := ht1.cell
        have hsc := hR1.cell
        have hpen := hR1.rpen
        obtain ⟨hl0, hl41⟩ := hpen.len
        refine xiload hx hb dX8_reaches_25 hl rfl ?_
        refine xaload_n hx hb dX8_reaches_27 hl rfl ?_
        refine xVi ⟨hx, hb, hml, hown, hts⟩ (kX10_size l N0 G _ _ Z P lim ht1) (cwV 0 hts gX8_reaches_X10_size rfl rfl rfl (by decide +kernel) ⟨by simp only [rmD]; omega, by simp only [rmD]; omega⟩) hG hN hw hS (ci := 10) (by repeat first | assumption | exact wu_eq _ _ _ | refine wu_ne (by omega) ?_) rfl rfl hl.1 rfl (Nat.le_of_ble_eq_true rfl) dX8_reaches_28 ⟨Nat.le_refl _, Nat.le_refl _⟩ (fun r28 w28 H locs hp28 hw hS => ?_)
        obtain ⟨rfl, rfl⟩ := hp28
        first | refine xcmp_ge (tgt := 93) hx hb dX8_reaches_31 (by decide) (by omega) (by omega) (fun c31 => ?_) (fun c31 => ?_) | refine lv_icmp_ge (tgt := 93) hx hb dX8_reaches_31 (by decide) (fun c31 => ?_) (fun c31 => ?_)
        · skip
          refine lv_iconst (v := nI 0) hx hb dX8_reaches_93 (by decide) ?_
          first | exact xzret hx hb hr hlk hw hS dX8_reaches_94 true rfl ⟨rfl, hR, Out.rf⟩ | exact xzret hx hb hr hlk hw hS dX8_reaches_94 false rfl ⟨by rw [(rea_no (fr := fr) (fun x hx => hno x (by omega))).1], by rw [(rea_no (fun x hx => hno x (by omega))).2]; exact hR1, hO1⟩
        · skip
          refine xaload_n hx hb dX8_reaches_34 hl rfl ?_
          refine xaload_n hx hb dX8_reaches_35 hl rfl ?_
          refine xget (C := RX8) (T := TX8) (N := 6) hx hb (ci := 8) hts hiX8 hown hG hw (by repeat first | assumption | exact wu_eq _ _ _ | refine wu_ne (by omega) ?_) rfl 0 (by decide) hlnk0 (fun _ h9 => h9) rfl dX8_reaches_36 ?_
          refine xiload hx hb dX8_reaches_39 hl rfl ?_
          refine xVi ⟨hx, hb, hml, hown, hts⟩ (kX10_canBeLent l N0 G _ _ Z P lim ht1 _ h hpen hall j c31) (cwV 2 hts gX8_reaches_X10_canBeLent rfl rfl rfl (by decide +kernel) ⟨by simp only [rmD]; omega, by simp only [rmD]; omega⟩) hG hN hw hS (ci := 10) (by repeat first | assumption | exact wu_eq _ _ _ | refine wu_ne (by omega) ?_) rfl rfl hl.1 rfl (Nat.le_of_ble_eq_true rfl) dX8_reaches_41 ⟨Nat.le_refl _, Nat.le_refl _⟩ (fun r41 w41 H locs hp41 hw hS => ?_)
          obtain ⟨rfl, rfl⟩ := hp41
          first | refine xifb_eq (tgt := 87) hx hb dX8_reaches_44 (by decide) (fun c44 => ?_) (fun c44 => ?_) | refine xif_eq (tgt := 87) hx hb dX8_reaches_44 (by decide) (by omega) (fun c44 => ?_) (fun c44 => ?_) | refine lv_if_eq (tgt := 87) hx hb dX8_reaches_44 (by decide) (fun c44 => ?_) (fun c44 => ?_)
          · skip
            first | refine xiincN hx hb 1 dX8_reaches_87 hl rfl (by decide) (by decide) rfl (fun ls hl => ?_) | refine xiinc hx hb dX8_reaches_87 hl rfl rfl (by decide) rfl (fun ls hl => ?_)
            refine lv_goto (tgt := 25) hx hb dX8_reaches_90 (by decide) ?_
            exact ih25 (j + 1) _ _ _ _ (by omega) (by omega) (fun x hx => by
              rcases Nat.lt_or_ge x j with q | q
              · exact hno x q
              · rw [show x = j by omega]
                first | (rw [c44]; rfl) | (rw [c76, Bool.and_false])) (by first | (rw [frA_n c76] at hR4; exact hR4) | exact hR1) (by first | exact hO4 | exact hO1) hw hS (hl.drop 5)
          · skip
            refine xaload_n hx hb dX8_reaches_47 hl rfl ?_
            refine xget (C := RX8) (T := TX8) (N := 6) hx hb (ci := 8) hts hiX8 hown hG hw (by repeat first | assumption | exact wu_eq _ _ _ | refine wu_ne (by omega) ?_) rfl 0 (by decide) hlnk0 (fun _ h9 => h9) rfl dX8_reaches_48 ?_
            refine xiload hx hb dX8_reaches_51 hl rfl ?_
            refine xVv ⟨hx, hb, hml, hown, hts⟩ (kX6_passTo l N0 G _ _ _ hpen j (mayL_len c44)) (cwV 1 hts gX8_reaches_X6_passTo rfl rfl rfl (by decide +kernel) ⟨by simp only [rmD]; omega, by simp only [rmD]; omega⟩) hG hN hw hS (ci := 6) hpen.cell rfl rfl hl.1 rfl (Nat.le_of_ble_eq_true rfl) dX8_reaches_53 ⟨Nat.le_refl _, Nat.le_refl _⟩ (fun r53 w53 H locs hp53 hw hS => ?_)
            obtain ⟨hp2, hO2⟩ := hp53
            have hR2 := hR1.pen hp2 hO2
            have ht2 := ht1.out hO2 (by omega) (by omega)
            have hsc2 := hR2.cell
            refine xaload_n hx hb dX8_reaches_56 hl rfl ?_
            refine xaload_n hx hb dX8_reaches_57 hl rfl ?_
            refine xiload_n hx hb dX8_reaches_58 hl rfl ?_
            refine xiload_n hx hb dX8_reaches_59 hl rfl ?_
            refine lv_iconst (v := nI 1) hx hb dX8_reaches_60 (by decide) ?_
            first | refine xsub hx hb dX8_reaches_61 (by omega) ?_ | refine lv_isub hx hb dX8_reaches_61 ?_
            refine xVi ⟨hx, hb, hml, hown, hts⟩ (ih w53 (j :: h) _ fw fr ht2 hR2 (hall_cons hall c31)) (cwV 3 hts gX8_reaches_X8_reaches rfl rfl rfl (by decide +kernel) ⟨by simp only [rmD]; omega, by simp only [rmD]; omega⟩) hG hN hw hS (ci := 8) (by repeat first | assumption | exact wu_eq _ _ _ | refine wu_ne (by omega) ?_) rfl rfl hl.1 rfl (Nat.le_of_ble_eq_true rfl) dX8_reaches_62 ⟨Nat.le_refl _, Nat.le_refl _⟩ (fun r62 w62 H locs hp62 hw hS => ?_)
            obtain ⟨rfl, hR3, hO3⟩ := hp62
            have hsc3 := hR3.cell
            refine xistore hx hb dX8_reaches_65 hl (by decide) rfl (fun ls hl => ?_)
            refine xaload_n hx hb dX8_reaches_67 hl rfl ?_
            refine xget (C := RX8) (T := TX8) (N := 6) hx hb (ci := 8) hts hiX8 hown hG hw (by repeat first | assumption | exact wu_eq _ _ _ | refine wu_ne (by omega) ?_) rfl 0 (by decide) hlnk0 (fun _ h9 => h9) rfl dX8_reaches_68 ?_
            refine xVv ⟨hx, hb, hml, hown, hts⟩ (kX6_takeBack l N0 G _ _ _ hR3.rpen (by simp only [List.length_cons]; omega)) (cwV 0 hts gX8_reaches_X6_takeBack rfl rfl rfl (by decide +kernel) ⟨by simp only [rmD]; omega, by simp only [rmD]; omega⟩) hG hN hw hS (ci := 6) hR3.rpen.cell rfl rfl hl.1 rfl (Nat.le_of_ble_eq_true rfl) dX8_reaches_71 ⟨Nat.le_refl _, Nat.le_refl _⟩ (fun r71 w71 H locs hp71 hw hS => ?_)
            obtain ⟨hp4, hO4a⟩ := hp71
            have hR4 : RSrch G w71 s0 h S fw _ := hR3.pen hp4 hO4a
            have hO4 := ((hO1.tr hO2 (by omega) (by omega)).tr hO3 (by omega) (by omega)).tr hO4a (by omega) (by omega)
            have hsc4 := hR4.cell
            refine xiload hx hb dX8_reaches_74 hl rfl ?_
            first | refine xifb_eq (tgt := 87) hx hb dX8_reaches_76 (by decide) (fun c76 => ?_) (fun c76 => ?_) | refine xif_eq (tgt := 87) hx hb dX8_reaches_76 (by decide) (by omega) (fun c76 => ?_) (fun c76 => ?_) | refine lv_if_eq (tgt := 87) hx hb dX8_reaches_76 (by decide) (fun c76 => ?_) (fun c76 => ?_)
            · skip
              first | refine xiincN hx hb 1 dX8_reaches_87 hl rfl (by decide) (by decide) rfl (fun ls hl => ?_) | refine xiinc hx hb dX8_reaches_87 hl rfl rfl (by decide) rfl (fun ls hl => ?_)
              refine lv_goto (tgt := 25) hx hb dX8_reaches_90 (by decide) ?_
              exact ih25 (j + 1) _ _ _ _ (by omega) (by omega) (fun x hx => by
                rcases Nat.lt_or_ge x j with q | q
                · exact hno x q
                · rw [show x = j by omega]
                  first | (rw [c44]; rfl) | (rw [c76, Bool.and_false])) (by first | (rw [frA_n c76] at hR4; exact hR4) | exact hR1) (by first | exact hO4 | exact hO1) hw hS (hl.drop 5)
            · skip
              refine xaload_n hx hb dX8_reaches_79 hl rfl ?_
              refine xiload hx hb dX8_reaches_80 hl rfl ?_
              refine xput (C := RX8) (T := TX8) (N := 6) hx hb (ci := 8) (ty := .int) hts hiX8 tyX8 tyX8_ok nmX8 hown hG hw hS (by repeat first | assumption | exact wu_eq _ _ _ | refine wu_ne (by omega) ?_) rfl 5 (by decide) hlnk1 (fun _ h9 => h9) rfl (by decide +kernel) rfl rfl (Nat.le_of_ble_eq_true rfl) dX8_reaches_82 (fun H locs hzz hw hS => ?_)
              refine lv_iconst (v := nI 1) hx hb dX8_reaches_85 (by decide) ?_
              first | exact xzret hx hb hr hlk hw hS dX8_reaches_86 true rfl ⟨by rw [(rea_yes (fr := fr) hno c31 (by rw [c44, c76]; rfl)).1], by rw [(rea_yes hno c31 (by rw [c44, c76]; rfl)).2]; exact reach_put hR4, hO4.wu (by omega) (by omega)⟩ | exact xzret hx hb hr hlk hw hS dX8_reaches_86 false rfl ⟨rfl, hR, Out.rf⟩
    exact loop25 (P.length + 1) 0 w _ _ _ (by omega) (by omega) (fun x hx => absurd hx (Nat.not_lt_zero x)) hR Out.rf hw hS hl
  · skip
    exfalso
    omega
theorem kX8_reaches (l : Launch) (N0 : Nat) (G : XG) (s0 t0 Z : Nat) (P : PK) (lim st : Nat) (hst : st < 32) (hsep : (t0 + 2 ≤ s0 ∨ s0 + 4 ≤ t0) ∧ s0 + 4 ≤ Z) : ∀ k, k ≤ 4 → ReaC l N0 G s0 t0 Z P lim st k
  | 0, _ => fun w h S fw fr ht hR hall => kX8_reaches_0 l N0 G w s0 h S fw fr hR t0 Z P lim ht hsep hall st hst
  | k + 1, hk => fun w h S fw fr ht hR hall => kX8_reaches_s l N0 G w s0 h S fw fr hR t0 Z P lim ht hsep hall st hst k (by omega) (kX8_reaches l N0 G s0 t0 Z P lim st hst hsep k (by omega))
set_option maxHeartbeats 4000000 in
set_option maxRecDepth 100000 in
theorem kX8_seek (l : Launch) (N0 : Nat) (G : XG) (w : Wd) (s0 : Nat) (h : List Nat) (S : TS) (fw fr : Int32) (hR : RSrch G w s0 h S fw fr) (t0 Z : Nat) (P : PK) (lim : Nat) (ht : RTown G w t0 Z P lim) (hsep : (t0 + 2 ≤ s0 ∨ s0 + 4 ≤ t0) ∧ s0 + 4 ≤ Z) (q0 : Nat) (g : List Nat) (hq : RPen G w q0 g) (hqs : q0 + 2 ≤ s0 ∨ s0 + 4 ≤ q0) (hall : ∀ x ∈ g, x < P.length) (st : Nat) (hst : st < 32) : XM l yX8_seek wsX8_seek (rmD 11) N0 G [.ref s0, .ref t0, .ref q0, .int (nI st)] w vV (fun _ w1 => RSrch G w1 s0 g S (oI (wF P lim st g 5)) (frO P lim st g (wF P lim st g 5)) ∧ Out w w1 s0 (s0 + 4)) 0 0 := by
  refine XM.of (cc := cX8_seek) (maxL := 5) (ret := none) (by decide) rfl (Nat.le_of_ble_eq_true rfl) ?_
  intro p e s m below meth c hx hb hr hlk hin0 hml hown hts hN hw hG hS ls hl
  have hown : s.vm.findClass RX8 = some m.cls := hown
  have hiX8 : ∀ x ∈ u_ws RX8 TX8 6, x ∈ wsX8_seek := by decide +kernel
  have hlnk0 := hts (.fieldLink RX8 12 "LentQuill$Search" "pen" "LLentQuill$Pen;") (by decide +kernel)
  have hlnk1 := hts (.fieldLink RX8 29 "LentQuill$Search" "fewest" "I") (by decide +kernel)
  have hlnk2 := hts (.fieldLink RX8 32 "LentQuill$Search" "first" "I") (by decide +kernel)
  have hl : lh ls 5 [some (.ref s0), some (.ref t0), some (.ref q0), some (.int (nI st)), none] := hl
  obtain ⟨f, hs0, hs3, hsf, hpen⟩ := id hR
  refine xaload_n hx hb dX8_seek_0 hl rfl ?_
  refine xget (C := RX8) (T := TX8) (N := 6) hx hb (ci := 8) hts hiX8 hown hG hw (by repeat first | assumption | exact wu_eq _ _ _ | refine wu_ne (by omega) ?_) rfl 0 (by decide) hlnk0 (fun _ h9 => h9) rfl dX8_seek_1 ?_
  refine xaload_n hx hb dX8_seek_4 hl rfl ?_
  refine xVv ⟨hx, hb, hml, hown, hts⟩ (kX6_copyFrom l N0 G _ _ _ hpen _ g hq (by omega)) (cwV 1 hts gX8_seek_X6_copyFrom rfl rfl rfl (by decide +kernel) ⟨Nat.le_of_ble_eq_true rfl, Nat.le_of_ble_eq_true rfl⟩) hG hN hw hS (ci := 6) hpen.cell rfl rfl hl.1 rfl (Nat.le_of_ble_eq_true rfl) dX8_seek_5 ⟨Nat.le_of_ble_eq_true rfl, Nat.le_of_ble_eq_true rfl⟩ (fun r5 w5 H locs hp5 hw hS => ?_)
  obtain ⟨hp1, hO5⟩ := hp5
  have hs05 := hO5.at (by omega) hs0
  have hs35 := hO5.at (by omega) hs3
  refine xaload_n hx hb dX8_seek_8 hl rfl ?_
  refine lv_iconst (v := -1) hx hb dX8_seek_9 (by decide) ?_
  refine xput (C := RX8) (T := TX8) (N := 6) hx hb (ci := 8) (ty := .int) hts hiX8 tyX8 tyX8_ok nmX8 hown hG hw hS (by repeat first | assumption | exact wu_eq _ _ _ | refine wu_ne (by omega) ?_) rfl 4 (by decide) hlnk1 (fun _ h9 => h9) rfl (by decide +kernel) rfl rfl (Nat.le_of_ble_eq_true rfl) dX8_seek_10 (fun H locs hzz hw hS => ?_)
  refine xaload_n hx hb dX8_seek_13 hl rfl ?_
  refine lv_iconst (v := -1) hx hb dX8_seek_14 (by decide) ?_
  refine xput (C := RX8) (T := TX8) (N := 6) hx hb (ci := 8) (ty := .int) hts hiX8 tyX8 tyX8_ok nmX8 hown hG hw hS (by repeat first | assumption | exact wu_eq _ _ _ | refine wu_ne (by omega) ?_) rfl 5 (by decide) hlnk2 (fun _ h9 => h9) rfl (by decide +kernel) rfl rfl (Nat.le_of_ble_eq_true rfl) dX8_seek_15 (fun H locs hzz hw hS => ?_)
  refine lv_iconst (v := nI 0) hx hb dX8_seek_18 (by decide) ?_
  refine xistore hx hb dX8_seek_19 hl (by decide) rfl (fun ls hl => ?_)
  have loop21 : ∀ (nf : Nat) (k : Nat) (w1 : Wd) (H : Heap) (locs : List Loc) (ls : Array Slot), 5 - k < nf → (k ≤ 5) → (RSrch G w1 s0 g S (oI (wF P lim st g k)) (frO P lim st g (wF P lim st g k))) → (Out w w1 s0 (s0 + 4)) → PW N0 G w1 H → va_S (fun q => N0 ≤ q) s.heap H locs → lh ls 5 [some (.ref s0), some (.ref t0), some (.ref q0), some (.int (nI st)), some (.int (nI k))] → W p l e (rmD 11) s m ([.ref s0, .ref t0, .ref q0, .int (nI st)] : List Value).toArray below meth c H locs 0 0 (MQ below (XQ N0 G vV (fun _ w1 => RSrch G w1 s0 g S (oI (wF P lim st g 5)) (frO P lim st g (wF P lim st g 5)) ∧ Out w w1 s0 (s0 + 4))) ([.ref s0, .ref t0, .ref q0, .int (nI st)] : List Value).toArray s 0 0 (fun q => N0 ≤ q)) (F0 m 21 ls []) := by
    intro nf
    induction nf with
    | zero => intros; omega
    | succ nf ih21 =>
      intro k w1 H locs ls hnf hk hR1 hO1 hw hS hl
      have hsc := hR1.cell
      refine xiload hx hb dX8_seek_21 hl rfl ?_
      refine lv_iconst (v := nI 4) hx hb dX8_seek_23 (by decide) ?_
      first | refine xcmp_gt (tgt := 58) hx hb dX8_seek_24 (by decide) (by omega) (by omega) (fun c24 => ?_) (fun c24 => ?_) | refine lv_icmp_gt (tgt := 58) hx hb dX8_seek_24 (by decide) (fun c24 => ?_) (fun c24 => ?_)
      · skip
        rw [show k = 5 by omega] at hR1
        exact xvret hx hb hr hlk hw hS dX8_seek_58 ⟨hR1, hO1⟩
      · skip
        refine xaload_n hx hb dX8_seek_27 hl rfl ?_
        refine xget (C := RX8) (T := TX8) (N := 6) hx hb (ci := 8) hts hiX8 hown hG hw (by repeat first | assumption | exact wu_eq _ _ _ | refine wu_ne (by omega) ?_) rfl 4 (by decide) hlnk1 (fun _ h9 => h9) rfl dX8_seek_28 ?_
        refine lv_iconst (v := -1) hx hb dX8_seek_31 (by decide) ?_
        refine lv_icmp_ne (tgt := 58) hx hb dX8_seek_32 (by decide) (fun c32 => ?_) (fun c32 => ?_)
        · skip
          obtain ⟨t, hwt⟩ : ∃ t, wF P lim st g k = some t := by
            cases hwt : wF P lim st g k with
            | none => rw [hwt] at c32; exact absurd rfl c32
            | some t => exact ⟨t, rfl⟩
          have hw5 := wF_some hwt hk
          rw [hwt, ← hw5] at hR1
          exact xvret hx hb hr hlk hw hS dX8_seek_58 ⟨hR1, hO1⟩
        · skip
          refine xaload_n hx hb dX8_seek_35 hl rfl ?_
          refine xaload_n hx hb dX8_seek_36 hl rfl ?_
          refine xiload_n hx hb dX8_seek_37 hl rfl ?_
          refine xiload hx hb dX8_seek_38 hl rfl ?_
          have hq0 := oI_none (fun t ht => by have := wF_lt ht; omega) c32
          rw [hq0] at hR1
          have ht5 := ht.out hO1 hsep.1 hsep.2
          refine xVi ⟨hx, hb, hml, hown, hts⟩ (kX8_reaches l N0 G s0 t0 Z P lim st hst hsep k (by omega) w1 g _ _ _ ht5 hR1 hall) (cwV 3 hts gX8_seek_X8_reaches rfl rfl rfl (by decide +kernel) ⟨by simp only [rmD]; omega, by simp only [rmD]; omega⟩) hG hN hw hS (ci := 8) (by repeat first | assumption | exact wu_eq _ _ _ | refine wu_ne (by omega) ?_) rfl rfl hl.1 rfl (Nat.le_of_ble_eq_true rfl) dX8_seek_40 ⟨Nat.le_refl _, Nat.le_refl _⟩ (fun r40 w40 H locs hp40 hw hS => ?_)
          obtain ⟨rfl, hR2, hO2⟩ := hp40
          have hsc2 := hR2.cell
          first | refine xifb_eq (tgt := 52) hx hb dX8_seek_43 (by decide) (fun c43 => ?_) (fun c43 => ?_) | refine xif_eq (tgt := 52) hx hb dX8_seek_43 (by decide) (by omega) (fun c43 => ?_) (fun c43 => ?_) | refine lv_if_eq (tgt := 52) hx hb dX8_seek_43 (by decide) (fun c43 => ?_) (fun c43 => ?_)
          · skip
            first | refine xiincN hx hb 1 dX8_seek_52 hl rfl (by decide) (by decide) rfl (fun ls hl => ?_) | refine xiinc hx hb dX8_seek_52 hl rfl rfl (by decide) rfl (fun ls hl => ?_)
            refine lv_goto (tgt := 21) hx hb dX8_seek_55 (by decide) ?_
            exact ih21 (k + 1) _ _ _ _ (by omega) (by omega) (by first | (rw [wF_s1 hq0 c43]; exact seek_put hR2 c43) | (rw [wF_s0 hq0 c43]; rw [frA_n c43] at hR2; exact hR2)) (by first | exact (hO1.tr hO2 (by omega) (by omega)).wu (by omega) (by omega) | exact hO1.tr hO2 (by omega) (by omega)) hw hS hl
          · skip
            refine xaload_n hx hb dX8_seek_46 hl rfl ?_
            refine xiload hx hb dX8_seek_47 hl rfl ?_
            refine xput (C := RX8) (T := TX8) (N := 6) hx hb (ci := 8) (ty := .int) hts hiX8 tyX8 tyX8_ok nmX8 hown hG hw hS (by repeat first | assumption | exact wu_eq _ _ _ | refine wu_ne (by omega) ?_) rfl 4 (by decide) hlnk1 (fun _ h9 => h9) rfl (by decide +kernel) rfl rfl (Nat.le_of_ble_eq_true rfl) dX8_seek_49 (fun H locs hzz hw hS => ?_)
            first | refine xiincN hx hb 1 dX8_seek_52 hl rfl (by decide) (by decide) rfl (fun ls hl => ?_) | refine xiinc hx hb dX8_seek_52 hl rfl rfl (by decide) rfl (fun ls hl => ?_)
            refine lv_goto (tgt := 21) hx hb dX8_seek_55 (by decide) ?_
            exact ih21 (k + 1) _ _ _ _ (by omega) (by omega) (by first | (rw [wF_s1 hq0 c43]; exact seek_put hR2 c43) | (rw [wF_s0 hq0 c43]; rw [frA_n c43] at hR2; exact hR2)) (by first | exact (hO1.tr hO2 (by omega) (by omega)).wu (by omega) (by omega) | exact hO1.tr hO2 (by omega) (by omega)) hw hS hl
  exact loop21 6 0 _ _ _ _ (by omega) (by omega) (seek_0 hR hp1 hO5) (((hO5.mono (by omega) (by omega)).wu (by omega) (by omega)).wu (by omega) (by omega)) hw hS hl
