/-! ===== Books ===== -/
def sumTo (f : Nat → Nat) : Nat → Nat
  | 0 => 0
  | n + 1 => sumTo f n + f n
theorem sumTo_s (f : Nat → Nat) (n : Nat) : sumTo f (n + 1) = sumTo f n + f n := rfl
def allTo (f : Nat → Bool) : Nat → Bool
  | 0 => true
  | n + 1 => allTo f n && f n
theorem allTo_s {f : Nat → Bool} {n : Nat} (h : allTo f n = true) (h1 : f n = true) : allTo f (n + 1) = true := by rw [allTo, h, h1]; rfl
theorem allTo_at {f : Nat → Bool} : ∀ {n : Nat}, allTo f n = true → ∀ i, i < n → f i = true
  | 0, _, i, hi => absurd hi (Nat.not_lt_zero i)
  | n + 1, h, i, hi => by
    rw [allTo, Bool.and_eq_true] at h
    rcases Nat.lt_or_ge i n with q | q
    · exact allTo_at h.1 i q
    · rw [show i = n by omega]; exact h.2
theorem allTo_f {f : Nat → Bool} {i n : Nat} (hi : i < n) (h : f i = false) : allTo f n = false := by
  cases hq : allTo f n with
  | false => rfl
  | true => rw [allTo_at hq i hi] at h; cases h
def dbt (ds : List (Nat × Nat)) (i : Nat) : Nat := (ds.getD i (0, 0)).1
def bd (ds : List (Nat × Nat)) (i : Nat) : Nat := (ds.getD i (0, 0)).2
def oweN (ds : List (Nat × Nat)) (q : Nat) (n : Nat) : Nat := sumTo (fun i => if (bd ds i).testBit q = true then 60 * dbt ds i / pcN (bd ds i) else 0) n
theorem oweN_s (ds : List (Nat × Nat)) (q n : Nat) : oweN ds q (n + 1) = oweN ds q n + (if (bd ds n).testBit q = true then 60 * dbt ds n / pcN (bd ds n) else 0) := rfl
def brk1 (ds : List (Nat × Nat)) (st i : Nat) : Bool := decide (bd ds i = 0) || decide (bd ds i &&& st ≠ 0)
def brkA (ds : List (Nat × Nat)) (st : Nat) : Bool := allTo (brk1 ds st) ds.length
theorem tb_ne {b q : Nat} (h : b.testBit q = true) : b ≠ 0 := fun e => by rw [e] at h; simp at h
def clr (b q : Nat) : Nat := b &&& (31 ^^^ 2 ^ q)
theorem clr_all : ∀ b, b < 32 → ∀ q, q < 5 → nI b &&& (nI (2 ^ q) ^^^ (-1)) = nI (clr b q) := by decide +kernel
theorem clr_i {x : Int32} {b q : Nat} (hx : x = nI b) (hb : b < 32) (hq : q < 5) : x &&& (nI (2 ^ q) ^^^ (-1)) = nI (clr b q) := by rw [hx]; exact clr_all b hb q hq
theorem clr_lt : ∀ b, b < 32 → ∀ q, q < 5 → clr b q < 32 := by decide +kernel
theorem fGo_keep1 {ok : Nat → Bool} {m e : Nat} (h : pcN ((fGo ok m).getD e) ≤ pcN m) (hm : pcN m < pcN e) : (fGo ok (m + 1)).getD e = (fGo ok m).getD e := by
  rw [fGo]
  cases hq : fGo ok m with
  | none => rw [hq] at h; exact absurd hm (Nat.not_lt.mpr h)
  | some b =>
    rw [hq] at h
    have : ¬ (pcN m < pcN b ∧ ok m = true) := fun z => absurd z.1 (Nat.not_lt.mpr h)
    simp [this]
theorem fGo_keep2 {ok : Nat → Bool} {m e : Nat} (h : ok m = false) : (fGo ok (m + 1)).getD e = (fGo ok m).getD e := by
  rw [fGo]
  cases hq : fGo ok m <;> simp [h]
theorem fGo_take {ok : Nat → Bool} {m e : Nat} (h : ok m = true) (hm : pcN m < pcN ((fGo ok m).getD e)) : (fGo ok (m + 1)).getD e = m := by
  rw [fGo]
  cases hq : fGo ok m with
  | none => simp [h]
  | some b => rw [hq] at hm; have hm : pcN m < pcN b := hm; simp [h, hm]
theorem fGo_some {ok : Nat → Bool} : ∀ {m b : Nat}, fGo ok m = some b → b < m
  | 0, _, h => by cases h
  | m + 1, b, h => by
    rw [fGo] at h
    cases hq : fGo ok m with
    | none =>
      rw [hq] at h
      dsimp only at h
      split at h
      · cases h; omega
      · cases h
    | some c =>
      rw [hq] at h
      have := fGo_some hq
      dsimp only at h
      split at h
      · cases h; omega
      · cases h; omega
theorem fGo_lt {ok : Nat → Bool} {m e : Nat} (hm : m ≤ 32) (he : e < 32) : (fGo ok m).getD e < 32 := by
  cases hq : fGo ok m with
  | none => exact he
  | some b => have := fGo_some hq; show b < 32; omega
def hbs (hd : List (Nat × Bool)) (v : Bool) : Nat := hd.foldl (fun a q => if q.2 = v then a ||| 2 ^ q.1 else a) 0
theorem hbs_bit (v : Bool) (i : Nat) : ∀ (hd : List (Nat × Bool)) (a : Nat), (hd.foldl (fun a q => if q.2 = v then a ||| 2 ^ q.1 else a) a).testBit i = (a.testBit i || hd.any (fun q => decide (q.2 = v) && decide (q.1 = i)))
  | [], a => by simp
  | q :: hd, a => by
    rw [List.foldl_cons, hbs_bit v i hd, List.any_cons]
    by_cases hq : q.2 = v
    · rw [if_pos hq, Nat.testBit_or, Nat.testBit_two_pow]
      simp [hq, Bool.or_assoc]
    · simp [hq]
theorem hbs_lt (v : Bool) {hd : List (Nat × Bool)} (h : ∀ q ∈ hd, q.1 < 5) : hbs hd v < 32 := by
  refine Nat.lt_pow_two_of_testBit (n := 5) _ (fun i hi => ?_)
  unfold hbs
  rw [hbs_bit]
  simp only [Nat.zero_testBit, Bool.false_or]
  rw [List.any_eq_false]
  intro q hq
  have := h q hq
  simp
  intro _
  omega
theorem okH_iff (hd : List (Nat × Bool)) (b : Nat) : okH hd b = decide (b &&& hbs hd true = hbs hd true ∧ b &&& hbs hd false = 0) := by
  have hb : ∀ v i, (hbs hd v).testBit i = hd.any (fun q => decide (q.2 = v) && decide (q.1 = i)) := fun v i => by
    unfold hbs; rw [hbs_bit]; simp
  rw [Bool.eq_iff_iff, decide_eq_true_iff]
  unfold okH
  rw [List.all_eq_true]
  constructor
  · intro h
    constructor
    · apply Nat.eq_of_testBit_eq
      intro i
      rw [Nat.testBit_and]
      cases hq : (hbs hd true).testBit i with
      | false => simp
      | true =>
        rw [hb] at hq
        obtain ⟨q, hm, hq2⟩ := List.any_eq_true.mp hq
        simp at hq2
        have := h q hm
        rw [hq2.1, hq2.2] at this
        simp at this
        simp [this]
    · apply Nat.eq_of_testBit_eq
      intro i
      rw [Nat.testBit_and]
      cases hq : (hbs hd false).testBit i with
      | false => simp
      | true =>
        rw [hb] at hq
        obtain ⟨q, hm, hq2⟩ := List.any_eq_true.mp hq
        simp at hq2
        have := h q hm
        rw [hq2.1, hq2.2] at this
        simp at this
        simp [this]
  · rintro ⟨h1, h2⟩ ⟨i, v⟩ hm
    cases v with
    | true =>
      have e := congrArg (fun z => z.testBit i) h1
      rw [Nat.testBit_and] at e
      have : (hbs hd true).testBit i = true := by rw [hb]; exact List.any_eq_true.mpr ⟨_, hm, by simp⟩
      rw [this] at e
      simp at e
      simp [e]
    | false =>
      have e := congrArg (fun z => z.testBit i) h2
      rw [Nat.testBit_and] at e
      have : (hbs hd false).testBit i = true := by rw [hb]; exact List.any_eq_true.mpr ⟨_, hm, by simp⟩
      rw [this] at e
      simp at e
      simp [e]
/-- the books at b, in fourteen cells -/
def RBooks (G : XG) (w : Wd) (b : Nat) (pn : Nat → List Nat) (ds : List (Nat × Nat)) (hd : List (Nat × Bool)) : Prop :=
  ∃ (g : Nat → Option Nat) (fd fb : Nat → Int32), w b = some (eO 2 [.ref (b + 1), .ref (b + 2), .ref (b + 3), .int (nI ds.length), .int (nI hd.length), .int (nI (hbs hd true)), .int (nI (hbs hd false))]) ∧ w (b + 1) = some (eN G 5 g) ∧ w (b + 2) = some (eI G 6 fd) ∧ w (b + 3) = some (eI G 6 fb) ∧ ds.length ≤ 6 ∧ hd.length ≤ 6 ∧ (∀ i, i < 5 → g i = some (b + 4 + 2 * i)) ∧ (∀ i, i < ds.length → fd i = nI (dbt ds i) ∧ fb i = nI (bd ds i)) ∧ (∀ i, i < ds.length → dbt ds i ≤ 9 ∧ bd ds i < 32) ∧ (∀ q ∈ hd, q.1 < 5) ∧ ∀ i, i < 5 → RPen G w (b + 4 + 2 * i) (pn i)
theorem RBooks.out {G : XG} {w w1 : Wd} {b lo hi : Nat} {pn : Nat → List Nat} {ds : List (Nat × Nat)} {hd : List (Nat × Bool)} (h : RBooks G w b pn ds hd) (ho : Out w w1 lo hi) (hd0 : b + 14 ≤ lo ∨ hi ≤ b) : RBooks G w1 b pn ds hd := by
  obtain ⟨g, fd, fb, a0, a1, a2, a3, a4, a5, a6, a7, a8, a9, a10⟩ := h
  exact ⟨g, fd, fb, (ho _ (by omega)).trans a0, (ho _ (by omega)).trans a1, (ho _ (by omega)).trans a2, (ho _ (by omega)).trans a3, a4, a5, a6, a7, a8, a9, fun i hi2 => (a10 i hi2).out ho (by omega)⟩
theorem RBooks.pens {G : XG} {w w1 : Wd} {b i : Nat} {pn pn1 : Nat → List Nat} {ds : List (Nat × Nat)} {hd : List (Nat × Bool)} (h : RBooks G w b pn ds hd) (hi : i < 5) (hp : RPen G w1 (b + 4 + 2 * i) (pn1 i)) (ho : Out w w1 (b + 4 + 2 * i) (b + 4 + 2 * i + 2)) (he : ∀ j, j < 5 → j ≠ i → pn1 j = pn j) : RBooks G w1 b pn1 ds hd := by
  obtain ⟨g, fd, fb, a0, a1, a2, a3, a4, a5, a6, a7, a8, a9, a10⟩ := h
  refine ⟨g, fd, fb, (ho _ (by omega)).trans a0, (ho _ (by omega)).trans a1, (ho _ (by omega)).trans a2, (ho _ (by omega)).trans a3, a4, a5, a6, a7, a8, a9, fun j hj => ?_⟩
  by_cases hji : j = i
  · subst hji; exact hp
  · rw [he j hj hji]
    exact (a10 j hj).out ho (by omega)
theorem RBooks.eqp {G : XG} {w : Wd} {b : Nat} {pn pn1 : Nat → List Nat} {ds : List (Nat × Nat)} {hd : List (Nat × Bool)} (h : RBooks G w b pn ds hd) (he : ∀ j, j < 5 → pn1 j = pn j) : RBooks G w b pn1 ds hd := by
  obtain ⟨g, fd, fb, a0, a1, a2, a3, a4, a5, a6, a7, a8, a9, a10⟩ := h
  exact ⟨g, fd, fb, a0, a1, a2, a3, a4, a5, a6, a7, a8, a9, fun j hj => by rw [he j hj]; exact a10 j hj⟩
theorem clear_step {G : XG} {w w1 : Wd} {b i : Nat} {pn : Nat → List Nat} {ds : List (Nat × Nat)} {hd : List (Nat × Bool)} (h : RBooks G w b (fun j => if j < i then [j] else pn j) ds hd) (hi : i < 5) (hp : RPen G w1 (b + 4 + 2 * i) [i]) (ho : Out w w1 (b + 4 + 2 * i) (b + 4 + 2 * i + 2)) : RBooks G w1 b (fun j => if j < i + 1 then [j] else pn j) ds hd := by
  refine h.pens hi (by rw [if_pos (by omega)]; exact hp) ho (fun j _ hne => ?_)
  by_cases hj : j < i
  · rw [if_pos hj, if_pos (by omega)]
  · rw [if_neg hj, if_neg (by omega)]
theorem copy_step {G : XG} {w w1 : Wd} {b i : Nat} {pn pn2 : Nat → List Nat} {ds : List (Nat × Nat)} {hd : List (Nat × Bool)} (h : RBooks G w b (fun j => if j < i then pn2 j else pn j) ds hd) (hi : i < 5) (hp : RPen G w1 (b + 4 + 2 * i) (pn2 i)) (ho : Out w w1 (b + 4 + 2 * i) (b + 4 + 2 * i + 2)) : RBooks G w1 b (fun j => if j < i + 1 then pn2 j else pn j) ds hd := by
  refine h.pens hi (by rw [if_pos (by omega)]; exact hp) ho (fun j _ hne => ?_)
  by_cases hj : j < i
  · rw [if_pos hj, if_pos (by omega)]
  · rw [if_neg hj, if_neg (by omega)]
theorem clear_mid {G : XG} {w : Wd} {b i : Nat} {pn : Nat → List Nat} {ds : List (Nat × Nat)} {hd : List (Nat × Bool)} {x0 x1 x2 x3 : Value} (h : RBooks G w b (fun j => if j < i then [j] else pn j) ds hd) (hb0 : w b = some (eO 2 [.ref (b + 1), .ref (b + 2), .ref (b + 3), x0, x1, x2, x3])) (hi : 5 ≤ i) : RBooks G (wu w b (eO 2 [.ref (b + 1), .ref (b + 2), .ref (b + 3), .int (nI 0), x1, x2, x3])) b (fun i => [i]) [] hd := by
  have h := h.eqp (pn1 := fun i => [i]) (fun j hj => by rw [if_pos (by omega)])
  obtain ⟨g, fd, fb, a0, a1, a2, a3, a4, a5, a6, a7, a8, a9, a10⟩ := h
  rw [hb0] at a0
  simp only [Option.some.injEq, Sum.inr.injEq, Prod.mk.injEq, List.cons.injEq, and_true, true_and] at a0
  obtain ⟨-, e1, e2, e3⟩ := a0
  subst e1; subst e2; subst e3
  refine ⟨g, fd, fb, wu_eq _ _ _, by rw [wu_nq (by omega)]; exact a1, by rw [wu_nq (by omega)]; exact a2, by rw [wu_nq (by omega)]; exact a3, by simp, a5, a6, by simp, by simp, a9, fun j hj => (a10 j hj).keep (wu_nq (by omega)) (wu_nq (by omega))⟩
theorem clearHeard_rep {G : XG} {w : Wd} {b : Nat} {pn : Nat → List Nat} {ds : List (Nat × Nat)} {hd : List (Nat × Bool)} (h : RBooks G w b pn ds hd) (hb0 : w b = some (eO 2 [.ref (b + 1), .ref (b + 2), .ref (b + 3), .int (nI ds.length), .int (nI hd.length), .int (nI (hbs hd true)), .int (nI (hbs hd false))])) : RBooks G (wu (wu (wu w b (eO 2 [.ref (b + 1), .ref (b + 2), .ref (b + 3), .int (nI ds.length), .int (nI 0), .int (nI (hbs hd true)), .int (nI (hbs hd false))])) b (eO 2 [.ref (b + 1), .ref (b + 2), .ref (b + 3), .int (nI ds.length), .int (nI 0), .int (nI 0), .int (nI (hbs hd false))])) b (eO 2 [.ref (b + 1), .ref (b + 2), .ref (b + 3), .int (nI ds.length), .int (nI 0), .int (nI 0), .int (nI 0)])) b pn ds [] := by
  obtain ⟨g, fd, fb, a0, a1, a2, a3, a4, a5, a6, a7, a8, a9, a10⟩ := h
  have hn : ∀ {a : Nat}, a ≠ b → ∀ e1 e2 e3 : va_E, wu (wu (wu w b e1) b e2) b e3 a = w a := fun h e1 e2 e3 => by rw [wu_nq h, wu_nq h, wu_nq h]
  exact ⟨g, fd, fb, wu_eq _ _ _, by rw [hn (by omega)]; exact a1, by rw [hn (by omega)]; exact a2, by rw [hn (by omega)]; exact a3, a4, by simp, a6, a7, a8, by simp, fun j hj => (a10 j hj).keep (hn (by omega) _ _ _) (hn (by omega) _ _ _)⟩
theorem dbt_app {ds : List (Nat × Nat)} {d b i : Nat} (h : i < ds.length) : dbt (ds ++ [(d, b)]) i = dbt ds i ∧ bd (ds ++ [(d, b)]) i = bd ds i := by
  unfold dbt bd
  rw [List.getD_eq_getElem?_getD, List.getD_eq_getElem?_getD, List.getElem?_append_left h]
  exact ⟨rfl, rfl⟩
theorem dbt_last (ds : List (Nat × Nat)) (d b : Nat) : dbt (ds ++ [(d, b)]) ds.length = d ∧ bd (ds ++ [(d, b)]) ds.length = b := by
  unfold dbt bd
  rw [List.getD_eq_getElem?_getD, List.getElem?_append_right (Nat.le_refl _)]
  simp
theorem addDeed_rep {G : XG} {w : Wd} {b0 : Nat} {pn : Nat → List Nat} {ds : List (Nat × Nat)} {hd : List (Nat × Bool)} {fd fb : Nat → Int32} {d b : Nat} (h : RBooks G w b0 pn ds hd) (hb0 : w b0 = some (eO 2 [.ref (b0 + 1), .ref (b0 + 2), .ref (b0 + 3), .int (nI ds.length), .int (nI hd.length), .int (nI (hbs hd true)), .int (nI (hbs hd false))])) (hb2 : w (b0 + 2) = some (eI G 6 fd)) (hb3 : w (b0 + 3) = some (eI G 6 fb)) (hdf : ∀ i, i < ds.length → fd i = nI (dbt ds i) ∧ fb i = nI (bd ds i)) (hd9 : d ≤ 9) (hb32 : b < 32) (hlt : ds.length < 6) :
    RBooks G (wu (wu (wu w (b0 + 2) (eI G 6 (upd fd ds.length (nI d)))) (b0 + 3) (eI G 6 (upd fb ds.length (nI b)))) b0 (eO 2 [.ref (b0 + 1), .ref (b0 + 2), .ref (b0 + 3), .int (nI (ds.length + 1)), .int (nI hd.length), .int (nI (hbs hd true)), .int (nI (hbs hd false))])) b0 pn (ds ++ [(d, b)]) hd := by
  obtain ⟨g, fd', fb', a0, a1, a2, a3, a4, a5, a6, a7, a8, a9, a10⟩ := h
  have hn : ∀ {a : Nat}, a ≠ b0 → a ≠ b0 + 2 → a ≠ b0 + 3 → ∀ e1 e2 e3 : va_E, wu (wu (wu w (b0 + 2) e1) (b0 + 3) e2) b0 e3 a = w a := fun h1 h2 h3 e1 e2 e3 => by rw [wu_nq h1, wu_nq h3, wu_nq h2]
  refine ⟨g, upd fd ds.length (nI d), upd fb ds.length (nI b), ?_, by rw [hn (by omega) (by omega) (by omega)]; exact a1, by rw [wu_nq (by omega), wu_nq (by omega), wu_eq], by rw [wu_nq (by omega), wu_eq], by simp; omega, a5, a6, fun i hi => ?_, fun i hi => ?_, a9, fun j hj => (a10 j hj).keep (hn (by omega) (by omega) (by omega) _ _ _) (hn (by omega) (by omega) (by omega) _ _ _)⟩
  · rw [wu_eq]; simp
  · simp at hi
    by_cases hil : i = ds.length
    · subst hil
      rw [(dbt_last ds d b).1, (dbt_last ds d b).2, pk_us, pk_us]
      exact ⟨rfl, rfl⟩
    · rw [pk_un hil, pk_un hil, (dbt_app (by omega)).1, (dbt_app (by omega)).2]
      exact hdf i (by omega)
  · simp at hi
    by_cases hil : i = ds.length
    · subst hil
      rw [(dbt_last ds d b).1, (dbt_last ds d b).2]
      exact ⟨hd9, hb32⟩
    · rw [(dbt_app (by omega)).1, (dbt_app (by omega)).2]
      exact a8 i (by omega)
theorem dbt_set {ds : List (Nat × Nat)} {i j d b : Nat} (hi : i < ds.length) : dbt (ds.set i (d, b)) j = (if j = i then d else dbt ds j) ∧ bd (ds.set i (d, b)) j = (if j = i then b else bd ds j) := by
  unfold dbt bd
  rw [List.getD_eq_getElem?_getD, List.getD_eq_getElem?_getD]
  by_cases h : j = i
  · subst h
    rw [List.getElem?_set_self hi, if_pos rfl, if_pos rfl]
    exact ⟨rfl, rfl⟩
  · rw [List.getElem?_set_ne (Ne.symm h), if_neg h, if_neg h]
    exact ⟨rfl, rfl⟩
theorem unbind_rep {G : XG} {w : Wd} {b0 : Nat} {pn : Nat → List Nat} {ds : List (Nat × Nat)} {hd : List (Nat × Bool)} {fb : Nat → Int32} {i q : Nat} (h : RBooks G w b0 pn ds hd) (hi : i < ds.length) (hq : q < 5) (hb3 : w (b0 + 3) = some (eI G 6 fb)) : RBooks G (wu w (b0 + 3) (eI G 6 (upd fb i (nI (clr (bd ds i) q))))) b0 pn (ds.set i (dbt ds i, clr (bd ds i) q)) hd := by
  obtain ⟨g, fd', fb', a0, a1, a2, a3, a4, a5, a6, a7, a8, a9, a10⟩ := h
  have hfb : ∀ j, j < ds.length → fb j = nI (bd ds j) := by
    rw [hb3] at a3
    have e : eI G 6 fb = eI G 6 fb' := Option.some.inj a3
    simp only [eI, Sum.inl.injEq, Prod.mk.injEq, true_and] at e
    rw [e]
    exact fun j hj => (a7 j hj).2
  refine ⟨g, fd', _, by rw [wu_nq (by omega), List.length_set]; exact a0, by rw [wu_nq (by omega)]; exact a1, by rw [wu_nq (by omega)]; exact a2, wu_eq _ _ _, by rw [List.length_set]; exact a4, a5, a6, fun j hj => ?_, fun j hj => ?_, a9, fun j hj => (a10 j hj).keep (wu_nq (by omega)) (wu_nq (by omega))⟩
  · rw [List.length_set] at hj
    rw [(dbt_set hi).1, (dbt_set hi).2]
    by_cases hji : j = i
    · subst hji
      rw [if_pos rfl, if_pos rfl, pk_us]
      exact ⟨(a7 j hj).1, rfl⟩
    · rw [if_neg hji, if_neg hji, pk_un hji]
      exact ⟨(a7 j hj).1, hfb j hj⟩
  · rw [List.length_set] at hj
    rw [(dbt_set hi).1, (dbt_set hi).2]
    by_cases hji : j = i
    · subst hji
      rw [if_pos rfl, if_pos rfl]
      exact ⟨(a8 j hj).1, clr_lt _ (a8 j hj).2 q hq⟩
    · rw [if_neg hji, if_neg hji]
      exact a8 j hj
theorem addHeard_repT {G : XG} {w : Wd} {b0 : Nat} {pn : Nat → List Nat} {ds : List (Nat × Nat)} {hd : List (Nat × Bool)} {q : Nat} (h : RBooks G w b0 pn ds hd) (hb0 : w b0 = some (eO 2 [.ref (b0 + 1), .ref (b0 + 2), .ref (b0 + 3), .int (nI ds.length), .int (nI hd.length), .int (nI (hbs hd true)), .int (nI (hbs hd false))])) (hq5 : q < 5) (hlt : hd.length < 6) :
    RBooks G (wu (wu w b0 (eO 2 [.ref (b0 + 1), .ref (b0 + 2), .ref (b0 + 3), .int (nI ds.length), .int (nI (hd.length + 1)), .int (nI (hbs hd true)), .int (nI (hbs hd false))])) b0 (eO 2 [.ref (b0 + 1), .ref (b0 + 2), .ref (b0 + 3), .int (nI ds.length), .int (nI (hd.length + 1)), .int (nI (hbs hd true ||| 2 ^ q)), .int (nI (hbs hd false))])) b0 pn ds (hd ++ [(q, true)]) := by
  obtain ⟨g, fd, fb, a0, a1, a2, a3, a4, a5, a6, a7, a8, a9, a10⟩ := h
  have hn : ∀ {a : Nat}, a ≠ b0 → ∀ e1 e2 : va_E, wu (wu w b0 e1) b0 e2 a = w a := fun h e1 e2 => by rw [wu_nq h, wu_nq h]
  refine ⟨g, fd, fb, ?_, by rw [hn (by omega)]; exact a1, by rw [hn (by omega)]; exact a2, by rw [hn (by omega)]; exact a3, a4, by simp; omega, a6, a7, a8, ?_, fun j hj => (a10 j hj).keep (hn (by omega) _ _) (hn (by omega) _ _)⟩
  · rw [wu_eq]
    have e1 : hbs (hd ++ [(q, true)]) true = hbs hd true ||| 2 ^ q := by simp [hbs, List.foldl_append]
    have e2 : hbs (hd ++ [(q, true)]) false = hbs hd false := by simp [hbs, List.foldl_append]
    rw [e1, e2]
    simp
  · intro x hx
    rcases List.mem_append.mp hx with h1 | h1
    · exact a9 x h1
    · rw [List.mem_singleton] at h1; subst h1; exact hq5
theorem addHeard_repF {G : XG} {w : Wd} {b0 : Nat} {pn : Nat → List Nat} {ds : List (Nat × Nat)} {hd : List (Nat × Bool)} {q : Nat} (h : RBooks G w b0 pn ds hd) (hb0 : w b0 = some (eO 2 [.ref (b0 + 1), .ref (b0 + 2), .ref (b0 + 3), .int (nI ds.length), .int (nI hd.length), .int (nI (hbs hd true)), .int (nI (hbs hd false))])) (hq5 : q < 5) (hlt : hd.length < 6) :
    RBooks G (wu (wu w b0 (eO 2 [.ref (b0 + 1), .ref (b0 + 2), .ref (b0 + 3), .int (nI ds.length), .int (nI (hd.length + 1)), .int (nI (hbs hd true)), .int (nI (hbs hd false))])) b0 (eO 2 [.ref (b0 + 1), .ref (b0 + 2), .ref (b0 + 3), .int (nI ds.length), .int (nI (hd.length + 1)), .int (nI (hbs hd true)), .int (nI (hbs hd false ||| 2 ^ q))])) b0 pn ds (hd ++ [(q, false)]) := by
  obtain ⟨g, fd, fb, a0, a1, a2, a3, a4, a5, a6, a7, a8, a9, a10⟩ := h
  have hn : ∀ {a : Nat}, a ≠ b0 → ∀ e1 e2 : va_E, wu (wu w b0 e1) b0 e2 a = w a := fun h e1 e2 => by rw [wu_nq h, wu_nq h]
  refine ⟨g, fd, fb, ?_, by rw [hn (by omega)]; exact a1, by rw [hn (by omega)]; exact a2, by rw [hn (by omega)]; exact a3, a4, by simp; omega, a6, a7, a8, ?_, fun j hj => (a10 j hj).keep (hn (by omega) _ _) (hn (by omega) _ _)⟩
  · rw [wu_eq]
    have e1 : hbs (hd ++ [(q, false)]) true = hbs hd true := by simp [hbs, List.foldl_append]
    have e2 : hbs (hd ++ [(q, false)]) false = hbs hd false ||| 2 ^ q := by simp [hbs, List.foldl_append]
    rw [e1, e2]
    simp
  · intro x hx
    rcases List.mem_append.mp hx with h1 | h1
    · exact a9 x h1
    · rw [List.mem_singleton] at h1; subst h1; exact hq5
theorem cpy6 {f g : Nat → Int32} {j : Nat} (h : j < 6) : va_cpy f g 0 0 6 j = f j := sb_cpy0 h
theorem copy_rep {G : XG} {w : Wd} {b i : Nat} {pn pn2 : Nat → List Nat} {ds ds2 : List (Nat × Nat)} {hd hd2 : List (Nat × Bool)} {fd fb fd2 fb2 : Nat → Int32} {w2 : Wd} (hB : RBooks G w b (fun j => if j < i then pn2 j else pn j) ds hd) (hi : 5 ≤ i) (hd62 : ds2.length ≤ 6) (hh62 : hd2.length ≤ 6) (hdf2 : ∀ i, i < ds2.length → fd2 i = nI (dbt ds2 i) ∧ fb2 i = nI (bd ds2 i)) (hdw2 : ∀ i, i < ds2.length → dbt ds2 i ≤ 9 ∧ bd ds2 i < 32) (hhw2 : ∀ q ∈ hd2, q.1 < 5)
    (e0 : w2 b = some (eO 2 [.ref (b + 1), .ref (b + 2), .ref (b + 3), .int (nI ds2.length), .int (nI hd2.length), .int (nI (hbs hd2 true)), .int (nI (hbs hd2 false))])) (e2 : w2 (b + 2) = some (eI G 6 (va_cpy fd2 fd 0 0 6))) (e3 : w2 (b + 3) = some (eI G 6 (va_cpy fb2 fb 0 0 6))) (en : ∀ a, a ≠ b → a ≠ b + 2 → a ≠ b + 3 → w2 a = w a) : RBooks G w2 b pn2 ds2 hd2 := by
  obtain ⟨g, fd', fb', a0, a1, a2, a3, a4, a5, a6, a7, a8, a9, a10⟩ := hB
  refine ⟨g, _, _, e0, (en _ (by omega) (by omega) (by omega)).trans a1, e2, e3, hd62, hh62, a6, fun j hj => ?_, hdw2, hhw2, fun j hj => ?_⟩
  · rw [cpy6 (by omega), cpy6 (by omega)]
    exact hdf2 j hj
  · have h9 : (if j < i then pn2 j else pn j) = pn2 j := if_pos (by omega)
    have h8 : RPen G w (b + 4 + 2 * j) (if j < i then pn2 j else pn j) := a10 j hj
    rw [h9] at h8
    exact h8.keep (en _ (by omega) (by omega) (by omega)) (en _ (by omega) (by omega) (by omega))
set_option maxHeartbeats 4000000 in
set_option maxRecDepth 100000 in
theorem kX2_pen (l : Launch) (N0 : Nat) (G : XG) (w : Wd) (b0 : Nat) (pn : Nat → List Nat) (ds : List (Nat × Nat)) (hd : List (Nat × Bool)) (hB : RBooks G w b0 pn ds hd) (i : Nat) (hi : i < 5) : XM l yX2_pen wsX2_pen (rmD 1) N0 G [.ref b0, .int (nI i)] w vR (fun r w1 => some (b0 + 4 + 2 * i) = r ∧ w = w1) 0 0 := by
  refine XM.of (cc := cX2_pen) (maxL := 2) (ret := (some (.object "LentQuill$Pen"))) (by decide) rfl (Nat.le_of_ble_eq_true rfl) ?_
  intro p e s m below meth c hx hb hr hlk hin0 hml hown hts hN hw hG hS ls hl
  have hown : s.vm.findClass RX2 = some m.cls := hown
  have hiX2 : ∀ x ∈ u_ws RX2 TX2 7, x ∈ wsX2_pen := by decide +kernel
  have hlnk0 := hts (.fieldLink RX2 11 "LentQuill$Books" "pens" "[LLentQuill$Pen;") (by decide +kernel)
  have hl : lh ls 2 [some (.ref b0), some (.int (nI i))] := hl
  obtain ⟨g, fd, fb, hb0, hb1, hb2, hb3, hd6, hh6, hg, hdf, hdw, hhw, hpn⟩ := id hB
  refine xiload_n hx hb dX2_pen_0 hl rfl ?_
  refine xif_lt (tgt := 13) hx hb dX2_pen_1 (by decide) (by omega) ?_
  refine xiload_n hx hb dX2_pen_4 hl rfl ?_
  refine xaload_n hx hb dX2_pen_5 hl rfl ?_
  refine xget (C := RX2) (T := TX2) (N := 7) hx hb (ci := 2) hts hiX2 hown hG hw (by repeat first | assumption | exact wu_eq _ _ _ | refine wu_ne (by omega) ?_) rfl 0 (by decide) hlnk0 (fun _ h9 => h9) rfl dX2_pen_6 ?_
  first | refine xalenI hx hb hG hw (by repeat first | assumption | exact wu_eq _ _ _ | refine wu_ne (by omega) ?_) dX2_pen_9 ?_ | refine xalenP hx hb hG hw (by repeat first | assumption | exact wu_eq _ _ _ | refine wu_ne (by omega) ?_) dX2_pen_9 ?_ | refine xalenN hx hb hG hw (by repeat first | assumption | exact wu_eq _ _ _ | refine wu_ne (by omega) ?_) dX2_pen_9 ?_
  first | refine xcmp_lt (tgt := 17) hx hb dX2_pen_10 (by decide) (by omega) (by omega) (fun c10 => ?_) (fun c10 => ?_) | refine lv_icmp_lt (tgt := 17) hx hb dX2_pen_10 (by decide) (fun c10 => ?_) (fun c10 => ?_)
  · skip
    refine xaload_n hx hb dX2_pen_17 hl rfl ?_
    refine xget (C := RX2) (T := TX2) (N := 7) hx hb (ci := 2) hts hiX2 hown hG hw (by repeat first | assumption | exact wu_eq _ _ _ | refine wu_ne (by omega) ?_) rfl 0 (by decide) hlnk0 (fun _ h9 => h9) rfl dX2_pen_18 ?_
    refine xiload_n hx hb dX2_pen_21 hl rfl ?_
    refine xnald hx hb hG hw (by repeat first | assumption | exact wu_eq _ _ _ | refine wu_ne (by omega) ?_) (by omega) (by omega) dX2_pen_22 ?_
    first | exact xaretS hx hb hr hlk hw hS dX2_pen_23 ⟨(hg i hi).symm, rfl⟩ | exact xaretN hx hb hr hlk hw hS dX2_pen_23 ⟨(hg i hi).symm, rfl⟩ | exact xaret hx hb hr hlk hw hS dX2_pen_23 ⟨(hg i hi).symm, rfl⟩
  · skip
    exfalso
    omega
set_option maxHeartbeats 4000000 in
set_option maxRecDepth 100000 in
theorem kX2_timesLent (l : Launch) (N0 : Nat) (G : XG) (w : Wd) (b0 : Nat) (pn : Nat → List Nat) (ds : List (Nat × Nat)) (hd : List (Nat × Bool)) (hB : RBooks G w b0 pn ds hd) : XM l yX2_timesLent wsX2_timesLent (rmD 2) N0 G [.ref b0] w vI (fun r w1 => nI (sumTo (fun i => (pn i).length - 1) 5) = r ∧ w = w1) 0 0 := by
  refine XM.of (cc := cX2_timesLent) (maxL := 6) (ret := (some .int)) (by decide) rfl (Nat.le_of_ble_eq_true rfl) ?_
  intro p e s m below meth c hx hb hr hlk hin0 hml hown hts hN hw hG hS ls hl
  have hown : s.vm.findClass RX2 = some m.cls := hown
  have hiX2 : ∀ x ∈ u_ws RX2 TX2 7, x ∈ wsX2_timesLent := by decide +kernel
  have hlnk0 := hts (.fieldLink RX2 11 "LentQuill$Books" "pens" "[LLentQuill$Pen;") (by decide +kernel)
  have hl : lh ls 6 [some (.ref b0), none, none, none, none, none] := hl
  obtain ⟨g, fd, fb, hb0, hb1, hb2, hb3, hd6, hh6, hg, hdf, hdw, hhw, hpn⟩ := id hB
  refine lv_iconst (v := nI 0) hx hb dX2_timesLent_0 (by decide) ?_
  refine xistore_n hx hb dX2_timesLent_1 hl (by decide) rfl (fun ls hl => ?_)
  refine xaload_n hx hb dX2_timesLent_2 hl rfl ?_
  refine xget (C := RX2) (T := TX2) (N := 7) hx hb (ci := 2) hts hiX2 hown hG hw (by repeat first | assumption | exact wu_eq _ _ _ | refine wu_ne (by omega) ?_) rfl 0 (by decide) hlnk0 (fun _ h9 => h9) rfl dX2_timesLent_3 ?_
  first | refine xastore_n hx hb dX2_timesLent_6 hl (by decide) rfl (fun ls hl => ?_) | refine xastore_nN hx hb dX2_timesLent_6 hl (by decide) rfl (fun ls hl => ?_)
  refine xaload_n hx hb dX2_timesLent_7 hl rfl ?_
  first | refine xalenI hx hb hG hw (by repeat first | assumption | exact wu_eq _ _ _ | refine wu_ne (by omega) ?_) dX2_timesLent_8 ?_ | refine xalenP hx hb hG hw (by repeat first | assumption | exact wu_eq _ _ _ | refine wu_ne (by omega) ?_) dX2_timesLent_8 ?_ | refine xalenN hx hb hG hw (by repeat first | assumption | exact wu_eq _ _ _ | refine wu_ne (by omega) ?_) dX2_timesLent_8 ?_
  refine xistore_n hx hb dX2_timesLent_9 hl (by decide) rfl (fun ls hl => ?_)
  refine lv_iconst (v := nI 0) hx hb dX2_timesLent_10 (by decide) ?_
  refine xistore hx hb dX2_timesLent_11 hl (by decide) rfl (fun ls hl => ?_)
  have loop13 : ∀ (nf : Nat) (i : Nat) (H : Heap) (locs : List Loc) (ls : Array Slot), 5 - i < nf → (i ≤ 5) → PW N0 G w H → va_S (fun q => N0 ≤ q) s.heap H locs → lh ls 6 [some (.ref b0), some (.int (nI (sumTo (fun i => (pn i).length - 1) i))), some (.ref (b0 + 1)), some (.int (nI 5)), some (.int (nI i)), none] → W p l e (rmD 2) s m ([.ref b0] : List Value).toArray below meth c H locs 0 0 (MQ below (XQ N0 G vI (fun r w1 => nI (sumTo (fun i => (pn i).length - 1) 5) = r ∧ w = w1)) ([.ref b0] : List Value).toArray s 0 0 (fun q => N0 ≤ q)) (F0 m 13 ls []) := by
    intro nf
    induction nf with
    | zero => intros; omega
    | succ nf ih13 =>
      intro i H locs ls hnf hi hw hS hl
      refine xiload hx hb dX2_timesLent_13 hl rfl ?_
      refine xiload_n hx hb dX2_timesLent_15 hl rfl ?_
      first | refine xcmp_ge (tgt := 48) hx hb dX2_timesLent_16 (by decide) (by omega) (by omega) (fun c16 => ?_) (fun c16 => ?_) | refine lv_icmp_ge (tgt := 48) hx hb dX2_timesLent_16 (by decide) (fun c16 => ?_) (fun c16 => ?_)
      · skip
        refine xiload_n hx hb dX2_timesLent_48 hl rfl ?_
        exact xiret hx hb hr hlk hw hS dX2_timesLent_49 ⟨by rw [show i = 5 by omega], rfl⟩
      · skip
        refine xaload_n hx hb dX2_timesLent_19 hl rfl ?_
        refine xiload hx hb dX2_timesLent_20 hl rfl ?_
        refine xnald hx hb hG hw (by repeat first | assumption | exact wu_eq _ _ _ | refine wu_ne (by omega) ?_) (by omega) (by omega) dX2_timesLent_22 ?_
        refine xrf (hg i (by omega)) ?_
        refine xastore hx hb dX2_timesLent_23 hl (by decide) rfl (fun ls hl => ?_)
        refine xiload_n hx hb dX2_timesLent_25 hl rfl ?_
        refine xaload hx hb dX2_timesLent_26 hl rfl ?_
        refine lv_ifnonnull (tgt := 35) hx hb dX2_timesLent_28 (by decide) ?_
        refine xaload hx hb dX2_timesLent_35 hl rfl ?_
        have hpi := (hpn i (by omega)).cell
        refine xVi ⟨hx, hb, hml, hown, hts⟩ (kX6_timesLent l N0 G _ _ _ (hpn i (by omega))) (cwV 0 hts gX2_timesLent_X6_timesLent rfl rfl rfl (by decide +kernel) ⟨Nat.le_of_ble_eq_true rfl, Nat.le_of_ble_eq_true rfl⟩) hG hN hw hS (ci := 6) (by repeat first | assumption | exact wu_eq _ _ _ | refine wu_ne (by omega) ?_) rfl rfl hl.1 rfl (Nat.le_of_ble_eq_true rfl) dX2_timesLent_37 ⟨Nat.le_of_ble_eq_true rfl, Nat.le_of_ble_eq_true rfl⟩ (fun r37 w37 H locs hp37 hw hS => ?_)
        obtain ⟨rfl, rfl⟩ := hp37
        first | refine xadd hx hb dX2_timesLent_40 ?_ | refine lv_iadd hx hb dX2_timesLent_40 ?_
        refine xistore_n hx hb dX2_timesLent_41 hl (by decide) rfl (fun ls hl => ?_)
        first | refine xiincN hx hb 1 dX2_timesLent_42 hl rfl (by decide) (by decide) rfl (fun ls hl => ?_) | refine xiinc hx hb dX2_timesLent_42 hl rfl rfl (by decide) rfl (fun ls hl => ?_)
        refine lv_goto (tgt := 13) hx hb dX2_timesLent_45 (by decide) ?_
        exact ih13 (i + 1) _ _ _ (by omega) (by omega) hw hS (hl.drop 5)
  exact loop13 6 0 _ _ _ (by omega) (by omega) hw hS hl
set_option maxHeartbeats 4000000 in
set_option maxRecDepth 100000 in
theorem kX2_pensWith (l : Launch) (N0 : Nat) (G : XG) (w : Wd) (b0 : Nat) (pn : Nat → List Nat) (ds : List (Nat × Nat)) (hd : List (Nat × Bool)) (hB : RBooks G w b0 pn ds hd) (q : Nat) (hq5 : q < 5) (hsm : ∀ i, i < 5 → (pn i).getD 0 0 < 100) : XM l yX2_pensWith wsX2_pensWith (rmD 2) N0 G [.ref b0, .int (nI q)] w vI (fun r w1 => nI (sumTo (fun i => if (pn i).getD 0 0 = q then 1 else 0) 5) = r ∧ w = w1) 0 0 := by
  refine XM.of (cc := cX2_pensWith) (maxL := 7) (ret := (some .int)) (by decide) rfl (Nat.le_of_ble_eq_true rfl) ?_
  intro p e s m below meth c hx hb hr hlk hin0 hml hown hts hN hw hG hS ls hl
  have hown : s.vm.findClass RX2 = some m.cls := hown
  have hiX2 : ∀ x ∈ u_ws RX2 TX2 7, x ∈ wsX2_pensWith := by decide +kernel
  have hlnk0 := hts (.fieldLink RX2 11 "LentQuill$Books" "pens" "[LLentQuill$Pen;") (by decide +kernel)
  have hl : lh ls 7 [some (.ref b0), some (.int (nI q)), none, none, none, none, none] := hl
  obtain ⟨g, fd, fb, hb0, hb1, hb2, hb3, hd6, hh6, hg, hdf, hdw, hhw, hpn⟩ := id hB
  refine lv_iconst (v := nI 0) hx hb dX2_pensWith_0 (by decide) ?_
  refine xistore_n hx hb dX2_pensWith_1 hl (by decide) rfl (fun ls hl => ?_)
  refine xaload_n hx hb dX2_pensWith_2 hl rfl ?_
  refine xget (C := RX2) (T := TX2) (N := 7) hx hb (ci := 2) hts hiX2 hown hG hw (by repeat first | assumption | exact wu_eq _ _ _ | refine wu_ne (by omega) ?_) rfl 0 (by decide) hlnk0 (fun _ h9 => h9) rfl dX2_pensWith_3 ?_
  first | refine xastore_n hx hb dX2_pensWith_6 hl (by decide) rfl (fun ls hl => ?_) | refine xastore_nN hx hb dX2_pensWith_6 hl (by decide) rfl (fun ls hl => ?_)
  refine xaload_n hx hb dX2_pensWith_7 hl rfl ?_
  first | refine xalenI hx hb hG hw (by repeat first | assumption | exact wu_eq _ _ _ | refine wu_ne (by omega) ?_) dX2_pensWith_8 ?_ | refine xalenP hx hb hG hw (by repeat first | assumption | exact wu_eq _ _ _ | refine wu_ne (by omega) ?_) dX2_pensWith_8 ?_ | refine xalenN hx hb hG hw (by repeat first | assumption | exact wu_eq _ _ _ | refine wu_ne (by omega) ?_) dX2_pensWith_8 ?_
  refine xistore hx hb dX2_pensWith_9 hl (by decide) rfl (fun ls hl => ?_)
  refine lv_iconst (v := nI 0) hx hb dX2_pensWith_11 (by decide) ?_
  refine xistore hx hb dX2_pensWith_12 hl (by decide) rfl (fun ls hl => ?_)
  have loop14 : ∀ (nf : Nat) (i : Nat) (H : Heap) (locs : List Loc) (ls : Array Slot), 5 - i < nf → (i ≤ 5) → PW N0 G w H → va_S (fun q => N0 ≤ q) s.heap H locs → lh ls 7 [some (.ref b0), some (.int (nI q)), some (.int (nI (sumTo (fun i => if (pn i).getD 0 0 = q then 1 else 0) i))), some (.ref (b0 + 1)), some (.int (nI 5)), some (.int (nI i)), none] → W p l e (rmD 2) s m ([.ref b0, .int (nI q)] : List Value).toArray below meth c H locs 0 0 (MQ below (XQ N0 G vI (fun r w1 => nI (sumTo (fun i => if (pn i).getD 0 0 = q then 1 else 0) 5) = r ∧ w = w1)) ([.ref b0, .int (nI q)] : List Value).toArray s 0 0 (fun q => N0 ≤ q)) (F0 m 14 ls []) := by
    intro nf
    induction nf with
    | zero => intros; omega
    | succ nf ih14 =>
      intro i H locs ls hnf hi hw hS hl
      refine xiload hx hb dX2_pensWith_14 hl rfl ?_
      refine xiload hx hb dX2_pensWith_16 hl rfl ?_
      first | refine xcmp_ge (tgt := 55) hx hb dX2_pensWith_18 (by decide) (by omega) (by omega) (fun c18 => ?_) (fun c18 => ?_) | refine lv_icmp_ge (tgt := 55) hx hb dX2_pensWith_18 (by decide) (fun c18 => ?_) (fun c18 => ?_)
      · skip
        refine xiload_n hx hb dX2_pensWith_55 hl rfl ?_
        exact xiret hx hb hr hlk hw hS dX2_pensWith_56 ⟨by rw [show i = 5 by omega], rfl⟩
      · skip
        refine xaload_n hx hb dX2_pensWith_21 hl rfl ?_
        refine xiload hx hb dX2_pensWith_22 hl rfl ?_
        refine xnald hx hb hG hw (by repeat first | assumption | exact wu_eq _ _ _ | refine wu_ne (by omega) ?_) (by omega) (by omega) dX2_pensWith_24 ?_
        refine xrf (hg i (by omega)) ?_
        refine xastore hx hb dX2_pensWith_25 hl (by decide) rfl (fun ls hl => ?_)
        refine xiload_n hx hb dX2_pensWith_27 hl rfl ?_
        refine xaload hx hb dX2_pensWith_28 hl rfl ?_
        refine lv_ifnull hx hb dX2_pensWith_30 ?_
        refine xaload hx hb dX2_pensWith_33 hl rfl ?_
        have hpi := (hpn i (by omega)).cell
        have hs1 := hsm i (by omega)
        refine xVi ⟨hx, hb, hml, hown, hts⟩ (kX6_holder l N0 G _ _ _ (hpn i (by omega))) (cwV 0 hts gX2_pensWith_X6_holder rfl rfl rfl (by decide +kernel) ⟨Nat.le_of_ble_eq_true rfl, Nat.le_of_ble_eq_true rfl⟩) hG hN hw hS (ci := 6) (by repeat first | assumption | exact wu_eq _ _ _ | refine wu_ne (by omega) ?_) rfl rfl hl.1 rfl (Nat.le_of_ble_eq_true rfl) dX2_pensWith_35 ⟨Nat.le_of_ble_eq_true rfl, Nat.le_of_ble_eq_true rfl⟩ (fun r35 w35 H locs hp35 hw hS => ?_)
        obtain ⟨rfl, rfl⟩ := hp35
        refine xiload_n hx hb dX2_pensWith_38 hl rfl ?_
        first | refine xcmp_ne (tgt := 46) hx hb dX2_pensWith_39 (by decide) (by omega) (by omega) (fun c39 => ?_) (fun c39 => ?_) | refine lv_icmp_ne (tgt := 46) hx hb dX2_pensWith_39 (by decide) (fun c39 => ?_) (fun c39 => ?_)
        · skip
          refine lv_iconst (v := nI 0) hx hb dX2_pensWith_46 (by decide) ?_
          first | refine xadd hx hb dX2_pensWith_47 ?_ | refine lv_iadd hx hb dX2_pensWith_47 ?_
          refine xistore_n hx hb dX2_pensWith_48 hl (by decide) rfl (fun ls hl => ?_)
          first | refine xiincN hx hb 1 dX2_pensWith_49 hl rfl (by decide) (by decide) rfl (fun ls hl => ?_) | refine xiinc hx hb dX2_pensWith_49 hl rfl rfl (by decide) rfl (fun ls hl => ?_)
          refine lv_goto (tgt := 14) hx hb dX2_pensWith_52 (by decide) ?_
          have e := sumTo_s (fun i => if (pn i).getD 0 0 = q then 1 else 0) i
          first | rw [if_pos c39] at e | rw [if_neg c39] at e
          exact ih14 (i + 1) _ _ _ (by omega) (by omega) hw hS (by rw [e]; exact hl.drop 6)
        · skip
          refine lv_iconst (v := nI 1) hx hb dX2_pensWith_42 (by decide) ?_
          refine lv_goto (tgt := 47) hx hb dX2_pensWith_43 (by decide) ?_
          first | refine xadd hx hb dX2_pensWith_47 ?_ | refine lv_iadd hx hb dX2_pensWith_47 ?_
          refine xistore_n hx hb dX2_pensWith_48 hl (by decide) rfl (fun ls hl => ?_)
          first | refine xiincN hx hb 1 dX2_pensWith_49 hl rfl (by decide) (by decide) rfl (fun ls hl => ?_) | refine xiinc hx hb dX2_pensWith_49 hl rfl rfl (by decide) rfl (fun ls hl => ?_)
          refine lv_goto (tgt := 14) hx hb dX2_pensWith_52 (by decide) ?_
          have e := sumTo_s (fun i => if (pn i).getD 0 0 = q then 1 else 0) i
          first | rw [if_pos c39] at e | rw [if_neg c39] at e
          exact ih14 (i + 1) _ _ _ (by omega) (by omega) hw hS (by rw [e]; exact hl.drop 6)
  exact loop14 6 0 _ _ _ (by omega) (by omega) hw hS hl
set_option maxHeartbeats 4000000 in
set_option maxRecDepth 100000 in
theorem kX2_deeds (l : Launch) (N0 : Nat) (G : XG) (w : Wd) (b0 : Nat) (pn : Nat → List Nat) (ds : List (Nat × Nat)) (hd : List (Nat × Bool)) (hB : RBooks G w b0 pn ds hd) : XM l yX2_deeds wsX2_deeds (rmD 1) N0 G [.ref b0] w vI (fun r w1 => nI ds.length = r ∧ w = w1) 0 0 := by
  refine XM.of (cc := cX2_deeds) (maxL := 1) (ret := (some .int)) (by decide) rfl (Nat.le_of_ble_eq_true rfl) ?_
  intro p e s m below meth c hx hb hr hlk hin0 hml hown hts hN hw hG hS ls hl
  have hown : s.vm.findClass RX2 = some m.cls := hown
  have hiX2 : ∀ x ∈ u_ws RX2 TX2 7, x ∈ wsX2_deeds := by decide +kernel
  have hlnk0 := hts (.fieldLink RX2 33 "LentQuill$Books" "deeds" "I") (by decide +kernel)
  have hl : lh ls 1 [some (.ref b0)] := hl
  obtain ⟨g, fd, fb, hb0, hb1, hb2, hb3, hd6, hh6, hg, hdf, hdw, hhw, hpn⟩ := id hB
  refine xaload_n hx hb dX2_deeds_0 hl rfl ?_
  refine xget (C := RX2) (T := TX2) (N := 7) hx hb (ci := 2) hts hiX2 hown hG hw (by repeat first | assumption | exact wu_eq _ _ _ | refine wu_ne (by omega) ?_) rfl 3 (by decide) hlnk0 (fun _ h9 => h9) rfl dX2_deeds_1 ?_
  exact xiret hx hb hr hlk hw hS dX2_deeds_4 ⟨rfl, rfl⟩
set_option maxHeartbeats 4000000 in
set_option maxRecDepth 100000 in
theorem kX2_heard (l : Launch) (N0 : Nat) (G : XG) (w : Wd) (b0 : Nat) (pn : Nat → List Nat) (ds : List (Nat × Nat)) (hd : List (Nat × Bool)) (hB : RBooks G w b0 pn ds hd) : XM l yX2_heard wsX2_heard (rmD 1) N0 G [.ref b0] w vI (fun r w1 => nI hd.length = r ∧ w = w1) 0 0 := by
  refine XM.of (cc := cX2_heard) (maxL := 1) (ret := (some .int)) (by decide) rfl (Nat.le_of_ble_eq_true rfl) ?_
  intro p e s m below meth c hx hb hr hlk hin0 hml hown hts hN hw hG hS ls hl
  have hown : s.vm.findClass RX2 = some m.cls := hown
  have hiX2 : ∀ x ∈ u_ws RX2 TX2 7, x ∈ wsX2_heard := by decide +kernel
  have hlnk0 := hts (.fieldLink RX2 50 "LentQuill$Books" "heard" "I") (by decide +kernel)
  have hl : lh ls 1 [some (.ref b0)] := hl
  obtain ⟨g, fd, fb, hb0, hb1, hb2, hb3, hd6, hh6, hg, hdf, hdw, hhw, hpn⟩ := id hB
  refine xaload_n hx hb dX2_heard_0 hl rfl ?_
  refine xget (C := RX2) (T := TX2) (N := 7) hx hb (ci := 2) hts hiX2 hown hG hw (by repeat first | assumption | exact wu_eq _ _ _ | refine wu_ne (by omega) ?_) rfl 4 (by decide) hlnk0 (fun _ h9 => h9) rfl dX2_heard_1 ?_
  exact xiret hx hb hr hlk hw hS dX2_heard_4 ⟨rfl, rfl⟩
set_option maxHeartbeats 4000000 in
set_option maxRecDepth 100000 in
theorem kX2_isDeed (l : Launch) (N0 : Nat) (G : XG) (w : Wd) (b0 : Nat) (pn : Nat → List Nat) (ds : List (Nat × Nat)) (hd : List (Nat × Bool)) (hB : RBooks G w b0 pn ds hd) (i : Nat) (hi : i < ds.length) : XM l yX2_isDeed wsX2_isDeed (rmD 1) N0 G [.ref b0, .int (nI i)] w vI (fun r w1 => bI true = r ∧ w = w1) 0 0 := by
  refine XM.of (cc := cX2_isDeed) (maxL := 2) (ret := (some .boolean)) (by decide) rfl (Nat.le_of_ble_eq_true rfl) ?_
  intro p e s m below meth c hx hb hr hlk hin0 hml hown hts hN hw hG hS ls hl
  have hown : s.vm.findClass RX2 = some m.cls := hown
  have hiX2 : ∀ x ∈ u_ws RX2 TX2 7, x ∈ wsX2_isDeed := by decide +kernel
  have hlnk0 := hts (.fieldLink RX2 33 "LentQuill$Books" "deeds" "I") (by decide +kernel)
  have hlnk1 := hts (.fieldLink RX2 17 "LentQuill$Books" "debts" "[I") (by decide +kernel)
  have hlnk2 := hts (.fieldLink RX2 21 "LentQuill$Books" "bound" "[I") (by decide +kernel)
  have hl : lh ls 2 [some (.ref b0), some (.int (nI i))] := hl
  obtain ⟨g, fd, fb, hb0, hb1, hb2, hb3, hd6, hh6, hg, hdf, hdw, hhw, hpn⟩ := id hB
  refine xiload_n hx hb dX2_isDeed_0 hl rfl ?_
  refine xif_lt (tgt := 34) hx hb dX2_isDeed_1 (by decide) (by omega) ?_
  refine xiload_n hx hb dX2_isDeed_4 hl rfl ?_
  refine xaload_n hx hb dX2_isDeed_5 hl rfl ?_
  refine xget (C := RX2) (T := TX2) (N := 7) hx hb (ci := 2) hts hiX2 hown hG hw (by repeat first | assumption | exact wu_eq _ _ _ | refine wu_ne (by omega) ?_) rfl 3 (by decide) hlnk0 (fun _ h9 => h9) rfl dX2_isDeed_6 ?_
  first | refine xcmp_ge (tgt := 34) hx hb dX2_isDeed_9 (by decide) (by omega) (by omega) (fun c9 => ?_) (fun c9 => ?_) | refine lv_icmp_ge (tgt := 34) hx hb dX2_isDeed_9 (by decide) (fun c9 => ?_) (fun c9 => ?_)
  · skip
    exfalso
    omega
  · skip
    refine xiload_n hx hb dX2_isDeed_12 hl rfl ?_
    refine xaload_n hx hb dX2_isDeed_13 hl rfl ?_
    refine xget (C := RX2) (T := TX2) (N := 7) hx hb (ci := 2) hts hiX2 hown hG hw (by repeat first | assumption | exact wu_eq _ _ _ | refine wu_ne (by omega) ?_) rfl 1 (by decide) hlnk1 (fun _ h9 => h9) rfl dX2_isDeed_14 ?_
    first | refine xalenI hx hb hG hw (by repeat first | assumption | exact wu_eq _ _ _ | refine wu_ne (by omega) ?_) dX2_isDeed_17 ?_ | refine xalenP hx hb hG hw (by repeat first | assumption | exact wu_eq _ _ _ | refine wu_ne (by omega) ?_) dX2_isDeed_17 ?_ | refine xalenN hx hb hG hw (by repeat first | assumption | exact wu_eq _ _ _ | refine wu_ne (by omega) ?_) dX2_isDeed_17 ?_
    first | refine xcmp_ge (tgt := 34) hx hb dX2_isDeed_18 (by decide) (by omega) (by omega) (fun c18 => ?_) (fun c18 => ?_) | refine lv_icmp_ge (tgt := 34) hx hb dX2_isDeed_18 (by decide) (fun c18 => ?_) (fun c18 => ?_)
    · skip
      exfalso
      omega
    · skip
      refine xiload_n hx hb dX2_isDeed_21 hl rfl ?_
      refine xaload_n hx hb dX2_isDeed_22 hl rfl ?_
      refine xget (C := RX2) (T := TX2) (N := 7) hx hb (ci := 2) hts hiX2 hown hG hw (by repeat first | assumption | exact wu_eq _ _ _ | refine wu_ne (by omega) ?_) rfl 2 (by decide) hlnk2 (fun _ h9 => h9) rfl dX2_isDeed_23 ?_
      first | refine xalenI hx hb hG hw (by repeat first | assumption | exact wu_eq _ _ _ | refine wu_ne (by omega) ?_) dX2_isDeed_26 ?_ | refine xalenP hx hb hG hw (by repeat first | assumption | exact wu_eq _ _ _ | refine wu_ne (by omega) ?_) dX2_isDeed_26 ?_ | refine xalenN hx hb hG hw (by repeat first | assumption | exact wu_eq _ _ _ | refine wu_ne (by omega) ?_) dX2_isDeed_26 ?_
      first | refine xcmp_ge (tgt := 34) hx hb dX2_isDeed_27 (by decide) (by omega) (by omega) (fun c27 => ?_) (fun c27 => ?_) | refine lv_icmp_ge (tgt := 34) hx hb dX2_isDeed_27 (by decide) (fun c27 => ?_) (fun c27 => ?_)
      · skip
        exfalso
        omega
      · skip
        refine lv_iconst (v := nI 1) hx hb dX2_isDeed_30 (by decide) ?_
        refine lv_goto (tgt := 35) hx hb dX2_isDeed_31 (by decide) ?_
        first | exact xzret hx hb hr hlk hw hS dX2_isDeed_35 true rfl ⟨rfl, rfl⟩ | exact xzret hx hb hr hlk hw hS dX2_isDeed_35 false rfl ⟨rfl, rfl⟩
set_option maxHeartbeats 4000000 in
set_option maxRecDepth 100000 in
theorem kX2_isDeed_out (l : Launch) (N0 : Nat) (G : XG) (w : Wd) (b0 : Nat) (pn : Nat → List Nat) (ds : List (Nat × Nat)) (hd : List (Nat × Bool)) (hB : RBooks G w b0 pn ds hd) (x : Int32) (hx0 : ¬ inR x ds.length) : XM l yX2_isDeed wsX2_isDeed (rmD 1) N0 G [.ref b0, .int x] w vI (fun r w1 => bI false = r ∧ w = w1) 0 0 := by
  refine XM.of (cc := cX2_isDeed) (maxL := 2) (ret := (some .boolean)) (by decide) rfl (Nat.le_of_ble_eq_true rfl) ?_
  intro p e s m below meth c hx hb hr hlk hin0 hml hown hts hN hw hG hS ls hl
  have hown : s.vm.findClass RX2 = some m.cls := hown
  have hiX2 : ∀ x ∈ u_ws RX2 TX2 7, x ∈ wsX2_isDeed := by decide +kernel
  have hlnk0 := hts (.fieldLink RX2 33 "LentQuill$Books" "deeds" "I") (by decide +kernel)
  have hl : lh ls 2 [some (.ref b0), some (.int x)] := hl
  obtain ⟨g, fd, fb, hb0, hb1, hb2, hb3, hd6, hh6, hg, hdf, hdw, hhw, hpn⟩ := id hB
  refine xiload_n hx hb dX2_isDeed_0 hl rfl ?_
  refine lv_if_lt (tgt := 34) hx hb dX2_isDeed_1 (by decide) (fun c1 => ?_) (fun c1 => ?_)
  · skip
    refine lv_iconst (v := nI 0) hx hb dX2_isDeed_34 (by decide) ?_
    first | exact xzret hx hb hr hlk hw hS dX2_isDeed_35 true rfl ⟨rfl, rfl⟩ | exact xzret hx hb hr hlk hw hS dX2_isDeed_35 false rfl ⟨rfl, rfl⟩
  · skip
    refine xiload_n hx hb dX2_isDeed_4 hl rfl ?_
    refine xaload_n hx hb dX2_isDeed_5 hl rfl ?_
    refine xget (C := RX2) (T := TX2) (N := 7) hx hb (ci := 2) hts hiX2 hown hG hw (by repeat first | assumption | exact wu_eq _ _ _ | refine wu_ne (by omega) ?_) rfl 3 (by decide) hlnk0 (fun _ h9 => h9) rfl dX2_isDeed_6 ?_
    refine lv_icmp_ge (tgt := 34) hx hb dX2_isDeed_9 (by decide) (fun c9 => ?_) (fun c9 => ?_)
    · skip
      refine lv_iconst (v := nI 0) hx hb dX2_isDeed_34 (by decide) ?_
      first | exact xzret hx hb hr hlk hw hS dX2_isDeed_35 true rfl ⟨rfl, rfl⟩ | exact xzret hx hb hr hlk hw hS dX2_isDeed_35 false rfl ⟨rfl, rfl⟩
    · skip
      exfalso
      exact hx0 (inR_lt c1 c9 (by omega))
set_option maxHeartbeats 4000000 in
set_option maxRecDepth 100000 in
theorem kX2_addDeed (l : Launch) (N0 : Nat) (G : XG) (w : Wd) (b0 : Nat) (pn : Nat → List Nat) (ds : List (Nat × Nat)) (hd : List (Nat × Bool)) (hB : RBooks G w b0 pn ds hd) (d b : Nat) (hd9 : d ≤ 9) (hb32 : b < 32) (hlt : ds.length < 6) : XM l yX2_addDeed wsX2_addDeed (rmD 1) N0 G [.ref b0, .int (nI d), .int (nI b)] w vI (fun r w1 => bI true = r ∧ RBooks G w1 b0 pn (ds ++ [(d, b)]) hd ∧ Out w w1 b0 (b0 + 14)) 0 0 := by
  refine XM.of (cc := cX2_addDeed) (maxL := 3) (ret := (some .boolean)) (by decide) rfl (Nat.le_of_ble_eq_true rfl) ?_
  intro p e s m below meth c hx hb hr hlk hin0 hml hown hts hN hw hG hS ls hl
  have hown : s.vm.findClass RX2 = some m.cls := hown
  have hiX2 : ∀ x ∈ u_ws RX2 TX2 7, x ∈ wsX2_addDeed := by decide +kernel
  have hlnk0 := hts (.fieldLink RX2 33 "LentQuill$Books" "deeds" "I") (by decide +kernel)
  have hlnk1 := hts (.fieldLink RX2 17 "LentQuill$Books" "debts" "[I") (by decide +kernel)
  have hlnk2 := hts (.fieldLink RX2 21 "LentQuill$Books" "bound" "[I") (by decide +kernel)
  have hl : lh ls 3 [some (.ref b0), some (.int (nI d)), some (.int (nI b))] := hl
  obtain ⟨g, fd, fb, hb0, hb1, hb2, hb3, hd6, hh6, hg, hdf, hdw, hhw, hpn⟩ := id hB
  refine xaload_n hx hb dX2_addDeed_0 hl rfl ?_
  refine xget (C := RX2) (T := TX2) (N := 7) hx hb (ci := 2) hts hiX2 hown hG hw (by repeat first | assumption | exact wu_eq _ _ _ | refine wu_ne (by omega) ?_) rfl 3 (by decide) hlnk0 (fun _ h9 => h9) rfl dX2_addDeed_1 ?_
  refine xaload_n hx hb dX2_addDeed_4 hl rfl ?_
  refine xget (C := RX2) (T := TX2) (N := 7) hx hb (ci := 2) hts hiX2 hown hG hw (by repeat first | assumption | exact wu_eq _ _ _ | refine wu_ne (by omega) ?_) rfl 1 (by decide) hlnk1 (fun _ h9 => h9) rfl dX2_addDeed_5 ?_
  first | refine xalenI hx hb hG hw (by repeat first | assumption | exact wu_eq _ _ _ | refine wu_ne (by omega) ?_) dX2_addDeed_8 ?_ | refine xalenP hx hb hG hw (by repeat first | assumption | exact wu_eq _ _ _ | refine wu_ne (by omega) ?_) dX2_addDeed_8 ?_ | refine xalenN hx hb hG hw (by repeat first | assumption | exact wu_eq _ _ _ | refine wu_ne (by omega) ?_) dX2_addDeed_8 ?_
  first | refine xcmp_ge (tgt := 24) hx hb dX2_addDeed_9 (by decide) (by omega) (by omega) (fun c9 => ?_) (fun c9 => ?_) | refine lv_icmp_ge (tgt := 24) hx hb dX2_addDeed_9 (by decide) (fun c9 => ?_) (fun c9 => ?_)
  · skip
    exfalso
    omega
  · skip
    refine xaload_n hx hb dX2_addDeed_12 hl rfl ?_
    refine xget (C := RX2) (T := TX2) (N := 7) hx hb (ci := 2) hts hiX2 hown hG hw (by repeat first | assumption | exact wu_eq _ _ _ | refine wu_ne (by omega) ?_) rfl 3 (by decide) hlnk0 (fun _ h9 => h9) rfl dX2_addDeed_13 ?_
    refine xaload_n hx hb dX2_addDeed_16 hl rfl ?_
    refine xget (C := RX2) (T := TX2) (N := 7) hx hb (ci := 2) hts hiX2 hown hG hw (by repeat first | assumption | exact wu_eq _ _ _ | refine wu_ne (by omega) ?_) rfl 2 (by decide) hlnk2 (fun _ h9 => h9) rfl dX2_addDeed_17 ?_
    first | refine xalenI hx hb hG hw (by repeat first | assumption | exact wu_eq _ _ _ | refine wu_ne (by omega) ?_) dX2_addDeed_20 ?_ | refine xalenP hx hb hG hw (by repeat first | assumption | exact wu_eq _ _ _ | refine wu_ne (by omega) ?_) dX2_addDeed_20 ?_ | refine xalenN hx hb hG hw (by repeat first | assumption | exact wu_eq _ _ _ | refine wu_ne (by omega) ?_) dX2_addDeed_20 ?_
    first | refine xcmp_lt (tgt := 26) hx hb dX2_addDeed_21 (by decide) (by omega) (by omega) (fun c21 => ?_) (fun c21 => ?_) | refine lv_icmp_lt (tgt := 26) hx hb dX2_addDeed_21 (by decide) (fun c21 => ?_) (fun c21 => ?_)
    · skip
      refine xaload_n hx hb dX2_addDeed_26 hl rfl ?_
      refine xget (C := RX2) (T := TX2) (N := 7) hx hb (ci := 2) hts hiX2 hown hG hw (by repeat first | assumption | exact wu_eq _ _ _ | refine wu_ne (by omega) ?_) rfl 1 (by decide) hlnk1 (fun _ h9 => h9) rfl dX2_addDeed_27 ?_
      refine xaload_n hx hb dX2_addDeed_30 hl rfl ?_
      refine xget (C := RX2) (T := TX2) (N := 7) hx hb (ci := 2) hts hiX2 hown hG hw (by repeat first | assumption | exact wu_eq _ _ _ | refine wu_ne (by omega) ?_) rfl 3 (by decide) hlnk0 (fun _ h9 => h9) rfl dX2_addDeed_31 ?_
      refine xiload_n hx hb dX2_addDeed_34 hl rfl ?_
      refine xiast hx hb hG hw hS (by repeat first | assumption | exact wu_eq _ _ _ | refine wu_ne (by omega) ?_) (by omega) (by omega) dX2_addDeed_35 (fun H locs hzz hw hS => ?_)
      refine xaload_n hx hb dX2_addDeed_36 hl rfl ?_
      refine xget (C := RX2) (T := TX2) (N := 7) hx hb (ci := 2) hts hiX2 hown hG hw (by repeat first | assumption | exact wu_eq _ _ _ | refine wu_ne (by omega) ?_) rfl 2 (by decide) hlnk2 (fun _ h9 => h9) rfl dX2_addDeed_37 ?_
      refine xaload_n hx hb dX2_addDeed_40 hl rfl ?_
      refine xget (C := RX2) (T := TX2) (N := 7) hx hb (ci := 2) hts hiX2 hown hG hw (by repeat first | assumption | exact wu_eq _ _ _ | refine wu_ne (by omega) ?_) rfl 3 (by decide) hlnk0 (fun _ h9 => h9) rfl dX2_addDeed_41 ?_
      refine xiload_n hx hb dX2_addDeed_44 hl rfl ?_
      refine xiast hx hb hG hw hS (by repeat first | assumption | exact wu_eq _ _ _ | refine wu_ne (by omega) ?_) (by omega) (by omega) dX2_addDeed_45 (fun H locs hzz hw hS => ?_)
      refine xaload_n hx hb dX2_addDeed_46 hl rfl ?_
      refine lv_dup hx hb dX2_addDeed_47 rfl ?_
      refine xget (C := RX2) (T := TX2) (N := 7) hx hb (ci := 2) hts hiX2 hown hG hw (by repeat first | assumption | exact wu_eq _ _ _ | refine wu_ne (by omega) ?_) rfl 3 (by decide) hlnk0 (fun _ h9 => h9) rfl dX2_addDeed_48 ?_
      refine lv_iconst (v := nI 1) hx hb dX2_addDeed_51 (by decide) ?_
      first | refine xadd hx hb dX2_addDeed_52 ?_ | refine lv_iadd hx hb dX2_addDeed_52 ?_
      refine xput (C := RX2) (T := TX2) (N := 7) hx hb (ci := 2) (ty := .int) hts hiX2 tyX2 tyX2_ok nmX2 hown hG hw hS (by repeat first | assumption | exact wu_eq _ _ _ | refine wu_ne (by omega) ?_) rfl 3 (by decide) hlnk0 (fun _ h9 => h9) rfl (by decide +kernel) rfl rfl (Nat.le_of_ble_eq_true rfl) dX2_addDeed_53 (fun H locs hzz hw hS => ?_)
      refine lv_iconst (v := nI 1) hx hb dX2_addDeed_56 (by decide) ?_
      first | exact xzret hx hb hr hlk hw hS dX2_addDeed_57 true rfl ⟨rfl, addDeed_rep hB hb0 hb2 hb3 hdf hd9 hb32 hlt, ((Out.rf.wu (by omega) (by omega)).wu (by omega) (by omega)).wu (by omega) (by omega)⟩ | exact xzret hx hb hr hlk hw hS dX2_addDeed_57 false rfl ⟨rfl, hB, Out.rf⟩
    · skip
      exfalso
      omega
set_option maxHeartbeats 4000000 in
set_option maxRecDepth 100000 in
theorem kX2_addDeed_full (l : Launch) (N0 : Nat) (G : XG) (w : Wd) (b0 : Nat) (pn : Nat → List Nat) (ds : List (Nat × Nat)) (hd : List (Nat × Bool)) (hB : RBooks G w b0 pn ds hd) (d b : Nat) (hlt : 6 ≤ ds.length) : XM l yX2_addDeed wsX2_addDeed (rmD 1) N0 G [.ref b0, .int (nI d), .int (nI b)] w vI (fun r w1 => bI false = r ∧ w = w1) 0 0 := by
  refine XM.of (cc := cX2_addDeed) (maxL := 3) (ret := (some .boolean)) (by decide) rfl (Nat.le_of_ble_eq_true rfl) ?_
  intro p e s m below meth c hx hb hr hlk hin0 hml hown hts hN hw hG hS ls hl
  have hown : s.vm.findClass RX2 = some m.cls := hown
  have hiX2 : ∀ x ∈ u_ws RX2 TX2 7, x ∈ wsX2_addDeed := by decide +kernel
  have hlnk0 := hts (.fieldLink RX2 33 "LentQuill$Books" "deeds" "I") (by decide +kernel)
  have hlnk1 := hts (.fieldLink RX2 17 "LentQuill$Books" "debts" "[I") (by decide +kernel)
  have hl : lh ls 3 [some (.ref b0), some (.int (nI d)), some (.int (nI b))] := hl
  obtain ⟨g, fd, fb, hb0, hb1, hb2, hb3, hd6, hh6, hg, hdf, hdw, hhw, hpn⟩ := id hB
  refine xaload_n hx hb dX2_addDeed_0 hl rfl ?_
  refine xget (C := RX2) (T := TX2) (N := 7) hx hb (ci := 2) hts hiX2 hown hG hw (by repeat first | assumption | exact wu_eq _ _ _ | refine wu_ne (by omega) ?_) rfl 3 (by decide) hlnk0 (fun _ h9 => h9) rfl dX2_addDeed_1 ?_
  refine xaload_n hx hb dX2_addDeed_4 hl rfl ?_
  refine xget (C := RX2) (T := TX2) (N := 7) hx hb (ci := 2) hts hiX2 hown hG hw (by repeat first | assumption | exact wu_eq _ _ _ | refine wu_ne (by omega) ?_) rfl 1 (by decide) hlnk1 (fun _ h9 => h9) rfl dX2_addDeed_5 ?_
  first | refine xalenI hx hb hG hw (by repeat first | assumption | exact wu_eq _ _ _ | refine wu_ne (by omega) ?_) dX2_addDeed_8 ?_ | refine xalenP hx hb hG hw (by repeat first | assumption | exact wu_eq _ _ _ | refine wu_ne (by omega) ?_) dX2_addDeed_8 ?_ | refine xalenN hx hb hG hw (by repeat first | assumption | exact wu_eq _ _ _ | refine wu_ne (by omega) ?_) dX2_addDeed_8 ?_
  first | refine xcmp_ge (tgt := 24) hx hb dX2_addDeed_9 (by decide) (by omega) (by omega) (fun c9 => ?_) (fun c9 => ?_) | refine lv_icmp_ge (tgt := 24) hx hb dX2_addDeed_9 (by decide) (fun c9 => ?_) (fun c9 => ?_)
  · skip
    refine lv_iconst (v := nI 0) hx hb dX2_addDeed_24 (by decide) ?_
    first | exact xzret hx hb hr hlk hw hS dX2_addDeed_25 true rfl ⟨rfl, rfl⟩ | exact xzret hx hb hr hlk hw hS dX2_addDeed_25 false rfl ⟨rfl, rfl⟩
  · skip
    exfalso
    omega
set_option maxHeartbeats 4000000 in
set_option maxRecDepth 100000 in
theorem kX2_debtOf (l : Launch) (N0 : Nat) (G : XG) (w : Wd) (b0 : Nat) (pn : Nat → List Nat) (ds : List (Nat × Nat)) (hd : List (Nat × Bool)) (hB : RBooks G w b0 pn ds hd) (i : Nat) (hi : i < ds.length) : XM l yX2_debtOf wsX2_debtOf (rmD 2) N0 G [.ref b0, .int (nI i)] w vI (fun r w1 => nI (dbt ds i) = r ∧ w = w1) 0 0 := by
  refine XM.of (cc := cX2_debtOf) (maxL := 2) (ret := (some .int)) (by decide) rfl (Nat.le_of_ble_eq_true rfl) ?_
  intro p e s m below meth c hx hb hr hlk hin0 hml hown hts hN hw hG hS ls hl
  have hown : s.vm.findClass RX2 = some m.cls := hown
  have hiX2 : ∀ x ∈ u_ws RX2 TX2 7, x ∈ wsX2_debtOf := by decide +kernel
  have hlnk0 := hts (.fieldLink RX2 17 "LentQuill$Books" "debts" "[I") (by decide +kernel)
  have hl : lh ls 2 [some (.ref b0), some (.int (nI i))] := hl
  obtain ⟨g, fd, fb, hb0, hb1, hb2, hb3, hd6, hh6, hg, hdf, hdw, hhw, hpn⟩ := id hB
  refine xaload_n hx hb dX2_debtOf_0 hl rfl ?_
  refine xiload_n hx hb dX2_debtOf_1 hl rfl ?_
  refine xVi ⟨hx, hb, hml, hown, hts⟩ (kX2_isDeed l N0 G _ _ pn ds hd hB i hi) (cwV 1 hts gX2_debtOf_X2_isDeed rfl rfl rfl (by decide +kernel) ⟨Nat.le_of_ble_eq_true rfl, Nat.le_of_ble_eq_true rfl⟩) hG hN hw hS (ci := 2) (by repeat first | assumption | exact wu_eq _ _ _ | refine wu_ne (by omega) ?_) rfl rfl hl.1 rfl (Nat.le_of_ble_eq_true rfl) dX2_debtOf_2 ⟨Nat.le_of_ble_eq_true rfl, Nat.le_of_ble_eq_true rfl⟩ (fun r2 w2 H locs hp2 hw hS => ?_)
  obtain ⟨rfl, rfl⟩ := hp2
  first | refine xifb_eq (tgt := 17) hx hb dX2_debtOf_5 (by decide) (fun c5 => ?_) (fun c5 => ?_) | refine xif_eq (tgt := 17) hx hb dX2_debtOf_5 (by decide) (by omega) (fun c5 => ?_) (fun c5 => ?_) | refine lv_if_eq (tgt := 17) hx hb dX2_debtOf_5 (by decide) (fun c5 => ?_) (fun c5 => ?_)
  · skip
    exfalso
    cases c5
  · skip
    refine xaload_n hx hb dX2_debtOf_8 hl rfl ?_
    refine xget (C := RX2) (T := TX2) (N := 7) hx hb (ci := 2) hts hiX2 hown hG hw (by repeat first | assumption | exact wu_eq _ _ _ | refine wu_ne (by omega) ?_) rfl 1 (by decide) hlnk0 (fun _ h9 => h9) rfl dX2_debtOf_9 ?_
    refine xiload_n hx hb dX2_debtOf_12 hl rfl ?_
    refine xiald hx hb hG hw (by repeat first | assumption | exact wu_eq _ _ _ | refine wu_ne (by omega) ?_) (by omega) (by omega) dX2_debtOf_13 ?_
    refine lv_goto (tgt := 18) hx hb dX2_debtOf_14 (by decide) ?_
    exact xiret hx hb hr hlk hw hS dX2_debtOf_18 ⟨(hdf i hi).1.symm, rfl⟩
set_option maxHeartbeats 4000000 in
set_option maxRecDepth 100000 in
theorem kX2_boundByDeed (l : Launch) (N0 : Nat) (G : XG) (w : Wd) (b0 : Nat) (pn : Nat → List Nat) (ds : List (Nat × Nat)) (hd : List (Nat × Bool)) (hB : RBooks G w b0 pn ds hd) (i : Nat) (hi : i < ds.length) : XM l yX2_boundByDeed wsX2_boundByDeed (rmD 2) N0 G [.ref b0, .int (nI i)] w vI (fun r w1 => nI (bd ds i) = r ∧ w = w1) 0 0 := by
  refine XM.of (cc := cX2_boundByDeed) (maxL := 2) (ret := (some .int)) (by decide) rfl (Nat.le_of_ble_eq_true rfl) ?_
  intro p e s m below meth c hx hb hr hlk hin0 hml hown hts hN hw hG hS ls hl
  have hown : s.vm.findClass RX2 = some m.cls := hown
  have hiX2 : ∀ x ∈ u_ws RX2 TX2 7, x ∈ wsX2_boundByDeed := by decide +kernel
  have hlnk0 := hts (.fieldLink RX2 21 "LentQuill$Books" "bound" "[I") (by decide +kernel)
  have hl : lh ls 2 [some (.ref b0), some (.int (nI i))] := hl
  obtain ⟨g, fd, fb, hb0, hb1, hb2, hb3, hd6, hh6, hg, hdf, hdw, hhw, hpn⟩ := id hB
  refine xaload_n hx hb dX2_boundByDeed_0 hl rfl ?_
  refine xiload_n hx hb dX2_boundByDeed_1 hl rfl ?_
  refine xVi ⟨hx, hb, hml, hown, hts⟩ (kX2_isDeed l N0 G _ _ pn ds hd hB i hi) (cwV 1 hts gX2_boundByDeed_X2_isDeed rfl rfl rfl (by decide +kernel) ⟨Nat.le_of_ble_eq_true rfl, Nat.le_of_ble_eq_true rfl⟩) hG hN hw hS (ci := 2) (by repeat first | assumption | exact wu_eq _ _ _ | refine wu_ne (by omega) ?_) rfl rfl hl.1 rfl (Nat.le_of_ble_eq_true rfl) dX2_boundByDeed_2 ⟨Nat.le_of_ble_eq_true rfl, Nat.le_of_ble_eq_true rfl⟩ (fun r2 w2 H locs hp2 hw hS => ?_)
  obtain ⟨rfl, rfl⟩ := hp2
  first | refine xifb_eq (tgt := 17) hx hb dX2_boundByDeed_5 (by decide) (fun c5 => ?_) (fun c5 => ?_) | refine xif_eq (tgt := 17) hx hb dX2_boundByDeed_5 (by decide) (by omega) (fun c5 => ?_) (fun c5 => ?_) | refine lv_if_eq (tgt := 17) hx hb dX2_boundByDeed_5 (by decide) (fun c5 => ?_) (fun c5 => ?_)
  · skip
    exfalso
    cases c5
  · skip
    refine xaload_n hx hb dX2_boundByDeed_8 hl rfl ?_
    refine xget (C := RX2) (T := TX2) (N := 7) hx hb (ci := 2) hts hiX2 hown hG hw (by repeat first | assumption | exact wu_eq _ _ _ | refine wu_ne (by omega) ?_) rfl 2 (by decide) hlnk0 (fun _ h9 => h9) rfl dX2_boundByDeed_9 ?_
    refine xiload_n hx hb dX2_boundByDeed_12 hl rfl ?_
    refine xiald hx hb hG hw (by repeat first | assumption | exact wu_eq _ _ _ | refine wu_ne (by omega) ?_) (by omega) (by omega) dX2_boundByDeed_13 ?_
    refine lv_goto (tgt := 18) hx hb dX2_boundByDeed_14 (by decide) ?_
    exact xiret hx hb hr hlk hw hS dX2_boundByDeed_18 ⟨(hdf i hi).2.symm, rfl⟩
set_option maxHeartbeats 4000000 in
set_option maxRecDepth 100000 in
theorem kX2_unbind (l : Launch) (N0 : Nat) (G : XG) (w : Wd) (b0 : Nat) (pn : Nat → List Nat) (ds : List (Nat × Nat)) (hd : List (Nat × Bool)) (hB : RBooks G w b0 pn ds hd) (i q : Nat) (hi : i < ds.length) (hq : q < 5) : XM l yX2_unbind wsX2_unbind (rmD 2) N0 G [.ref b0, .int (nI i), .int (nI q)] w vV (fun _ w1 => RBooks G w1 b0 pn (ds.set i (dbt ds i, clr (bd ds i) q)) hd ∧ Out w w1 b0 (b0 + 14)) 0 0 := by
  refine XM.of (cc := cX2_unbind) (maxL := 3) (ret := none) (by decide) rfl (Nat.le_of_ble_eq_true rfl) ?_
  intro p e s m below meth c hx hb hr hlk hin0 hml hown hts hN hw hG hS ls hl
  have hown : s.vm.findClass RX2 = some m.cls := hown
  have hiX2 : ∀ x ∈ u_ws RX2 TX2 7, x ∈ wsX2_unbind := by decide +kernel
  have hlnk0 := hts (.fieldLink RX2 21 "LentQuill$Books" "bound" "[I") (by decide +kernel)
  have hl : lh ls 3 [some (.ref b0), some (.int (nI i)), some (.int (nI q))] := hl
  obtain ⟨g, fd, fb, hb0, hb1, hb2, hb3, hd6, hh6, hg, hdf, hdw, hhw, hpn⟩ := id hB
  refine xaload_n hx hb dX2_unbind_0 hl rfl ?_
  refine xiload_n hx hb dX2_unbind_1 hl rfl ?_
  refine xVi ⟨hx, hb, hml, hown, hts⟩ (kX2_isDeed l N0 G _ _ pn ds hd hB i hi) (cwV 1 hts gX2_unbind_X2_isDeed rfl rfl rfl (by decide +kernel) ⟨Nat.le_of_ble_eq_true rfl, Nat.le_of_ble_eq_true rfl⟩) hG hN hw hS (ci := 2) (by repeat first | assumption | exact wu_eq _ _ _ | refine wu_ne (by omega) ?_) rfl rfl hl.1 rfl (Nat.le_of_ble_eq_true rfl) dX2_unbind_2 ⟨Nat.le_of_ble_eq_true rfl, Nat.le_of_ble_eq_true rfl⟩ (fun r2 w2 H locs hp2 hw hS => ?_)
  obtain ⟨rfl, rfl⟩ := hp2
  first | refine xifb_eq (tgt := 22) hx hb dX2_unbind_5 (by decide) (fun c5 => ?_) (fun c5 => ?_) | refine xif_eq (tgt := 22) hx hb dX2_unbind_5 (by decide) (by omega) (fun c5 => ?_) (fun c5 => ?_) | refine lv_if_eq (tgt := 22) hx hb dX2_unbind_5 (by decide) (fun c5 => ?_) (fun c5 => ?_)
  · skip
    exfalso
    cases c5
  · skip
    refine xaload_n hx hb dX2_unbind_8 hl rfl ?_
    refine xget (C := RX2) (T := TX2) (N := 7) hx hb (ci := 2) hts hiX2 hown hG hw (by repeat first | assumption | exact wu_eq _ _ _ | refine wu_ne (by omega) ?_) rfl 2 (by decide) hlnk0 (fun _ h9 => h9) rfl dX2_unbind_9 ?_
    refine xiload_n hx hb dX2_unbind_12 hl rfl ?_
    refine lv_dup2_11 hx hb dX2_unbind_13 rfl rfl ?_
    refine xiald hx hb hG hw (by repeat first | assumption | exact wu_eq _ _ _ | refine wu_ne (by omega) ?_) (by omega) (by omega) dX2_unbind_14 ?_
    refine lv_iconst (v := nI 1) hx hb dX2_unbind_15 (by decide) ?_
    refine xiload_n hx hb dX2_unbind_16 hl rfl ?_
    first | refine xshl hx hb dX2_unbind_17 (by omega) ?_ | refine lv_ishl hx hb dX2_unbind_17 ?_
    refine lv_iconst (v := -1) hx hb dX2_unbind_18 (by decide) ?_
    refine lv_ixor hx hb dX2_unbind_19 ?_
    first | refine xand hx hb dX2_unbind_20 ?_ | refine lv_iand hx hb dX2_unbind_20 ?_
    refine xtop (clr_i (hdf i hi).2 (hdw i hi).2 hq) ?_
    refine xiast hx hb hG hw hS (by repeat first | assumption | exact wu_eq _ _ _ | refine wu_ne (by omega) ?_) (by omega) (by omega) dX2_unbind_21 (fun H locs hzz hw hS => ?_)
    exact xvret hx hb hr hlk hw hS dX2_unbind_22 ⟨unbind_rep hB hi hq hb3, Out.rf.wu (by omega) (by omega)⟩
set_option maxHeartbeats 4000000 in
set_option maxRecDepth 100000 in
theorem kX2_voidDeeds (l : Launch) (N0 : Nat) (G : XG) (w : Wd) (b0 : Nat) (pn : Nat → List Nat) (ds : List (Nat × Nat)) (hd : List (Nat × Bool)) (hB : RBooks G w b0 pn ds hd) : XM l yX2_voidDeeds wsX2_voidDeeds (rmD 3) N0 G [.ref b0] w vI (fun r w1 => nI (sumTo (fun i => if bd ds i = 0 then 1 else 0) ds.length) = r ∧ w = w1) 0 0 := by
  refine XM.of (cc := cX2_voidDeeds) (maxL := 3) (ret := (some .int)) (by decide) rfl (Nat.le_of_ble_eq_true rfl) ?_
  intro p e s m below meth c hx hb hr hlk hin0 hml hown hts hN hw hG hS ls hl
  have hown : s.vm.findClass RX2 = some m.cls := hown
  have hiX2 : ∀ x ∈ u_ws RX2 TX2 7, x ∈ wsX2_voidDeeds := by decide +kernel
  have hlnk0 := hts (.fieldLink RX2 33 "LentQuill$Books" "deeds" "I") (by decide +kernel)
  have hl : lh ls 3 [some (.ref b0), none, none] := hl
  obtain ⟨g, fd, fb, hb0, hb1, hb2, hb3, hd6, hh6, hg, hdf, hdw, hhw, hpn⟩ := id hB
  refine lv_iconst (v := nI 0) hx hb dX2_voidDeeds_0 (by decide) ?_
  refine xistore_n hx hb dX2_voidDeeds_1 hl (by decide) rfl (fun ls hl => ?_)
  refine lv_iconst (v := nI 0) hx hb dX2_voidDeeds_2 (by decide) ?_
  refine xistore_n hx hb dX2_voidDeeds_3 hl (by decide) rfl (fun ls hl => ?_)
  have loop4 : ∀ (nf : Nat) (i : Nat) (H : Heap) (locs : List Loc) (ls : Array Slot), ds.length - i < nf → (i ≤ ds.length) → PW N0 G w H → va_S (fun q => N0 ≤ q) s.heap H locs → lh ls 3 [some (.ref b0), some (.int (nI (sumTo (fun i => if bd ds i = 0 then 1 else 0) i))), some (.int (nI i))] → W p l e (rmD 3) s m ([.ref b0] : List Value).toArray below meth c H locs 0 0 (MQ below (XQ N0 G vI (fun r w1 => nI (sumTo (fun i => if bd ds i = 0 then 1 else 0) ds.length) = r ∧ w = w1)) ([.ref b0] : List Value).toArray s 0 0 (fun q => N0 ≤ q)) (F0 m 4 ls []) := by
    intro nf
    induction nf with
    | zero => intros; omega
    | succ nf ih4 =>
      intro i H locs ls hnf hi hw hS hl
      refine xiload_n hx hb dX2_voidDeeds_4 hl rfl ?_
      refine xaload_n hx hb dX2_voidDeeds_5 hl rfl ?_
      refine xget (C := RX2) (T := TX2) (N := 7) hx hb (ci := 2) hts hiX2 hown hG hw (by repeat first | assumption | exact wu_eq _ _ _ | refine wu_ne (by omega) ?_) rfl 3 (by decide) hlnk0 (fun _ h9 => h9) rfl dX2_voidDeeds_6 ?_
      first | refine xcmp_ge (tgt := 34) hx hb dX2_voidDeeds_9 (by decide) (by omega) (by omega) (fun c9 => ?_) (fun c9 => ?_) | refine lv_icmp_ge (tgt := 34) hx hb dX2_voidDeeds_9 (by decide) (fun c9 => ?_) (fun c9 => ?_)
      · skip
        refine xiload_n hx hb dX2_voidDeeds_34 hl rfl ?_
        exact xiret hx hb hr hlk hw hS dX2_voidDeeds_35 ⟨by rw [show i = ds.length by omega], rfl⟩
      · skip
        refine xiload_n hx hb dX2_voidDeeds_12 hl rfl ?_
        refine xaload_n hx hb dX2_voidDeeds_13 hl rfl ?_
        refine xiload_n hx hb dX2_voidDeeds_14 hl rfl ?_
        have hw9 := hdw i c9
        refine xVi ⟨hx, hb, hml, hown, hts⟩ (kX2_boundByDeed l N0 G _ _ pn ds hd hB i c9) (cwV 1 hts gX2_voidDeeds_X2_boundByDeed rfl rfl rfl (by decide +kernel) ⟨Nat.le_of_ble_eq_true rfl, Nat.le_of_ble_eq_true rfl⟩) hG hN hw hS (ci := 2) (by repeat first | assumption | exact wu_eq _ _ _ | refine wu_ne (by omega) ?_) rfl rfl hl.1 rfl (Nat.le_of_ble_eq_true rfl) dX2_voidDeeds_15 ⟨Nat.le_of_ble_eq_true rfl, Nat.le_of_ble_eq_true rfl⟩ (fun r15 w15 H locs hp15 hw hS => ?_)
        obtain ⟨rfl, rfl⟩ := hp15
        first | refine xifb_ne (tgt := 25) hx hb dX2_voidDeeds_18 (by decide) (fun c18 => ?_) (fun c18 => ?_) | refine xif_ne (tgt := 25) hx hb dX2_voidDeeds_18 (by decide) (by omega) (fun c18 => ?_) (fun c18 => ?_) | refine lv_if_ne (tgt := 25) hx hb dX2_voidDeeds_18 (by decide) (fun c18 => ?_) (fun c18 => ?_)
        · skip
          refine lv_iconst (v := nI 0) hx hb dX2_voidDeeds_25 (by decide) ?_
          first | refine xadd hx hb dX2_voidDeeds_26 ?_ | refine lv_iadd hx hb dX2_voidDeeds_26 ?_
          refine xistore_n hx hb dX2_voidDeeds_27 hl (by decide) rfl (fun ls hl => ?_)
          first | refine xiincN hx hb 1 dX2_voidDeeds_28 hl rfl (by decide) (by decide) rfl (fun ls hl => ?_) | refine xiinc hx hb dX2_voidDeeds_28 hl rfl rfl (by decide) rfl (fun ls hl => ?_)
          refine lv_goto (tgt := 4) hx hb dX2_voidDeeds_31 (by decide) ?_
          have e := sumTo_s (fun i => if bd ds i = 0 then 1 else 0) i
          first | rw [if_pos c18] at e | rw [if_neg c18] at e
          exact ih4 (i + 1) _ _ _ (by omega) (by omega) hw hS (by rw [e]; exact hl)
        · skip
          refine lv_iconst (v := nI 1) hx hb dX2_voidDeeds_21 (by decide) ?_
          refine lv_goto (tgt := 26) hx hb dX2_voidDeeds_22 (by decide) ?_
          first | refine xadd hx hb dX2_voidDeeds_26 ?_ | refine lv_iadd hx hb dX2_voidDeeds_26 ?_
          refine xistore_n hx hb dX2_voidDeeds_27 hl (by decide) rfl (fun ls hl => ?_)
          first | refine xiincN hx hb 1 dX2_voidDeeds_28 hl rfl (by decide) (by decide) rfl (fun ls hl => ?_) | refine xiinc hx hb dX2_voidDeeds_28 hl rfl rfl (by decide) rfl (fun ls hl => ?_)
          refine lv_goto (tgt := 4) hx hb dX2_voidDeeds_31 (by decide) ?_
          have e := sumTo_s (fun i => if bd ds i = 0 then 1 else 0) i
          first | rw [if_pos c18] at e | rw [if_neg c18] at e
          exact ih4 (i + 1) _ _ _ (by omega) (by omega) hw hS (by rw [e]; exact hl)
  exact loop4 (ds.length + 1) 0 _ _ _ (by omega) (by omega) hw hS hl
set_option maxHeartbeats 4000000 in
set_option maxRecDepth 100000 in
theorem kX2_deedsBinding (l : Launch) (N0 : Nat) (G : XG) (w : Wd) (b0 : Nat) (pn : Nat → List Nat) (ds : List (Nat × Nat)) (hd : List (Nat × Bool)) (hB : RBooks G w b0 pn ds hd) (q : Nat) (hq5 : q < 5) : XM l yX2_deedsBinding wsX2_deedsBinding (rmD 3) N0 G [.ref b0, .int (nI q)] w vI (fun r w1 => nI (sumTo (fun i => if (bd ds i).testBit q = true then 1 else 0) ds.length) = r ∧ w = w1) 0 0 := by
  refine XM.of (cc := cX2_deedsBinding) (maxL := 4) (ret := (some .int)) (by decide) rfl (Nat.le_of_ble_eq_true rfl) ?_
  intro p e s m below meth c hx hb hr hlk hin0 hml hown hts hN hw hG hS ls hl
  have hown : s.vm.findClass RX2 = some m.cls := hown
  have hiX2 : ∀ x ∈ u_ws RX2 TX2 7, x ∈ wsX2_deedsBinding := by decide +kernel
  have hlnk0 := hts (.fieldLink RX2 33 "LentQuill$Books" "deeds" "I") (by decide +kernel)
  have hlnk1 := hts (.initialized RX11) (by decide +kernel)
  have hlnk2 := hts (.static yX11_holds) (by decide +kernel)
  have hl : lh ls 4 [some (.ref b0), some (.int (nI q)), none, none] := hl
  obtain ⟨g, fd, fb, hb0, hb1, hb2, hb3, hd6, hh6, hg, hdf, hdw, hhw, hpn⟩ := id hB
  refine lv_iconst (v := nI 0) hx hb dX2_deedsBinding_0 (by decide) ?_
  refine xistore_n hx hb dX2_deedsBinding_1 hl (by decide) rfl (fun ls hl => ?_)
  refine lv_iconst (v := nI 0) hx hb dX2_deedsBinding_2 (by decide) ?_
  refine xistore_n hx hb dX2_deedsBinding_3 hl (by decide) rfl (fun ls hl => ?_)
  have loop4 : ∀ (nf : Nat) (i : Nat) (H : Heap) (locs : List Loc) (ls : Array Slot), ds.length - i < nf → (i ≤ ds.length) → PW N0 G w H → va_S (fun q => N0 ≤ q) s.heap H locs → lh ls 4 [some (.ref b0), some (.int (nI q)), some (.int (nI (sumTo (fun i => if (bd ds i).testBit q = true then 1 else 0) i))), some (.int (nI i))] → W p l e (rmD 3) s m ([.ref b0, .int (nI q)] : List Value).toArray below meth c H locs 0 0 (MQ below (XQ N0 G vI (fun r w1 => nI (sumTo (fun i => if (bd ds i).testBit q = true then 1 else 0) ds.length) = r ∧ w = w1)) ([.ref b0, .int (nI q)] : List Value).toArray s 0 0 (fun q => N0 ≤ q)) (F0 m 4 ls []) := by
    intro nf
    induction nf with
    | zero => intros; omega
    | succ nf ih4 =>
      intro i H locs ls hnf hi hw hS hl
      refine xiload_n hx hb dX2_deedsBinding_4 hl rfl ?_
      refine xaload_n hx hb dX2_deedsBinding_5 hl rfl ?_
      refine xget (C := RX2) (T := TX2) (N := 7) hx hb (ci := 2) hts hiX2 hown hG hw (by repeat first | assumption | exact wu_eq _ _ _ | refine wu_ne (by omega) ?_) rfl 3 (by decide) hlnk0 (fun _ h9 => h9) rfl dX2_deedsBinding_6 ?_
      first | refine xcmp_ge (tgt := 38) hx hb dX2_deedsBinding_9 (by decide) (by omega) (by omega) (fun c9 => ?_) (fun c9 => ?_) | refine lv_icmp_ge (tgt := 38) hx hb dX2_deedsBinding_9 (by decide) (fun c9 => ?_) (fun c9 => ?_)
      · skip
        refine xiload_n hx hb dX2_deedsBinding_38 hl rfl ?_
        exact xiret hx hb hr hlk hw hS dX2_deedsBinding_39 ⟨by rw [show i = ds.length by omega], rfl⟩
      · skip
        refine xiload_n hx hb dX2_deedsBinding_12 hl rfl ?_
        refine xaload_n hx hb dX2_deedsBinding_13 hl rfl ?_
        refine xiload_n hx hb dX2_deedsBinding_14 hl rfl ?_
        refine xVi ⟨hx, hb, hml, hown, hts⟩ (kX2_boundByDeed l N0 G _ _ pn ds hd hB i c9) (cwV 1 hts gX2_deedsBinding_X2_boundByDeed rfl rfl rfl (by decide +kernel) ⟨Nat.le_of_ble_eq_true rfl, Nat.le_of_ble_eq_true rfl⟩) hG hN hw hS (ci := 2) (by repeat first | assumption | exact wu_eq _ _ _ | refine wu_ne (by omega) ?_) rfl rfl hl.1 rfl (Nat.le_of_ble_eq_true rfl) dX2_deedsBinding_15 ⟨Nat.le_of_ble_eq_true rfl, Nat.le_of_ble_eq_true rfl⟩ (fun r15 w15 H locs hp15 hw hS => ?_)
        obtain ⟨rfl, rfl⟩ := hp15
        refine xiload_n hx hb dX2_deedsBinding_18 hl rfl ?_
        refine xSNi ⟨hx, hb, hml, hown, hts⟩ (kX11_holds l N0 G _ (bd ds i) q (hdw i c9).2 hq5) ⟨(va_cnB (host := "LentQuill") 2 hts gX2_deedsBinding_X11_holds_n74 rfl rfl rfl (hG.2.1 (.methodLinkNest RX2 74 yX11_holds "LentQuill") (by decide +kernel)) hlnk1 (by decide +kernel) ⟨Nat.le_of_ble_eq_true rfl, Nat.le_of_ble_eq_true rfl⟩), hlnk2, trivial⟩ hG hN hw hS rfl hl.1 rfl (Nat.le_of_ble_eq_true rfl) dX2_deedsBinding_19 ⟨Nat.le_of_ble_eq_true rfl, Nat.le_of_ble_eq_true rfl⟩ (fun r19 w19 H locs hp19 hw hS => ?_)
        obtain ⟨rfl, rfl⟩ := hp19
        first | refine xifb_eq (tgt := 29) hx hb dX2_deedsBinding_22 (by decide) (fun c22 => ?_) (fun c22 => ?_) | refine xif_eq (tgt := 29) hx hb dX2_deedsBinding_22 (by decide) (by omega) (fun c22 => ?_) (fun c22 => ?_) | refine lv_if_eq (tgt := 29) hx hb dX2_deedsBinding_22 (by decide) (fun c22 => ?_) (fun c22 => ?_)
        · skip
          refine lv_iconst (v := nI 0) hx hb dX2_deedsBinding_29 (by decide) ?_
          first | refine xadd hx hb dX2_deedsBinding_30 ?_ | refine lv_iadd hx hb dX2_deedsBinding_30 ?_
          refine xistore_n hx hb dX2_deedsBinding_31 hl (by decide) rfl (fun ls hl => ?_)
          first | refine xiincN hx hb 1 dX2_deedsBinding_32 hl rfl (by decide) (by decide) rfl (fun ls hl => ?_) | refine xiinc hx hb dX2_deedsBinding_32 hl rfl rfl (by decide) rfl (fun ls hl => ?_)
          refine lv_goto (tgt := 4) hx hb dX2_deedsBinding_35 (by decide) ?_
          have e := sumTo_s (fun i => if (bd ds i).testBit q = true then 1 else 0) i
          first | rw [if_pos c22] at e | rw [if_neg (by rw [c22]; decide)] at e
          exact ih4 (i + 1) _ _ _ (by omega) (by omega) hw hS (by rw [e]; exact hl)
        · skip
          refine lv_iconst (v := nI 1) hx hb dX2_deedsBinding_25 (by decide) ?_
          refine lv_goto (tgt := 30) hx hb dX2_deedsBinding_26 (by decide) ?_
          first | refine xadd hx hb dX2_deedsBinding_30 ?_ | refine lv_iadd hx hb dX2_deedsBinding_30 ?_
          refine xistore_n hx hb dX2_deedsBinding_31 hl (by decide) rfl (fun ls hl => ?_)
          first | refine xiincN hx hb 1 dX2_deedsBinding_32 hl rfl (by decide) (by decide) rfl (fun ls hl => ?_) | refine xiinc hx hb dX2_deedsBinding_32 hl rfl rfl (by decide) rfl (fun ls hl => ?_)
          refine lv_goto (tgt := 4) hx hb dX2_deedsBinding_35 (by decide) ?_
          have e := sumTo_s (fun i => if (bd ds i).testBit q = true then 1 else 0) i
          first | rw [if_pos c22] at e | rw [if_neg (by rw [c22]; decide)] at e
          exact ih4 (i + 1) _ _ _ (by omega) (by omega) hw hS (by rw [e]; exact hl)
  exact loop4 (ds.length + 1) 0 _ _ _ (by omega) (by omega) hw hS hl
set_option maxHeartbeats 4000000 in
set_option maxRecDepth 100000 in
theorem kX2_partsOwedBy (l : Launch) (N0 : Nat) (G : XG) (w : Wd) (b0 : Nat) (pn : Nat → List Nat) (ds : List (Nat × Nat)) (hd : List (Nat × Bool)) (hB : RBooks G w b0 pn ds hd) (q : Nat) (hq5 : q < 5) : XM l yX2_partsOwedBy wsX2_partsOwedBy (rmD 3) N0 G [.ref b0, .int (nI q)] w vI (fun r w1 => nI (oweN ds q ds.length) = r ∧ w = w1) 0 0 := by
  refine XM.of (cc := cX2_partsOwedBy) (maxL := 5) (ret := (some .int)) (by decide) rfl (Nat.le_of_ble_eq_true rfl) ?_
  intro p e s m below meth c hx hb hr hlk hin0 hml hown hts hN hw hG hS ls hl
  have hown : s.vm.findClass RX2 = some m.cls := hown
  have hiX2 : ∀ x ∈ u_ws RX2 TX2 7, x ∈ wsX2_partsOwedBy := by decide +kernel
  have hlnk0 := hts (.fieldLink RX2 33 "LentQuill$Books" "deeds" "I") (by decide +kernel)
  have hlnk1 := hts (.initialized RX11) (by decide +kernel)
  have hlnk2 := hts (.static yX11_holds) (by decide +kernel)
  have hlnk3 := hts (.static yX11_shareOf) (by decide +kernel)
  have hl : lh ls 5 [some (.ref b0), some (.int (nI q)), none, none, none] := hl
  obtain ⟨g, fd, fb, hb0, hb1, hb2, hb3, hd6, hh6, hg, hdf, hdw, hhw, hpn⟩ := id hB
  refine lv_iconst (v := nI 0) hx hb dX2_partsOwedBy_0 (by decide) ?_
  refine xistore_n hx hb dX2_partsOwedBy_1 hl (by decide) rfl (fun ls hl => ?_)
  refine lv_iconst (v := nI 0) hx hb dX2_partsOwedBy_2 (by decide) ?_
  refine xistore_n hx hb dX2_partsOwedBy_3 hl (by decide) rfl (fun ls hl => ?_)
  have loop4 : ∀ (nf : Nat) (i : Nat) (H : Heap) (locs : List Loc) (ls : Array Slot), ds.length - i < nf → (i ≤ ds.length) → PW N0 G w H → va_S (fun q => N0 ≤ q) s.heap H locs → lh ls 5 [some (.ref b0), some (.int (nI q)), some (.int (nI (oweN ds q i))), some (.int (nI i)), none] → W p l e (rmD 3) s m ([.ref b0, .int (nI q)] : List Value).toArray below meth c H locs 0 0 (MQ below (XQ N0 G vI (fun r w1 => nI (oweN ds q ds.length) = r ∧ w = w1)) ([.ref b0, .int (nI q)] : List Value).toArray s 0 0 (fun q => N0 ≤ q)) (F0 m 4 ls []) := by
    intro nf
    induction nf with
    | zero => intros; omega
    | succ nf ih4 =>
      intro i H locs ls hnf hi hw hS hl
      refine xiload_n hx hb dX2_partsOwedBy_4 hl rfl ?_
      refine xaload_n hx hb dX2_partsOwedBy_5 hl rfl ?_
      refine xget (C := RX2) (T := TX2) (N := 7) hx hb (ci := 2) hts hiX2 hown hG hw (by repeat first | assumption | exact wu_eq _ _ _ | refine wu_ne (by omega) ?_) rfl 3 (by decide) hlnk0 (fun _ h9 => h9) rfl dX2_partsOwedBy_6 ?_
      first | refine xcmp_ge (tgt := 51) hx hb dX2_partsOwedBy_9 (by decide) (by omega) (by omega) (fun c9 => ?_) (fun c9 => ?_) | refine lv_icmp_ge (tgt := 51) hx hb dX2_partsOwedBy_9 (by decide) (fun c9 => ?_) (fun c9 => ?_)
      · skip
        refine xiload_n hx hb dX2_partsOwedBy_51 hl rfl ?_
        exact xiret hx hb hr hlk hw hS dX2_partsOwedBy_52 ⟨by rw [show i = ds.length by omega], rfl⟩
      · skip
        refine xaload_n hx hb dX2_partsOwedBy_12 hl rfl ?_
        refine xiload_n hx hb dX2_partsOwedBy_13 hl rfl ?_
        refine xVi ⟨hx, hb, hml, hown, hts⟩ (kX2_boundByDeed l N0 G _ _ pn ds hd hB i c9) (cwV 1 hts gX2_partsOwedBy_X2_boundByDeed rfl rfl rfl (by decide +kernel) ⟨Nat.le_of_ble_eq_true rfl, Nat.le_of_ble_eq_true rfl⟩) hG hN hw hS (ci := 2) (by repeat first | assumption | exact wu_eq _ _ _ | refine wu_ne (by omega) ?_) rfl rfl hl.1 rfl (Nat.le_of_ble_eq_true rfl) dX2_partsOwedBy_14 ⟨Nat.le_of_ble_eq_true rfl, Nat.le_of_ble_eq_true rfl⟩ (fun r14 w14 H locs hp14 hw hS => ?_)
        obtain ⟨rfl, rfl⟩ := hp14
        refine xistore hx hb dX2_partsOwedBy_17 hl (by decide) rfl (fun ls hl => ?_)
        refine xiload_n hx hb dX2_partsOwedBy_19 hl rfl ?_
        refine xiload hx hb dX2_partsOwedBy_20 hl rfl ?_
        refine xiload_n hx hb dX2_partsOwedBy_22 hl rfl ?_
        refine xSNi ⟨hx, hb, hml, hown, hts⟩ (kX11_holds l N0 G _ (bd ds i) q (hdw i c9).2 hq5) ⟨(va_cnB (host := "LentQuill") 2 hts gX2_partsOwedBy_X11_holds_n74 rfl rfl rfl (hG.2.1 (.methodLinkNest RX2 74 yX11_holds "LentQuill") (by decide +kernel)) hlnk1 (by decide +kernel) ⟨Nat.le_of_ble_eq_true rfl, Nat.le_of_ble_eq_true rfl⟩), hlnk2, trivial⟩ hG hN hw hS rfl hl.1 rfl (Nat.le_of_ble_eq_true rfl) dX2_partsOwedBy_23 ⟨Nat.le_of_ble_eq_true rfl, Nat.le_of_ble_eq_true rfl⟩ (fun r23 w23 H locs hp23 hw hS => ?_)
        obtain ⟨rfl, rfl⟩ := hp23
        first | refine xifb_eq (tgt := 42) hx hb dX2_partsOwedBy_26 (by decide) (fun c26 => ?_) (fun c26 => ?_) | refine xif_eq (tgt := 42) hx hb dX2_partsOwedBy_26 (by decide) (by omega) (fun c26 => ?_) (fun c26 => ?_) | refine lv_if_eq (tgt := 42) hx hb dX2_partsOwedBy_26 (by decide) (fun c26 => ?_) (fun c26 => ?_)
        · skip
          refine lv_iconst (v := nI 0) hx hb dX2_partsOwedBy_42 (by decide) ?_
          first | refine xadd hx hb dX2_partsOwedBy_43 ?_ | refine lv_iadd hx hb dX2_partsOwedBy_43 ?_
          refine xistore_n hx hb dX2_partsOwedBy_44 hl (by decide) rfl (fun ls hl => ?_)
          first | refine xiincN hx hb 1 dX2_partsOwedBy_45 hl rfl (by decide) (by decide) rfl (fun ls hl => ?_) | refine xiinc hx hb dX2_partsOwedBy_45 hl rfl rfl (by decide) rfl (fun ls hl => ?_)
          refine lv_goto (tgt := 4) hx hb dX2_partsOwedBy_48 (by decide) ?_
          have e := oweN_s ds q i
          first | rw [if_pos c26] at e | rw [if_neg (by rw [c26]; decide)] at e
          exact ih4 (i + 1) _ _ _ (by omega) (by omega) hw hS (by rw [e]; exact hl.drop 4)
        · skip
          refine xaload_n hx hb dX2_partsOwedBy_29 hl rfl ?_
          refine xiload_n hx hb dX2_partsOwedBy_30 hl rfl ?_
          refine xVi ⟨hx, hb, hml, hown, hts⟩ (kX2_debtOf l N0 G _ _ pn ds hd hB i c9) (cwV 1 hts gX2_partsOwedBy_X2_debtOf rfl rfl rfl (by decide +kernel) ⟨Nat.le_of_ble_eq_true rfl, Nat.le_of_ble_eq_true rfl⟩) hG hN hw hS (ci := 2) (by repeat first | assumption | exact wu_eq _ _ _ | refine wu_ne (by omega) ?_) rfl rfl hl.1 rfl (Nat.le_of_ble_eq_true rfl) dX2_partsOwedBy_31 ⟨Nat.le_of_ble_eq_true rfl, Nat.le_of_ble_eq_true rfl⟩ (fun r31 w31 H locs hp31 hw hS => ?_)
          obtain ⟨rfl, rfl⟩ := hp31
          refine xiload hx hb dX2_partsOwedBy_34 hl rfl ?_
          refine xSNi ⟨hx, hb, hml, hown, hts⟩ (kX11_shareOf l N0 G _ (dbt ds i) (bd ds i) (hdw i c9).1 (hdw i c9).2 (tb_ne c26)) ⟨(va_cnB (host := "LentQuill") 2 hts gX2_partsOwedBy_X11_shareOf_n81 rfl rfl rfl (hG.2.1 (.methodLinkNest RX2 81 yX11_shareOf "LentQuill") (by decide +kernel)) hlnk1 (by decide +kernel) ⟨Nat.le_of_ble_eq_true rfl, Nat.le_of_ble_eq_true rfl⟩), hlnk3, trivial⟩ hG hN hw hS rfl hl.1 rfl (Nat.le_of_ble_eq_true rfl) dX2_partsOwedBy_36 ⟨Nat.le_of_ble_eq_true rfl, Nat.le_of_ble_eq_true rfl⟩ (fun r36 w36 H locs hp36 hw hS => ?_)
          obtain ⟨rfl, rfl⟩ := hp36
          refine lv_goto (tgt := 43) hx hb dX2_partsOwedBy_39 (by decide) ?_
          first | refine xadd hx hb dX2_partsOwedBy_43 ?_ | refine lv_iadd hx hb dX2_partsOwedBy_43 ?_
          refine xistore_n hx hb dX2_partsOwedBy_44 hl (by decide) rfl (fun ls hl => ?_)
          first | refine xiincN hx hb 1 dX2_partsOwedBy_45 hl rfl (by decide) (by decide) rfl (fun ls hl => ?_) | refine xiinc hx hb dX2_partsOwedBy_45 hl rfl rfl (by decide) rfl (fun ls hl => ?_)
          refine lv_goto (tgt := 4) hx hb dX2_partsOwedBy_48 (by decide) ?_
          have e := oweN_s ds q i
          first | rw [if_pos c26] at e | rw [if_neg (by rw [c26]; decide)] at e
          exact ih4 (i + 1) _ _ _ (by omega) (by omega) hw hS (by rw [e]; exact hl.drop 4)
  exact loop4 (ds.length + 1) 0 _ _ _ (by omega) (by omega) hw hS hl
set_option maxHeartbeats 4000000 in
set_option maxRecDepth 100000 in
theorem kX2_breaksAll (l : Launch) (N0 : Nat) (G : XG) (w : Wd) (b0 : Nat) (pn : Nat → List Nat) (ds : List (Nat × Nat)) (hd : List (Nat × Bool)) (hB : RBooks G w b0 pn ds hd) (st : Nat) (hst : st < 32) : XM l yX2_breaksAll wsX2_breaksAll (rmD 3) N0 G [.ref b0, .int (nI st)] w vI (fun r w1 => bI (brkA ds st) = r ∧ w = w1) 0 0 := by
  refine XM.of (cc := cX2_breaksAll) (maxL := 4) (ret := (some .boolean)) (by decide) rfl (Nat.le_of_ble_eq_true rfl) ?_
  intro p e s m below meth c hx hb hr hlk hin0 hml hown hts hN hw hG hS ls hl
  have hown : s.vm.findClass RX2 = some m.cls := hown
  have hiX2 : ∀ x ∈ u_ws RX2 TX2 7, x ∈ wsX2_breaksAll := by decide +kernel
  have hlnk0 := hts (.fieldLink RX2 33 "LentQuill$Books" "deeds" "I") (by decide +kernel)
  have hl : lh ls 4 [some (.ref b0), some (.int (nI st)), none, none] := hl
  obtain ⟨g, fd, fb, hb0, hb1, hb2, hb3, hd6, hh6, hg, hdf, hdw, hhw, hpn⟩ := id hB
  refine lv_iconst (v := nI 0) hx hb dX2_breaksAll_0 (by decide) ?_
  refine xistore_n hx hb dX2_breaksAll_1 hl (by decide) rfl (fun ls hl => ?_)
  have loop2 : ∀ (nf : Nat) (i : Nat) (H : Heap) (locs : List Loc) (ls : Array Slot), ds.length - i < nf → (i ≤ ds.length) → (allTo (brk1 ds st) i = true) → PW N0 G w H → va_S (fun q => N0 ≤ q) s.heap H locs → lh ls 4 [some (.ref b0), some (.int (nI st)), some (.int (nI i)), none] → W p l e (rmD 3) s m ([.ref b0, .int (nI st)] : List Value).toArray below meth c H locs 0 0 (MQ below (XQ N0 G vI (fun r w1 => bI (brkA ds st) = r ∧ w = w1)) ([.ref b0, .int (nI st)] : List Value).toArray s 0 0 (fun q => N0 ≤ q)) (F0 m 2 ls []) := by
    intro nf
    induction nf with
    | zero => intros; omega
    | succ nf ih2 =>
      intro i H locs ls hnf hi hal hw hS hl
      refine xiload_n hx hb dX2_breaksAll_2 hl rfl ?_
      refine xaload_n hx hb dX2_breaksAll_3 hl rfl ?_
      refine xget (C := RX2) (T := TX2) (N := 7) hx hb (ci := 2) hts hiX2 hown hG hw (by repeat first | assumption | exact wu_eq _ _ _ | refine wu_ne (by omega) ?_) rfl 3 (by decide) hlnk0 (fun _ h9 => h9) rfl dX2_breaksAll_4 ?_
      first | refine xcmp_ge (tgt := 34) hx hb dX2_breaksAll_7 (by decide) (by omega) (by omega) (fun c7 => ?_) (fun c7 => ?_) | refine lv_icmp_ge (tgt := 34) hx hb dX2_breaksAll_7 (by decide) (fun c7 => ?_) (fun c7 => ?_)
      · skip
        refine lv_iconst (v := nI 1) hx hb dX2_breaksAll_34 (by decide) ?_
        first | exact xzret hx hb hr hlk hw hS dX2_breaksAll_35 true rfl ⟨congrArg bI (by unfold brkA; rw [show ds.length = i by omega]; exact hal), rfl⟩ | exact xzret hx hb hr hlk hw hS dX2_breaksAll_35 false rfl ⟨congrArg bI (allTo_f c7 (by unfold brk1; rw [decide_eq_false c17, decide_eq_false (fun z => z c23)]; rfl)), rfl⟩
      · skip
        refine xaload_n hx hb dX2_breaksAll_10 hl rfl ?_
        refine xiload_n hx hb dX2_breaksAll_11 hl rfl ?_
        refine xVi ⟨hx, hb, hml, hown, hts⟩ (kX2_boundByDeed l N0 G _ _ pn ds hd hB i c7) (cwV 1 hts gX2_breaksAll_X2_boundByDeed rfl rfl rfl (by decide +kernel) ⟨Nat.le_of_ble_eq_true rfl, Nat.le_of_ble_eq_true rfl⟩) hG hN hw hS (ci := 2) (by repeat first | assumption | exact wu_eq _ _ _ | refine wu_ne (by omega) ?_) rfl rfl hl.1 rfl (Nat.le_of_ble_eq_true rfl) dX2_breaksAll_12 ⟨Nat.le_of_ble_eq_true rfl, Nat.le_of_ble_eq_true rfl⟩ (fun r12 w12 H locs hp12 hw hS => ?_)
        obtain ⟨rfl, rfl⟩ := hp12
        refine xistore_n hx hb dX2_breaksAll_15 hl (by decide) rfl (fun ls hl => ?_)
        refine xiload_n hx hb dX2_breaksAll_16 hl rfl ?_
        have hw9 := hdw i c7
        have hand : bd ds i &&& st < 2 ^ 5 := Nat.and_lt_two_pow _ hst
        first | refine xifb_eq (tgt := 28) hx hb dX2_breaksAll_17 (by decide) (fun c17 => ?_) (fun c17 => ?_) | refine xif_eq (tgt := 28) hx hb dX2_breaksAll_17 (by decide) (by omega) (fun c17 => ?_) (fun c17 => ?_) | refine lv_if_eq (tgt := 28) hx hb dX2_breaksAll_17 (by decide) (fun c17 => ?_) (fun c17 => ?_)
        · skip
          first | refine xiincN hx hb 1 dX2_breaksAll_28 hl rfl (by decide) (by decide) rfl (fun ls hl => ?_) | refine xiinc hx hb dX2_breaksAll_28 hl rfl rfl (by decide) rfl (fun ls hl => ?_)
          refine lv_goto (tgt := 2) hx hb dX2_breaksAll_31 (by decide) ?_
          exact ih2 (i + 1) _ _ _ (by omega) (by omega) (by first | exact allTo_s hal (by unfold brk1; rw [decide_eq_true c17, Bool.true_or]) | exact allTo_s hal (by unfold brk1; rw [decide_eq_true c23, Bool.or_true])) hw hS (hl.drop 3)
        · skip
          refine xiload_n hx hb dX2_breaksAll_20 hl rfl ?_
          refine xiload_n hx hb dX2_breaksAll_21 hl rfl ?_
          first | refine xand hx hb dX2_breaksAll_22 ?_ | refine lv_iand hx hb dX2_breaksAll_22 ?_
          first | refine xifb_ne (tgt := 28) hx hb dX2_breaksAll_23 (by decide) (fun c23 => ?_) (fun c23 => ?_) | refine xif_ne (tgt := 28) hx hb dX2_breaksAll_23 (by decide) (by omega) (fun c23 => ?_) (fun c23 => ?_) | refine lv_if_ne (tgt := 28) hx hb dX2_breaksAll_23 (by decide) (fun c23 => ?_) (fun c23 => ?_)
          · skip
            first | refine xiincN hx hb 1 dX2_breaksAll_28 hl rfl (by decide) (by decide) rfl (fun ls hl => ?_) | refine xiinc hx hb dX2_breaksAll_28 hl rfl rfl (by decide) rfl (fun ls hl => ?_)
            refine lv_goto (tgt := 2) hx hb dX2_breaksAll_31 (by decide) ?_
            exact ih2 (i + 1) _ _ _ (by omega) (by omega) (by first | exact allTo_s hal (by unfold brk1; rw [decide_eq_true c17, Bool.true_or]) | exact allTo_s hal (by unfold brk1; rw [decide_eq_true c23, Bool.or_true])) hw hS (hl.drop 3)
          · skip
            refine lv_iconst (v := nI 0) hx hb dX2_breaksAll_26 (by decide) ?_
            first | exact xzret hx hb hr hlk hw hS dX2_breaksAll_27 true rfl ⟨congrArg bI (by unfold brkA; rw [show ds.length = i by omega]; exact hal), rfl⟩ | exact xzret hx hb hr hlk hw hS dX2_breaksAll_27 false rfl ⟨congrArg bI (allTo_f c7 (by unfold brk1; rw [decide_eq_false c17, decide_eq_false (fun z => z c23)]; rfl)), rfl⟩
  exact loop2 (ds.length + 1) 0 _ _ _ (by omega) (by omega) rfl hw hS hl
set_option maxHeartbeats 4000000 in
set_option maxRecDepth 100000 in
theorem kX2_fewestBreakers (l : Launch) (N0 : Nat) (G : XG) (w : Wd) (b0 : Nat) (pn : Nat → List Nat) (ds : List (Nat × Nat)) (hd : List (Nat × Bool)) (hB : RBooks G w b0 pn ds hd) (e0 : Nat) (he : e0 < 32) (hpc : ∀ m, m < e0 → pcN m < pcN e0) : XM l yX2_fewestBreakers wsX2_fewestBreakers (rmD 4) N0 G [.ref b0, .int (nI e0)] w vI (fun r w1 => nI ((fGo (brkA ds) e0).getD e0) = r ∧ w = w1) 0 0 := by
  refine XM.of (cc := cX2_fewestBreakers) (maxL := 4) (ret := (some .int)) (by decide) rfl (Nat.le_of_ble_eq_true rfl) ?_
  intro p e s m below meth c hx hb hr hlk hin0 hml hown hts hN hw hG hS ls hl
  have hown : s.vm.findClass RX2 = some m.cls := hown
  have hl : lh ls 4 [some (.ref b0), some (.int (nI e0)), none, none] := hl
  obtain ⟨g, fd, fb, hb0, hb1, hb2, hb3, hd6, hh6, hg, hdf, hdw, hhw, hpn⟩ := id hB
  refine xiload_n hx hb dX2_fewestBreakers_0 hl rfl ?_
  refine xistore_n hx hb dX2_fewestBreakers_1 hl (by decide) rfl (fun ls hl => ?_)
  refine lv_iconst (v := nI 0) hx hb dX2_fewestBreakers_2 (by decide) ?_
  refine xistore_n hx hb dX2_fewestBreakers_3 hl (by decide) rfl (fun ls hl => ?_)
  have loop4 : ∀ (nf : Nat) (i : Nat) (H : Heap) (locs : List Loc) (ls : Array Slot), e0 - i < nf → (i ≤ e0) → PW N0 G w H → va_S (fun q => N0 ≤ q) s.heap H locs → lh ls 4 [some (.ref b0), some (.int (nI e0)), some (.int (nI ((fGo (brkA ds) i).getD e0))), some (.int (nI i))] → W p l e (rmD 4) s m ([.ref b0, .int (nI e0)] : List Value).toArray below meth c H locs 0 0 (MQ below (XQ N0 G vI (fun r w1 => nI ((fGo (brkA ds) e0).getD e0) = r ∧ w = w1)) ([.ref b0, .int (nI e0)] : List Value).toArray s 0 0 (fun q => N0 ≤ q)) (F0 m 4 ls []) := by
    intro nf
    induction nf with
    | zero => intros; omega
    | succ nf ih4 =>
      intro i H locs ls hnf hi hw hS hl
      refine xiload_n hx hb dX2_fewestBreakers_4 hl rfl ?_
      refine xiload_n hx hb dX2_fewestBreakers_5 hl rfl ?_
      first | refine xcmp_ge (tgt := 36) hx hb dX2_fewestBreakers_6 (by decide) (by omega) (by omega) (fun c6 => ?_) (fun c6 => ?_) | refine lv_icmp_ge (tgt := 36) hx hb dX2_fewestBreakers_6 (by decide) (fun c6 => ?_) (fun c6 => ?_)
      · skip
        refine xiload_n hx hb dX2_fewestBreakers_36 hl rfl ?_
        exact xiret hx hb hr hlk hw hS dX2_fewestBreakers_37 ⟨by rw [show i = e0 by omega], rfl⟩
      · skip
        refine xiload_n hx hb dX2_fewestBreakers_9 hl rfl ?_
        refine xSi ⟨hx, hb, hml, hown, hts⟩ (kJ6_bitCount_0f7a4 l N0 G _ i (by omega)) (va_cwS 1 hts gX2_fewestBreakers_J6_bitCount_0f7a4 rfl rfl rfl (by decide +kernel) ⟨Nat.le_of_ble_eq_true rfl, Nat.le_of_ble_eq_true rfl⟩) hG hN hw hS rfl hl.1 rfl (Nat.le_of_ble_eq_true rfl) dX2_fewestBreakers_10 ⟨Nat.le_of_ble_eq_true rfl, Nat.le_of_ble_eq_true rfl⟩ (fun r10 w10 H locs hp10 hw hS => ?_)
        obtain ⟨rfl, rfl⟩ := hp10
        refine xiload_n hx hb dX2_fewestBreakers_13 hl rfl ?_
        refine xSi ⟨hx, hb, hml, hown, hts⟩ (kJ6_bitCount_0f7a4 l N0 G _ ((fGo (brkA ds) i).getD e0) (fGo_lt (by omega) he)) (va_cwS 1 hts gX2_fewestBreakers_J6_bitCount_0f7a4 rfl rfl rfl (by decide +kernel) ⟨Nat.le_of_ble_eq_true rfl, Nat.le_of_ble_eq_true rfl⟩) hG hN hw hS rfl hl.1 rfl (Nat.le_of_ble_eq_true rfl) dX2_fewestBreakers_14 ⟨Nat.le_of_ble_eq_true rfl, Nat.le_of_ble_eq_true rfl⟩ (fun r14 w14 H locs hp14 hw hS => ?_)
        obtain ⟨rfl, rfl⟩ := hp14
        have hq1 := pcN_le i
        have hq2 := pcN_le ((fGo (brkA ds) i).getD e0)
        first | refine xcmp_ge (tgt := 30) hx hb dX2_fewestBreakers_17 (by decide) (by omega) (by omega) (fun c17 => ?_) (fun c17 => ?_) | refine lv_icmp_ge (tgt := 30) hx hb dX2_fewestBreakers_17 (by decide) (fun c17 => ?_) (fun c17 => ?_)
        · skip
          first | refine xiincN hx hb 1 dX2_fewestBreakers_30 hl rfl (by decide) (by decide) rfl (fun ls hl => ?_) | refine xiinc hx hb dX2_fewestBreakers_30 hl rfl rfl (by decide) rfl (fun ls hl => ?_)
          refine lv_goto (tgt := 4) hx hb dX2_fewestBreakers_33 (by decide) ?_
          exact ih4 (i + 1) _ _ _ (by omega) (by omega) hw hS (by first | (rw [fGo_keep1 c17 (hpc i c6)]; exact hl) | (rw [fGo_keep2 c25]; exact hl) | (rw [fGo_take c25 c17]; exact hl))
        · skip
          refine xaload_n hx hb dX2_fewestBreakers_20 hl rfl ?_
          refine xiload_n hx hb dX2_fewestBreakers_21 hl rfl ?_
          refine xVi ⟨hx, hb, hml, hown, hts⟩ (kX2_breaksAll l N0 G _ _ pn ds hd hB i (by omega)) (cwV 1 hts gX2_fewestBreakers_X2_breaksAll rfl rfl rfl (by decide +kernel) ⟨Nat.le_of_ble_eq_true rfl, Nat.le_of_ble_eq_true rfl⟩) hG hN hw hS (ci := 2) (by repeat first | assumption | exact wu_eq _ _ _ | refine wu_ne (by omega) ?_) rfl rfl hl.1 rfl (Nat.le_of_ble_eq_true rfl) dX2_fewestBreakers_22 ⟨Nat.le_of_ble_eq_true rfl, Nat.le_of_ble_eq_true rfl⟩ (fun r22 w22 H locs hp22 hw hS => ?_)
          obtain ⟨rfl, rfl⟩ := hp22
          first | refine xifb_eq (tgt := 30) hx hb dX2_fewestBreakers_25 (by decide) (fun c25 => ?_) (fun c25 => ?_) | refine xif_eq (tgt := 30) hx hb dX2_fewestBreakers_25 (by decide) (by omega) (fun c25 => ?_) (fun c25 => ?_) | refine lv_if_eq (tgt := 30) hx hb dX2_fewestBreakers_25 (by decide) (fun c25 => ?_) (fun c25 => ?_)
          · skip
            first | refine xiincN hx hb 1 dX2_fewestBreakers_30 hl rfl (by decide) (by decide) rfl (fun ls hl => ?_) | refine xiinc hx hb dX2_fewestBreakers_30 hl rfl rfl (by decide) rfl (fun ls hl => ?_)
            refine lv_goto (tgt := 4) hx hb dX2_fewestBreakers_33 (by decide) ?_
            exact ih4 (i + 1) _ _ _ (by omega) (by omega) hw hS (by first | (rw [fGo_keep1 c17 (hpc i c6)]; exact hl) | (rw [fGo_keep2 c25]; exact hl) | (rw [fGo_take c25 c17]; exact hl))
          · skip
            refine xiload_n hx hb dX2_fewestBreakers_28 hl rfl ?_
            refine xistore_n hx hb dX2_fewestBreakers_29 hl (by decide) rfl (fun ls hl => ?_)
            first | refine xiincN hx hb 1 dX2_fewestBreakers_30 hl rfl (by decide) (by decide) rfl (fun ls hl => ?_) | refine xiinc hx hb dX2_fewestBreakers_30 hl rfl rfl (by decide) rfl (fun ls hl => ?_)
            refine lv_goto (tgt := 4) hx hb dX2_fewestBreakers_33 (by decide) ?_
            exact ih4 (i + 1) _ _ _ (by omega) (by omega) hw hS (by first | (rw [fGo_keep1 c17 (hpc i c6)]; exact hl) | (rw [fGo_keep2 c25]; exact hl) | (rw [fGo_take c25 c17]; exact hl))
  exact loop4 (e0 + 1) 0 _ _ _ (by omega) (by omega) hw hS hl
set_option maxHeartbeats 4000000 in
set_option maxRecDepth 100000 in
theorem kX2_addHeard (l : Launch) (N0 : Nat) (G : XG) (w : Wd) (b0 : Nat) (pn : Nat → List Nat) (ds : List (Nat × Nat)) (hd : List (Nat × Bool)) (hB : RBooks G w b0 pn ds hd) (q : Nat) (v : Bool) (hq5 : q < 5) (hlt : hd.length < 6) : XM l yX2_addHeard wsX2_addHeard (rmD 1) N0 G [.ref b0, .int (nI q), .int (bI v)] w vI (fun r w1 => bI true = r ∧ RBooks G w1 b0 pn ds (hd ++ [(q, v)]) ∧ Out w w1 b0 (b0 + 14)) 0 0 := by
  refine XM.of (cc := cX2_addHeard) (maxL := 3) (ret := (some .boolean)) (by decide) rfl (Nat.le_of_ble_eq_true rfl) ?_
  intro p e s m below meth c hx hb hr hlk hin0 hml hown hts hN hw hG hS ls hl
  have hown : s.vm.findClass RX2 = some m.cls := hown
  have hiX2 : ∀ x ∈ u_ws RX2 TX2 7, x ∈ wsX2_addHeard := by decide +kernel
  have hlnk0 := hts (.fieldLink RX2 50 "LentQuill$Books" "heard" "I") (by decide +kernel)
  have hlnk1 := hts (.fieldLink RX2 56 "LentQuill$Books" "heardUnbound" "I") (by decide +kernel)
  have hlnk2 := hts (.fieldLink RX2 53 "LentQuill$Books" "heardBound" "I") (by decide +kernel)
  have hl : lh ls 3 [some (.ref b0), some (.int (nI q)), some (.int (bI v))] := hl
  obtain ⟨g, fd, fb, hb0, hb1, hb2, hb3, hd6, hh6, hg, hdf, hdw, hhw, hpn⟩ := id hB
  refine xaload_n hx hb dX2_addHeard_0 hl rfl ?_
  refine xget (C := RX2) (T := TX2) (N := 7) hx hb (ci := 2) hts hiX2 hown hG hw (by repeat first | assumption | exact wu_eq _ _ _ | refine wu_ne (by omega) ?_) rfl 4 (by decide) hlnk0 (fun _ h9 => h9) rfl dX2_addHeard_1 ?_
  refine lv_bipush (v := nI 6) hx hb dX2_addHeard_4 (by decide) ?_
  first | refine xcmp_lt (tgt := 11) hx hb dX2_addHeard_6 (by decide) (by omega) (by omega) (fun c6 => ?_) (fun c6 => ?_) | refine lv_icmp_lt (tgt := 11) hx hb dX2_addHeard_6 (by decide) (fun c6 => ?_) (fun c6 => ?_)
  · skip
    refine xaload_n hx hb dX2_addHeard_11 hl rfl ?_
    refine lv_dup hx hb dX2_addHeard_12 rfl ?_
    refine xget (C := RX2) (T := TX2) (N := 7) hx hb (ci := 2) hts hiX2 hown hG hw (by repeat first | assumption | exact wu_eq _ _ _ | refine wu_ne (by omega) ?_) rfl 4 (by decide) hlnk0 (fun _ h9 => h9) rfl dX2_addHeard_13 ?_
    refine lv_iconst (v := nI 1) hx hb dX2_addHeard_16 (by decide) ?_
    first | refine xadd hx hb dX2_addHeard_17 ?_ | refine lv_iadd hx hb dX2_addHeard_17 ?_
    refine xput (C := RX2) (T := TX2) (N := 7) hx hb (ci := 2) (ty := .int) hts hiX2 tyX2 tyX2_ok nmX2 hown hG hw hS (by repeat first | assumption | exact wu_eq _ _ _ | refine wu_ne (by omega) ?_) rfl 4 (by decide) hlnk0 (fun _ h9 => h9) rfl (by decide +kernel) rfl rfl (Nat.le_of_ble_eq_true rfl) dX2_addHeard_18 (fun H locs hzz hw hS => ?_)
    refine xiload_n hx hb dX2_addHeard_21 hl rfl ?_
    first | refine xifb_eq (tgt := 40) hx hb dX2_addHeard_22 (by decide) (fun c22 => ?_) (fun c22 => ?_) | refine xif_eq (tgt := 40) hx hb dX2_addHeard_22 (by decide) (by omega) (fun c22 => ?_) (fun c22 => ?_) | refine lv_if_eq (tgt := 40) hx hb dX2_addHeard_22 (by decide) (fun c22 => ?_) (fun c22 => ?_)
    · skip
      refine xaload_n hx hb dX2_addHeard_40 hl rfl ?_
      refine lv_dup hx hb dX2_addHeard_41 rfl ?_
      refine xget (C := RX2) (T := TX2) (N := 7) hx hb (ci := 2) hts hiX2 hown hG hw (by repeat first | assumption | exact wu_eq _ _ _ | refine wu_ne (by omega) ?_) rfl 6 (by decide) hlnk1 (fun _ h9 => h9) rfl dX2_addHeard_42 ?_
      refine lv_iconst (v := nI 1) hx hb dX2_addHeard_45 (by decide) ?_
      refine xiload_n hx hb dX2_addHeard_46 hl rfl ?_
      first | refine xshl hx hb dX2_addHeard_47 (by omega) ?_ | refine lv_ishl hx hb dX2_addHeard_47 ?_
      first | refine xor_ hx hb dX2_addHeard_48 ?_ | refine lv_ior hx hb dX2_addHeard_48 ?_
      refine xput (C := RX2) (T := TX2) (N := 7) hx hb (ci := 2) (ty := .int) hts hiX2 tyX2 tyX2_ok nmX2 hown hG hw hS (by repeat first | assumption | exact wu_eq _ _ _ | refine wu_ne (by omega) ?_) rfl 6 (by decide) hlnk1 (fun _ h9 => h9) rfl (by decide +kernel) rfl rfl (Nat.le_of_ble_eq_true rfl) dX2_addHeard_49 (fun H locs hzz hw hS => ?_)
      refine lv_iconst (v := nI 1) hx hb dX2_addHeard_52 (by decide) ?_
      first | exact xzret hx hb hr hlk hw hS dX2_addHeard_53 true rfl ⟨rfl, (by subst c22; first | exact addHeard_repT hB hb0 hq5 hlt | exact addHeard_repF hB hb0 hq5 hlt), (Out.rf.wu (by omega) (by omega)).wu (by omega) (by omega)⟩ | exact xzret hx hb hr hlk hw hS dX2_addHeard_53 false rfl ⟨rfl, hB, Out.rf⟩
    · skip
      refine xaload_n hx hb dX2_addHeard_25 hl rfl ?_
      refine lv_dup hx hb dX2_addHeard_26 rfl ?_
      refine xget (C := RX2) (T := TX2) (N := 7) hx hb (ci := 2) hts hiX2 hown hG hw (by repeat first | assumption | exact wu_eq _ _ _ | refine wu_ne (by omega) ?_) rfl 5 (by decide) hlnk2 (fun _ h9 => h9) rfl dX2_addHeard_27 ?_
      refine lv_iconst (v := nI 1) hx hb dX2_addHeard_30 (by decide) ?_
      refine xiload_n hx hb dX2_addHeard_31 hl rfl ?_
      first | refine xshl hx hb dX2_addHeard_32 (by omega) ?_ | refine lv_ishl hx hb dX2_addHeard_32 ?_
      first | refine xor_ hx hb dX2_addHeard_33 ?_ | refine lv_ior hx hb dX2_addHeard_33 ?_
      refine xput (C := RX2) (T := TX2) (N := 7) hx hb (ci := 2) (ty := .int) hts hiX2 tyX2 tyX2_ok nmX2 hown hG hw hS (by repeat first | assumption | exact wu_eq _ _ _ | refine wu_ne (by omega) ?_) rfl 5 (by decide) hlnk2 (fun _ h9 => h9) rfl (by decide +kernel) rfl rfl (Nat.le_of_ble_eq_true rfl) dX2_addHeard_34 (fun H locs hzz hw hS => ?_)
      refine lv_goto (tgt := 52) hx hb dX2_addHeard_37 (by decide) ?_
      refine lv_iconst (v := nI 1) hx hb dX2_addHeard_52 (by decide) ?_
      first | exact xzret hx hb hr hlk hw hS dX2_addHeard_53 true rfl ⟨rfl, (by subst c22; first | exact addHeard_repT hB hb0 hq5 hlt | exact addHeard_repF hB hb0 hq5 hlt), (Out.rf.wu (by omega) (by omega)).wu (by omega) (by omega)⟩ | exact xzret hx hb hr hlk hw hS dX2_addHeard_53 false rfl ⟨rfl, hB, Out.rf⟩
  · skip
    exfalso
    omega
set_option maxHeartbeats 4000000 in
set_option maxRecDepth 100000 in
theorem kX2_addHeard_full (l : Launch) (N0 : Nat) (G : XG) (w : Wd) (b0 : Nat) (pn : Nat → List Nat) (ds : List (Nat × Nat)) (hd : List (Nat × Bool)) (hB : RBooks G w b0 pn ds hd) (x v : Int32) (hlt : 6 ≤ hd.length) : XM l yX2_addHeard wsX2_addHeard (rmD 1) N0 G [.ref b0, .int x, .int v] w vI (fun r w1 => bI false = r ∧ w = w1) 0 0 := by
  refine XM.of (cc := cX2_addHeard) (maxL := 3) (ret := (some .boolean)) (by decide) rfl (Nat.le_of_ble_eq_true rfl) ?_
  intro p e s m below meth c hx hb hr hlk hin0 hml hown hts hN hw hG hS ls hl
  have hown : s.vm.findClass RX2 = some m.cls := hown
  have hiX2 : ∀ x ∈ u_ws RX2 TX2 7, x ∈ wsX2_addHeard := by decide +kernel
  have hlnk0 := hts (.fieldLink RX2 50 "LentQuill$Books" "heard" "I") (by decide +kernel)
  have hl : lh ls 3 [some (.ref b0), some (.int x), some (.int v)] := hl
  obtain ⟨g, fd, fb, hb0, hb1, hb2, hb3, hd6, hh6, hg, hdf, hdw, hhw, hpn⟩ := id hB
  refine xaload_n hx hb dX2_addHeard_0 hl rfl ?_
  refine xget (C := RX2) (T := TX2) (N := 7) hx hb (ci := 2) hts hiX2 hown hG hw (by repeat first | assumption | exact wu_eq _ _ _ | refine wu_ne (by omega) ?_) rfl 4 (by decide) hlnk0 (fun _ h9 => h9) rfl dX2_addHeard_1 ?_
  refine lv_bipush (v := nI 6) hx hb dX2_addHeard_4 (by decide) ?_
  first | refine xcmp_lt (tgt := 11) hx hb dX2_addHeard_6 (by decide) (by omega) (by omega) (fun c6 => ?_) (fun c6 => ?_) | refine lv_icmp_lt (tgt := 11) hx hb dX2_addHeard_6 (by decide) (fun c6 => ?_) (fun c6 => ?_)
  · skip
    exfalso
    omega
  · skip
    refine lv_iconst (v := nI 0) hx hb dX2_addHeard_9 (by decide) ?_
    first | exact xzret hx hb hr hlk hw hS dX2_addHeard_10 true rfl ⟨rfl, rfl⟩ | exact xzret hx hb hr hlk hw hS dX2_addHeard_10 false rfl ⟨rfl, rfl⟩
set_option maxHeartbeats 4000000 in
set_option maxRecDepth 100000 in
theorem kX2_clearHeard (l : Launch) (N0 : Nat) (G : XG) (w : Wd) (b0 : Nat) (pn : Nat → List Nat) (ds : List (Nat × Nat)) (hd : List (Nat × Bool)) (hB : RBooks G w b0 pn ds hd) : XM l yX2_clearHeard wsX2_clearHeard (rmD 1) N0 G [.ref b0] w vV (fun _ w1 => RBooks G w1 b0 pn ds [] ∧ Out w w1 b0 (b0 + 14)) 0 0 := by
  refine XM.of (cc := cX2_clearHeard) (maxL := 1) (ret := none) (by decide) rfl (Nat.le_of_ble_eq_true rfl) ?_
  intro p e s m below meth c hx hb hr hlk hin0 hml hown hts hN hw hG hS ls hl
  have hown : s.vm.findClass RX2 = some m.cls := hown
  have hiX2 : ∀ x ∈ u_ws RX2 TX2 7, x ∈ wsX2_clearHeard := by decide +kernel
  have hlnk0 := hts (.fieldLink RX2 50 "LentQuill$Books" "heard" "I") (by decide +kernel)
  have hlnk1 := hts (.fieldLink RX2 53 "LentQuill$Books" "heardBound" "I") (by decide +kernel)
  have hlnk2 := hts (.fieldLink RX2 56 "LentQuill$Books" "heardUnbound" "I") (by decide +kernel)
  have hl : lh ls 1 [some (.ref b0)] := hl
  obtain ⟨g, fd, fb, hb0, hb1, hb2, hb3, hd6, hh6, hg, hdf, hdw, hhw, hpn⟩ := id hB
  refine xaload_n hx hb dX2_clearHeard_0 hl rfl ?_
  refine lv_iconst (v := nI 0) hx hb dX2_clearHeard_1 (by decide) ?_
  refine xput (C := RX2) (T := TX2) (N := 7) hx hb (ci := 2) (ty := .int) hts hiX2 tyX2 tyX2_ok nmX2 hown hG hw hS (by repeat first | assumption | exact wu_eq _ _ _ | refine wu_ne (by omega) ?_) rfl 4 (by decide) hlnk0 (fun _ h9 => h9) rfl (by decide +kernel) rfl rfl (Nat.le_of_ble_eq_true rfl) dX2_clearHeard_2 (fun H locs hzz hw hS => ?_)
  refine xaload_n hx hb dX2_clearHeard_5 hl rfl ?_
  refine lv_iconst (v := nI 0) hx hb dX2_clearHeard_6 (by decide) ?_
  refine xput (C := RX2) (T := TX2) (N := 7) hx hb (ci := 2) (ty := .int) hts hiX2 tyX2 tyX2_ok nmX2 hown hG hw hS (by repeat first | assumption | exact wu_eq _ _ _ | refine wu_ne (by omega) ?_) rfl 5 (by decide) hlnk1 (fun _ h9 => h9) rfl (by decide +kernel) rfl rfl (Nat.le_of_ble_eq_true rfl) dX2_clearHeard_7 (fun H locs hzz hw hS => ?_)
  refine xaload_n hx hb dX2_clearHeard_10 hl rfl ?_
  refine lv_iconst (v := nI 0) hx hb dX2_clearHeard_11 (by decide) ?_
  refine xput (C := RX2) (T := TX2) (N := 7) hx hb (ci := 2) (ty := .int) hts hiX2 tyX2 tyX2_ok nmX2 hown hG hw hS (by repeat first | assumption | exact wu_eq _ _ _ | refine wu_ne (by omega) ?_) rfl 6 (by decide) hlnk2 (fun _ h9 => h9) rfl (by decide +kernel) rfl rfl (Nat.le_of_ble_eq_true rfl) dX2_clearHeard_12 (fun H locs hzz hw hS => ?_)
  exact xvret hx hb hr hlk hw hS dX2_clearHeard_15 ⟨clearHeard_rep hB hb0, ((Out.rf.wu (by omega) (by omega)).wu (by omega) (by omega)).wu (by omega) (by omega)⟩
set_option maxHeartbeats 4000000 in
set_option maxRecDepth 100000 in
theorem kX2_agreesWithHeard (l : Launch) (N0 : Nat) (G : XG) (w : Wd) (b0 : Nat) (pn : Nat → List Nat) (ds : List (Nat × Nat)) (hd : List (Nat × Bool)) (hB : RBooks G w b0 pn ds hd) (b : Nat) (hb32 : b < 32) : XM l yX2_agreesWithHeard wsX2_agreesWithHeard (rmD 1) N0 G [.ref b0, .int (nI b)] w vI (fun r w1 => bI (okH hd b) = r ∧ w = w1) 0 0 := by
  refine XM.of (cc := cX2_agreesWithHeard) (maxL := 2) (ret := (some .boolean)) (by decide) rfl (Nat.le_of_ble_eq_true rfl) ?_
  intro p e s m below meth c hx hb hr hlk hin0 hml hown hts hN hw hG hS ls hl
  have hown : s.vm.findClass RX2 = some m.cls := hown
  have hiX2 : ∀ x ∈ u_ws RX2 TX2 7, x ∈ wsX2_agreesWithHeard := by decide +kernel
  have hlnk0 := hts (.fieldLink RX2 53 "LentQuill$Books" "heardBound" "I") (by decide +kernel)
  have hlnk1 := hts (.fieldLink RX2 56 "LentQuill$Books" "heardUnbound" "I") (by decide +kernel)
  have hl : lh ls 2 [some (.ref b0), some (.int (nI b))] := hl
  obtain ⟨g, fd, fb, hb0, hb1, hb2, hb3, hd6, hh6, hg, hdf, hdw, hhw, hpn⟩ := id hB
  have hz1 : b &&& hbs hd true < 2 ^ 5 := Nat.lt_of_le_of_lt Nat.and_le_left hb32
  have hz2 : b &&& hbs hd false < 2 ^ 5 := Nat.lt_of_le_of_lt Nat.and_le_left hb32
  have hz3 := hbs_lt true hhw
  refine xiload_n hx hb dX2_agreesWithHeard_0 hl rfl ?_
  refine xaload_n hx hb dX2_agreesWithHeard_1 hl rfl ?_
  refine xget (C := RX2) (T := TX2) (N := 7) hx hb (ci := 2) hts hiX2 hown hG hw (by repeat first | assumption | exact wu_eq _ _ _ | refine wu_ne (by omega) ?_) rfl 5 (by decide) hlnk0 (fun _ h9 => h9) rfl dX2_agreesWithHeard_2 ?_
  first | refine xand hx hb dX2_agreesWithHeard_5 ?_ | refine lv_iand hx hb dX2_agreesWithHeard_5 ?_
  refine xaload_n hx hb dX2_agreesWithHeard_6 hl rfl ?_
  refine xget (C := RX2) (T := TX2) (N := 7) hx hb (ci := 2) hts hiX2 hown hG hw (by repeat first | assumption | exact wu_eq _ _ _ | refine wu_ne (by omega) ?_) rfl 5 (by decide) hlnk0 (fun _ h9 => h9) rfl dX2_agreesWithHeard_7 ?_
  first | refine xcmp_ne (tgt := 26) hx hb dX2_agreesWithHeard_10 (by decide) (by omega) (by omega) (fun c10 => ?_) (fun c10 => ?_) | refine lv_icmp_ne (tgt := 26) hx hb dX2_agreesWithHeard_10 (by decide) (fun c10 => ?_) (fun c10 => ?_)
  · skip
    refine lv_iconst (v := nI 0) hx hb dX2_agreesWithHeard_26 (by decide) ?_
    first | exact xzret hx hb hr hlk hw hS dX2_agreesWithHeard_27 true rfl ⟨congrArg bI ((okH_iff hd b).trans (decide_eq_true ⟨c10, c19⟩)), rfl⟩ | exact xzret hx hb hr hlk hw hS dX2_agreesWithHeard_27 false rfl ⟨congrArg bI ((okH_iff hd b).trans (decide_eq_false (fun h9 => by first | exact c10 h9.1 | exact c19 h9.2))), rfl⟩
  · skip
    refine xiload_n hx hb dX2_agreesWithHeard_13 hl rfl ?_
    refine xaload_n hx hb dX2_agreesWithHeard_14 hl rfl ?_
    refine xget (C := RX2) (T := TX2) (N := 7) hx hb (ci := 2) hts hiX2 hown hG hw (by repeat first | assumption | exact wu_eq _ _ _ | refine wu_ne (by omega) ?_) rfl 6 (by decide) hlnk1 (fun _ h9 => h9) rfl dX2_agreesWithHeard_15 ?_
    first | refine xand hx hb dX2_agreesWithHeard_18 ?_ | refine lv_iand hx hb dX2_agreesWithHeard_18 ?_
    first | refine xifb_ne (tgt := 26) hx hb dX2_agreesWithHeard_19 (by decide) (fun c19 => ?_) (fun c19 => ?_) | refine xif_ne (tgt := 26) hx hb dX2_agreesWithHeard_19 (by decide) (by omega) (fun c19 => ?_) (fun c19 => ?_) | refine lv_if_ne (tgt := 26) hx hb dX2_agreesWithHeard_19 (by decide) (fun c19 => ?_) (fun c19 => ?_)
    · skip
      refine lv_iconst (v := nI 0) hx hb dX2_agreesWithHeard_26 (by decide) ?_
      first | exact xzret hx hb hr hlk hw hS dX2_agreesWithHeard_27 true rfl ⟨congrArg bI ((okH_iff hd b).trans (decide_eq_true ⟨c10, c19⟩)), rfl⟩ | exact xzret hx hb hr hlk hw hS dX2_agreesWithHeard_27 false rfl ⟨congrArg bI ((okH_iff hd b).trans (decide_eq_false (fun h9 => by first | exact c10 h9.1 | exact c19 h9.2))), rfl⟩
    · skip
      refine lv_iconst (v := nI 1) hx hb dX2_agreesWithHeard_22 (by decide) ?_
      refine lv_goto (tgt := 27) hx hb dX2_agreesWithHeard_23 (by decide) ?_
      first | exact xzret hx hb hr hlk hw hS dX2_agreesWithHeard_27 true rfl ⟨congrArg bI ((okH_iff hd b).trans (decide_eq_true ⟨c10, c19⟩)), rfl⟩ | exact xzret hx hb hr hlk hw hS dX2_agreesWithHeard_27 false rfl ⟨congrArg bI ((okH_iff hd b).trans (decide_eq_false (fun h9 => by first | exact c10 h9.1 | exact c19 h9.2))), rfl⟩
set_option maxHeartbeats 4000000 in
set_option maxRecDepth 100000 in
theorem kX2_clear (l : Launch) (N0 : Nat) (G : XG) (w : Wd) (b0 : Nat) (pn : Nat → List Nat) (ds : List (Nat × Nat)) (hd : List (Nat × Bool)) (hB : RBooks G w b0 pn ds hd) : XM l yX2_clear wsX2_clear (rmD 2) N0 G [.ref b0] w vV (fun _ w1 => RBooks G w1 b0 (fun i => [i]) [] [] ∧ Out w w1 b0 (b0 + 14)) 0 0 := by
  refine XM.of (cc := cX2_clear) (maxL := 3) (ret := none) (by decide) rfl (Nat.le_of_ble_eq_true rfl) ?_
  intro p e s m below meth c hx hb hr hlk hin0 hml hown hts hN hw hG hS ls hl
  have hown : s.vm.findClass RX2 = some m.cls := hown
  have hiX2 : ∀ x ∈ u_ws RX2 TX2 7, x ∈ wsX2_clear := by decide +kernel
  have hlnk0 := hts (.fieldLink RX2 11 "LentQuill$Books" "pens" "[LLentQuill$Pen;") (by decide +kernel)
  have hlnk1 := hts (.fieldLink RX2 33 "LentQuill$Books" "deeds" "I") (by decide +kernel)
  have hl : lh ls 3 [some (.ref b0), none, none] := hl
  obtain ⟨g, fd, fb, hb0, hb1, -⟩ := id hB
  refine lv_iconst (v := nI 0) hx hb dX2_clear_0 (by decide) ?_
  refine xistore_n hx hb dX2_clear_1 hl (by decide) rfl (fun ls hl => ?_)
  have loop2 : ∀ (nf : Nat) (i : Nat) (w1 : Wd) (H : Heap) (locs : List Loc) (ls : Array Slot), 5 - i < nf → (i ≤ 5) → (RBooks G w1 b0 (fun j => if j < i then [j] else pn j) ds hd) → (Out w w1 b0 (b0 + 14)) → PW N0 G w1 H → va_S (fun q => N0 ≤ q) s.heap H locs → lh ls 3 [some (.ref b0), some (.int (nI i)), none] → W p l e (rmD 2) s m ([.ref b0] : List Value).toArray below meth c H locs 0 0 (MQ below (XQ N0 G vV (fun _ w1 => RBooks G w1 b0 (fun i => [i]) [] [] ∧ Out w w1 b0 (b0 + 14))) ([.ref b0] : List Value).toArray s 0 0 (fun q => N0 ≤ q)) (F0 m 2 ls []) := by
    intro nf
    induction nf with
    | zero => intros; omega
    | succ nf ih2 =>
      intro i w1 H locs ls hnf hi hB1 hO1 hw hS hl
      obtain ⟨g, fd, fb, hb0, hb1, hb2, hb3, hd6, hh6, hg, hdf, hdw, hhw, hpn⟩ := id hB1
      refine xiload_n hx hb dX2_clear_2 hl rfl ?_
      refine xaload_n hx hb dX2_clear_3 hl rfl ?_
      refine xget (C := RX2) (T := TX2) (N := 7) hx hb (ci := 2) hts hiX2 hown hG hw (by repeat first | assumption | exact wu_eq _ _ _ | refine wu_ne (by omega) ?_) rfl 0 (by decide) hlnk0 (fun _ h9 => h9) rfl dX2_clear_4 ?_
      first | refine xalenI hx hb hG hw (by repeat first | assumption | exact wu_eq _ _ _ | refine wu_ne (by omega) ?_) dX2_clear_7 ?_ | refine xalenP hx hb hG hw (by repeat first | assumption | exact wu_eq _ _ _ | refine wu_ne (by omega) ?_) dX2_clear_7 ?_ | refine xalenN hx hb hG hw (by repeat first | assumption | exact wu_eq _ _ _ | refine wu_ne (by omega) ?_) dX2_clear_7 ?_
      first | refine xcmp_ge (tgt := 32) hx hb dX2_clear_8 (by decide) (by omega) (by omega) (fun c8 => ?_) (fun c8 => ?_) | refine lv_icmp_ge (tgt := 32) hx hb dX2_clear_8 (by decide) (fun c8 => ?_) (fun c8 => ?_)
      · skip
        refine xaload_n hx hb dX2_clear_32 hl rfl ?_
        refine lv_iconst (v := nI 0) hx hb dX2_clear_33 (by decide) ?_
        refine xput (C := RX2) (T := TX2) (N := 7) hx hb (ci := 2) (ty := .int) hts hiX2 tyX2 tyX2_ok nmX2 hown hG hw hS (by repeat first | assumption | exact wu_eq _ _ _ | refine wu_ne (by omega) ?_) rfl 3 (by decide) hlnk1 (fun _ h9 => h9) rfl (by decide +kernel) rfl rfl (Nat.le_of_ble_eq_true rfl) dX2_clear_34 (fun H locs hzz hw hS => ?_)
        refine xaload_n hx hb dX2_clear_37 hl rfl ?_
        have hB2 := clear_mid hB1 hb0 c8
        refine xVv ⟨hx, hb, hml, hown, hts⟩ (kX2_clearHeard l N0 G _ _ _ _ _ hB2) (cwV 0 hts gX2_clear_X2_clearHeard rfl rfl rfl (by decide +kernel) ⟨Nat.le_of_ble_eq_true rfl, Nat.le_of_ble_eq_true rfl⟩) hG hN hw hS (ci := 2) (by repeat first | assumption | exact wu_eq _ _ _ | refine wu_ne (by omega) ?_) rfl rfl hl.1 rfl (Nat.le_of_ble_eq_true rfl) dX2_clear_38 ⟨Nat.le_of_ble_eq_true rfl, Nat.le_of_ble_eq_true rfl⟩ (fun r38 w38 H locs hp38 hw hS => ?_)
        obtain ⟨hB3, hO3⟩ := hp38
        exact xvret hx hb hr hlk hw hS dX2_clear_41 ⟨hB3, (hO1.wu (by omega) (by omega)).tr hO3 (by omega) (by omega)⟩
      · skip
        refine xaload_n hx hb dX2_clear_11 hl rfl ?_
        refine xiload_n hx hb dX2_clear_12 hl rfl ?_
        refine xVr ⟨hx, hb, hml, hown, hts⟩ (kX2_pen l N0 G _ _ (fun j => if j < i then [j] else pn j) ds hd hB1 i c8) (cwV 1 hts gX2_clear_X2_pen rfl rfl rfl (by decide +kernel) ⟨Nat.le_of_ble_eq_true rfl, Nat.le_of_ble_eq_true rfl⟩) hG hN hw hS (ci := 2) (by repeat first | assumption | exact wu_eq _ _ _ | refine wu_ne (by omega) ?_) rfl rfl hl.1 rfl (Nat.le_of_ble_eq_true rfl) dX2_clear_13 ⟨Nat.le_of_ble_eq_true rfl, Nat.le_of_ble_eq_true rfl⟩ (fun r13 w13 H locs hp13 hw hS => ?_)
        obtain ⟨rfl, rfl⟩ := hp13
        refine xrf rfl ?_
        first | refine xastore_n hx hb dX2_clear_16 hl (by decide) rfl (fun ls hl => ?_) | refine xastore_nN hx hb dX2_clear_16 hl (by decide) rfl (fun ls hl => ?_)
        refine xaload_n hx hb dX2_clear_17 hl rfl ?_
        refine lv_ifnull hx hb dX2_clear_18 ?_
        refine xaload_n hx hb dX2_clear_21 hl rfl ?_
        refine xiload_n hx hb dX2_clear_22 hl rfl ?_
        refine xVv ⟨hx, hb, hml, hown, hts⟩ (kX6_startWith l N0 G _ _ _ (hpn i c8) i) (cwV 1 hts gX2_clear_X6_startWith rfl rfl rfl (by decide +kernel) ⟨Nat.le_of_ble_eq_true rfl, Nat.le_of_ble_eq_true rfl⟩) hG hN hw hS (ci := 6) (hpn i c8).cell rfl rfl hl.1 rfl (Nat.le_of_ble_eq_true rfl) dX2_clear_23 ⟨Nat.le_of_ble_eq_true rfl, Nat.le_of_ble_eq_true rfl⟩ (fun r23 w23 H locs hp23 hw hS => ?_)
        obtain ⟨hp1, hO2⟩ := hp23
        first | refine xiincN hx hb 1 dX2_clear_26 hl rfl (by decide) (by decide) rfl (fun ls hl => ?_) | refine xiinc hx hb dX2_clear_26 hl rfl rfl (by decide) rfl (fun ls hl => ?_)
        refine lv_goto (tgt := 2) hx hb dX2_clear_29 (by decide) ?_
        exact ih2 (i + 1) w23 _ _ _ (by omega) (by omega) (clear_step hB1 c8 hp1 hO2) (hO1.tr hO2 (by omega) (by omega)) hw hS (hl.drop 2)
  exact loop2 6 0 w _ _ _ (by omega) (by omega) (by simp; exact hB) Out.rf hw hS hl
set_option maxHeartbeats 4000000 in
set_option maxRecDepth 100000 in
theorem kX2_copyFrom (l : Launch) (N0 : Nat) (G : XG) (w : Wd) (b0 : Nat) (pn : Nat → List Nat) (ds : List (Nat × Nat)) (hd : List (Nat × Bool)) (hB : RBooks G w b0 pn ds hd) (o0 : Nat) (pn2 : Nat → List Nat) (ds2 : List (Nat × Nat)) (hd2 : List (Nat × Bool)) (hB2 : RBooks G w o0 pn2 ds2 hd2) (hne : b0 + 14 ≤ o0 ∨ o0 + 14 ≤ b0) : XM l yX2_copyFrom wsX2_copyFrom (rmD 2) N0 G [.ref b0, .ref o0] w vV (fun _ w1 => RBooks G w1 b0 pn2 ds2 hd2 ∧ Out w w1 b0 (b0 + 14)) 0 0 := by
  refine XM.of (cc := cX2_copyFrom) (maxL := 5) (ret := none) (by decide) rfl (Nat.le_of_ble_eq_true rfl) ?_
  intro p e s m below meth c hx hb hr hlk hin0 hml hown hts hN hw hG hS ls hl
  have hown : s.vm.findClass RX2 = some m.cls := hown
  have hiX2 : ∀ x ∈ u_ws RX2 TX2 7, x ∈ wsX2_copyFrom := by decide +kernel
  have hlnk0 := hts (.fieldLink RX2 11 "LentQuill$Books" "pens" "[LLentQuill$Pen;") (by decide +kernel)
  have hlnk1 := hts (.fieldLink RX2 17 "LentQuill$Books" "debts" "[I") (by decide +kernel)
  have hlnk2 := hts (.methodLink RX2 44 arraycopyName) (by decide +kernel)
  have hlnk3 := hts (.native arraycopyName) (by decide +kernel)
  have hlnk4 := hts (.static arraycopyName) (by decide +kernel)
  have hlnk5 := hts (.initialized "java/lang/System") (by decide +kernel)
  have hlnk6 := hts (.fieldLink RX2 21 "LentQuill$Books" "bound" "[I") (by decide +kernel)
  have hlnk7 := hts (.fieldLink RX2 33 "LentQuill$Books" "deeds" "I") (by decide +kernel)
  have hlnk8 := hts (.fieldLink RX2 50 "LentQuill$Books" "heard" "I") (by decide +kernel)
  have hlnk9 := hts (.fieldLink RX2 53 "LentQuill$Books" "heardBound" "I") (by decide +kernel)
  have hlnk10 := hts (.fieldLink RX2 56 "LentQuill$Books" "heardUnbound" "I") (by decide +kernel)
  have hl : lh ls 5 [some (.ref b0), some (.ref o0), none, none, none] := hl
  refine lv_iconst (v := nI 0) hx hb dX2_copyFrom_0 (by decide) ?_
  refine xistore_n hx hb dX2_copyFrom_1 hl (by decide) rfl (fun ls hl => ?_)
  have loop2 : ∀ (nf : Nat) (i : Nat) (w1 : Wd) (H : Heap) (locs : List Loc) (ls : Array Slot), 5 - i < nf → (i ≤ 5) → (RBooks G w1 b0 (fun j => if j < i then pn2 j else pn j) ds hd) → (RBooks G w1 o0 pn2 ds2 hd2) → (Out w w1 b0 (b0 + 14)) → PW N0 G w1 H → va_S (fun q => N0 ≤ q) s.heap H locs → lh ls 5 [some (.ref b0), some (.ref o0), some (.int (nI i)), none, none] → W p l e (rmD 2) s m ([.ref b0, .ref o0] : List Value).toArray below meth c H locs 0 0 (MQ below (XQ N0 G vV (fun _ w1 => RBooks G w1 b0 pn2 ds2 hd2 ∧ Out w w1 b0 (b0 + 14))) ([.ref b0, .ref o0] : List Value).toArray s 0 0 (fun q => N0 ≤ q)) (F0 m 2 ls []) := by
    intro nf
    induction nf with
    | zero => intros; omega
    | succ nf ih2 =>
      intro i w1 H locs ls hnf hi hB1 hC hO1 hw hS hl
      obtain ⟨g, fd, fb, hb0, hb1, hb2, hb3, hd6, hh6, hg, hdf, hdw, hhw, hpn⟩ := id hB1
      obtain ⟨g2, fd2, fb2, hc0, hc1, hc2, hc3, hd62, hh62, hg2, hdf2, hdw2, hhw2, hpn2⟩ := id hC
      refine xiload_n hx hb dX2_copyFrom_2 hl rfl ?_
      refine xaload_n hx hb dX2_copyFrom_3 hl rfl ?_
      refine xget (C := RX2) (T := TX2) (N := 7) hx hb (ci := 2) hts hiX2 hown hG hw (by repeat first | assumption | exact wu_eq _ _ _ | refine wu_ne (by omega) ?_) rfl 0 (by decide) hlnk0 (fun _ h9 => h9) rfl dX2_copyFrom_4 ?_
      first | refine xalenI hx hb hG hw (by repeat first | assumption | exact wu_eq _ _ _ | refine wu_ne (by omega) ?_) dX2_copyFrom_7 ?_ | refine xalenP hx hb hG hw (by repeat first | assumption | exact wu_eq _ _ _ | refine wu_ne (by omega) ?_) dX2_copyFrom_7 ?_ | refine xalenN hx hb hG hw (by repeat first | assumption | exact wu_eq _ _ _ | refine wu_ne (by omega) ?_) dX2_copyFrom_7 ?_
      first | refine xcmp_ge (tgt := 45) hx hb dX2_copyFrom_8 (by decide) (by omega) (by omega) (fun c8 => ?_) (fun c8 => ?_) | refine lv_icmp_ge (tgt := 45) hx hb dX2_copyFrom_8 (by decide) (fun c8 => ?_) (fun c8 => ?_)
      · skip
        refine xaload_n hx hb dX2_copyFrom_45 hl rfl ?_
        refine xget (C := RX2) (T := TX2) (N := 7) hx hb (ci := 2) hts hiX2 hown hG hw (by repeat first | assumption | exact wu_eq _ _ _ | refine wu_ne (by omega) ?_) rfl 1 (by decide) hlnk1 (fun _ h9 => h9) rfl dX2_copyFrom_46 ?_
        refine lv_iconst (v := nI 0) hx hb dX2_copyFrom_49 (by decide) ?_
        refine xaload_n hx hb dX2_copyFrom_50 hl rfl ?_
        refine xget (C := RX2) (T := TX2) (N := 7) hx hb (ci := 2) hts hiX2 hown hG hw (by repeat first | assumption | exact wu_eq _ _ _ | refine wu_ne (by omega) ?_) rfl 1 (by decide) hlnk1 (fun _ h9 => h9) rfl dX2_copyFrom_51 ?_
        refine lv_iconst (v := nI 0) hx hb dX2_copyFrom_54 (by decide) ?_
        refine xaload_n hx hb dX2_copyFrom_55 hl rfl ?_
        refine xget (C := RX2) (T := TX2) (N := 7) hx hb (ci := 2) hts hiX2 hown hG hw (by repeat first | assumption | exact wu_eq _ _ _ | refine wu_ne (by omega) ?_) rfl 1 (by decide) hlnk1 (fun _ h9 => h9) rfl dX2_copyFrom_56 ?_
        first | refine xalenI hx hb hG hw (by repeat first | assumption | exact wu_eq _ _ _ | refine wu_ne (by omega) ?_) dX2_copyFrom_59 ?_ | refine xalenP hx hb hG hw (by repeat first | assumption | exact wu_eq _ _ _ | refine wu_ne (by omega) ?_) dX2_copyFrom_59 ?_ | refine xalenN hx hb hG hw (by repeat first | assumption | exact wu_eq _ _ _ | refine wu_ne (by omega) ?_) dX2_copyFrom_59 ?_
        refine xcopy hx hb hml hl.1 hown hlnk2 hlnk3 hlnk4 hlnk5 hG hw hS (by repeat first | assumption | exact wu_eq _ _ _ | refine wu_ne (by omega) ?_) (by repeat first | assumption | exact wu_eq _ _ _ | refine wu_ne (by omega) ?_) (by omega) (by omega) (by omega) (Nat.le_of_ble_eq_true rfl) (Nat.le_of_ble_eq_true rfl) dX2_copyFrom_60 (fun H locs hzz hw hS => ?_)
        refine xaload_n hx hb dX2_copyFrom_63 hl rfl ?_
        refine xget (C := RX2) (T := TX2) (N := 7) hx hb (ci := 2) hts hiX2 hown hG hw (by repeat first | assumption | exact wu_eq _ _ _ | refine wu_ne (by omega) ?_) rfl 2 (by decide) hlnk6 (fun _ h9 => h9) rfl dX2_copyFrom_64 ?_
        refine lv_iconst (v := nI 0) hx hb dX2_copyFrom_67 (by decide) ?_
        refine xaload_n hx hb dX2_copyFrom_68 hl rfl ?_
        refine xget (C := RX2) (T := TX2) (N := 7) hx hb (ci := 2) hts hiX2 hown hG hw (by repeat first | assumption | exact wu_eq _ _ _ | refine wu_ne (by omega) ?_) rfl 2 (by decide) hlnk6 (fun _ h9 => h9) rfl dX2_copyFrom_69 ?_
        refine lv_iconst (v := nI 0) hx hb dX2_copyFrom_72 (by decide) ?_
        refine xaload_n hx hb dX2_copyFrom_73 hl rfl ?_
        refine xget (C := RX2) (T := TX2) (N := 7) hx hb (ci := 2) hts hiX2 hown hG hw (by repeat first | assumption | exact wu_eq _ _ _ | refine wu_ne (by omega) ?_) rfl 2 (by decide) hlnk6 (fun _ h9 => h9) rfl dX2_copyFrom_74 ?_
        first | refine xalenI hx hb hG hw (by repeat first | assumption | exact wu_eq _ _ _ | refine wu_ne (by omega) ?_) dX2_copyFrom_77 ?_ | refine xalenP hx hb hG hw (by repeat first | assumption | exact wu_eq _ _ _ | refine wu_ne (by omega) ?_) dX2_copyFrom_77 ?_ | refine xalenN hx hb hG hw (by repeat first | assumption | exact wu_eq _ _ _ | refine wu_ne (by omega) ?_) dX2_copyFrom_77 ?_
        refine xcopy hx hb hml hl.1 hown hlnk2 hlnk3 hlnk4 hlnk5 hG hw hS (by repeat first | assumption | exact wu_eq _ _ _ | refine wu_ne (by omega) ?_) (by repeat first | assumption | exact wu_eq _ _ _ | refine wu_ne (by omega) ?_) (by omega) (by omega) (by omega) (Nat.le_of_ble_eq_true rfl) (Nat.le_of_ble_eq_true rfl) dX2_copyFrom_78 (fun H locs hzz hw hS => ?_)
        refine xaload_n hx hb dX2_copyFrom_81 hl rfl ?_
        refine xaload_n hx hb dX2_copyFrom_82 hl rfl ?_
        refine xget (C := RX2) (T := TX2) (N := 7) hx hb (ci := 2) hts hiX2 hown hG hw (by repeat first | assumption | exact wu_eq _ _ _ | refine wu_ne (by omega) ?_) rfl 3 (by decide) hlnk7 (fun _ h9 => h9) rfl dX2_copyFrom_83 ?_
        refine xput (C := RX2) (T := TX2) (N := 7) hx hb (ci := 2) (ty := .int) hts hiX2 tyX2 tyX2_ok nmX2 hown hG hw hS (by repeat first | assumption | exact wu_eq _ _ _ | refine wu_ne (by omega) ?_) rfl 3 (by decide) hlnk7 (fun _ h9 => h9) rfl (by decide +kernel) rfl rfl (Nat.le_of_ble_eq_true rfl) dX2_copyFrom_86 (fun H locs hzz hw hS => ?_)
        refine xaload_n hx hb dX2_copyFrom_89 hl rfl ?_
        refine xaload_n hx hb dX2_copyFrom_90 hl rfl ?_
        refine xget (C := RX2) (T := TX2) (N := 7) hx hb (ci := 2) hts hiX2 hown hG hw (by repeat first | assumption | exact wu_eq _ _ _ | refine wu_ne (by omega) ?_) rfl 4 (by decide) hlnk8 (fun _ h9 => h9) rfl dX2_copyFrom_91 ?_
        refine xput (C := RX2) (T := TX2) (N := 7) hx hb (ci := 2) (ty := .int) hts hiX2 tyX2 tyX2_ok nmX2 hown hG hw hS (by repeat first | assumption | exact wu_eq _ _ _ | refine wu_ne (by omega) ?_) rfl 4 (by decide) hlnk8 (fun _ h9 => h9) rfl (by decide +kernel) rfl rfl (Nat.le_of_ble_eq_true rfl) dX2_copyFrom_94 (fun H locs hzz hw hS => ?_)
        refine xaload_n hx hb dX2_copyFrom_97 hl rfl ?_
        refine xaload_n hx hb dX2_copyFrom_98 hl rfl ?_
        refine xget (C := RX2) (T := TX2) (N := 7) hx hb (ci := 2) hts hiX2 hown hG hw (by repeat first | assumption | exact wu_eq _ _ _ | refine wu_ne (by omega) ?_) rfl 5 (by decide) hlnk9 (fun _ h9 => h9) rfl dX2_copyFrom_99 ?_
        refine xput (C := RX2) (T := TX2) (N := 7) hx hb (ci := 2) (ty := .int) hts hiX2 tyX2 tyX2_ok nmX2 hown hG hw hS (by repeat first | assumption | exact wu_eq _ _ _ | refine wu_ne (by omega) ?_) rfl 5 (by decide) hlnk9 (fun _ h9 => h9) rfl (by decide +kernel) rfl rfl (Nat.le_of_ble_eq_true rfl) dX2_copyFrom_102 (fun H locs hzz hw hS => ?_)
        refine xaload_n hx hb dX2_copyFrom_105 hl rfl ?_
        refine xaload_n hx hb dX2_copyFrom_106 hl rfl ?_
        refine xget (C := RX2) (T := TX2) (N := 7) hx hb (ci := 2) hts hiX2 hown hG hw (by repeat first | assumption | exact wu_eq _ _ _ | refine wu_ne (by omega) ?_) rfl 6 (by decide) hlnk10 (fun _ h9 => h9) rfl dX2_copyFrom_107 ?_
        refine xput (C := RX2) (T := TX2) (N := 7) hx hb (ci := 2) (ty := .int) hts hiX2 tyX2 tyX2_ok nmX2 hown hG hw hS (by repeat first | assumption | exact wu_eq _ _ _ | refine wu_ne (by omega) ?_) rfl 6 (by decide) hlnk10 (fun _ h9 => h9) rfl (by decide +kernel) rfl rfl (Nat.le_of_ble_eq_true rfl) dX2_copyFrom_110 (fun H locs hzz hw hS => ?_)
        exact xvret hx hb hr hlk hw hS dX2_copyFrom_113 ⟨copy_rep (fd := fd) (fb := fb) (fd2 := fd2) (fb2 := fb2) hB1 c8 hd62 hh62 hdf2 hdw2 hhw2 (by repeat first | assumption | exact wu_eq _ _ _ | refine wu_ne (by omega) ?_) (by repeat first | assumption | exact wu_eq _ _ _ | refine wu_ne (by omega) ?_) (by repeat first | assumption | exact wu_eq _ _ _ | refine wu_ne (by omega) ?_) (fun a h1 h2 h3 => by rw [wu_nq h1, wu_nq h1, wu_nq h1, wu_nq h1, wu_nq h3, wu_nq h2]), ((((((hO1.wu (by omega) (by omega)).wu (by omega) (by omega)).wu (by omega) (by omega)).wu (by omega) (by omega)).wu (by omega) (by omega)).wu (by omega) (by omega))⟩
      · skip
        refine xaload_n hx hb dX2_copyFrom_11 hl rfl ?_
        refine xiload_n hx hb dX2_copyFrom_12 hl rfl ?_
        refine xVr ⟨hx, hb, hml, hown, hts⟩ (kX2_pen l N0 G _ _ (fun j => if j < i then pn2 j else pn j) ds hd hB1 i c8) (cwV 1 hts gX2_copyFrom_X2_pen rfl rfl rfl (by decide +kernel) ⟨Nat.le_of_ble_eq_true rfl, Nat.le_of_ble_eq_true rfl⟩) hG hN hw hS (ci := 2) (by repeat first | assumption | exact wu_eq _ _ _ | refine wu_ne (by omega) ?_) rfl rfl hl.1 rfl (Nat.le_of_ble_eq_true rfl) dX2_copyFrom_13 ⟨Nat.le_of_ble_eq_true rfl, Nat.le_of_ble_eq_true rfl⟩ (fun r13 w13 H locs hp13 hw hS => ?_)
        obtain ⟨rfl, rfl⟩ := hp13
        refine xrf rfl ?_
        first | refine xastore_n hx hb dX2_copyFrom_16 hl (by decide) rfl (fun ls hl => ?_) | refine xastore_nN hx hb dX2_copyFrom_16 hl (by decide) rfl (fun ls hl => ?_)
        refine xaload_n hx hb dX2_copyFrom_17 hl rfl ?_
        refine xiload_n hx hb dX2_copyFrom_18 hl rfl ?_
        refine xVr ⟨hx, hb, hml, hown, hts⟩ (kX2_pen l N0 G _ _ pn2 ds2 hd2 hC i c8) (cwV 1 hts gX2_copyFrom_X2_pen rfl rfl rfl (by decide +kernel) ⟨Nat.le_of_ble_eq_true rfl, Nat.le_of_ble_eq_true rfl⟩) hG hN hw hS (ci := 2) (by repeat first | assumption | exact wu_eq _ _ _ | refine wu_ne (by omega) ?_) rfl rfl hl.1 rfl (Nat.le_of_ble_eq_true rfl) dX2_copyFrom_19 ⟨Nat.le_of_ble_eq_true rfl, Nat.le_of_ble_eq_true rfl⟩ (fun r19 w19 H locs hp19 hw hS => ?_)
        obtain ⟨rfl, rfl⟩ := hp19
        refine xrf rfl ?_
        refine xastore hx hb dX2_copyFrom_22 hl (by decide) rfl (fun ls hl => ?_)
        refine xaload_n hx hb dX2_copyFrom_24 hl rfl ?_
        refine lv_ifnull hx hb dX2_copyFrom_25 ?_
        refine xaload hx hb dX2_copyFrom_28 hl rfl ?_
        refine lv_ifnull hx hb dX2_copyFrom_30 ?_
        refine xaload_n hx hb dX2_copyFrom_33 hl rfl ?_
        refine xaload hx hb dX2_copyFrom_34 hl rfl ?_
        refine xVv ⟨hx, hb, hml, hown, hts⟩ (kX6_copyFrom l N0 G _ _ _ (hpn i c8) _ _ (hpn2 i c8) (by omega)) (cwV 1 hts gX2_copyFrom_X6_copyFrom rfl rfl rfl (by decide +kernel) ⟨Nat.le_of_ble_eq_true rfl, Nat.le_of_ble_eq_true rfl⟩) hG hN hw hS (ci := 6) (hpn i c8).cell rfl rfl hl.1 rfl (Nat.le_of_ble_eq_true rfl) dX2_copyFrom_36 ⟨Nat.le_of_ble_eq_true rfl, Nat.le_of_ble_eq_true rfl⟩ (fun r36 w36 H locs hp36 hw hS => ?_)
        obtain ⟨hp1, hO2⟩ := hp36
        first | refine xiincN hx hb 1 dX2_copyFrom_39 hl rfl (by decide) (by decide) rfl (fun ls hl => ?_) | refine xiinc hx hb dX2_copyFrom_39 hl rfl rfl (by decide) rfl (fun ls hl => ?_)
        refine lv_goto (tgt := 2) hx hb dX2_copyFrom_42 (by decide) ?_
        exact ih2 (i + 1) w36 _ _ _ (by omega) (by omega) (copy_step hB1 c8 hp1 hO2) (hC.out hO2 (by omega)) (hO1.tr hO2 (by omega) (by omega)) hw hS ((hl.drop 3).drop 4)
  exact loop2 6 0 w _ _ _ (by omega) (by omega) (by simp; exact hB) hB2 Out.rf hw hS hl
