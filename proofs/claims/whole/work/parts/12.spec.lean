/-! ===== what the town means: plain functions on numbers ===== -/
abbrev PK : Type := List (Nat × Nat)
def kd (P : PK) (i : Nat) : Nat := (P.getD i (0, 0)).1
def wo (P : PK) (i : Nat) : Nat := (P.getD i (0, 0)).2
def wrt (P : PK) (i : Nat) : Nat := if kd P i = 4 then 2 * wo P i else wo P i
/-- the class of a kind -/
def pci (k : Nat) : Nat := if k = 0 then 7 else if k = 1 then 1 else if k = 2 then 9 else if k = 3 then 3 else 0
def chu (k : Nat) : Bool := decide (k = 1 ∨ k = 4)
/-- how many of five bits -/
def pcN (n : Nat) : Nat := n % 2 + n / 2 % 2 + n / 4 % 2 + n / 8 % 2 + n / 16 % 2
/-- each once, as first -/
def dd : List Nat → List Nat
  | [] => []
  | x :: l => x :: (dd l).filter (fun y => decide (y ≠ x))
/-- who is bound, of those who had it, each once, the last first -/
def bth (P : PK) : Nat → List Nat → Nat
  | 0, _ => 0
  | _ + 1, [] => 0
  | n + 1, x :: l => (if kd P x = 3 then 0 else 2 ^ x) ||| (if kd P x = 2 then 0 else bth P n l)
def bnd (P : PK) (lim : Nat) (h : List Nat) : Nat := bth P lim (dd h)
/-- may a pen go to t -/
def mayL (P : PK) (h : List Nat) (t : Nat) : Bool := decide (h.getD 0 0 ≠ t ∧ chu (kd P (h.getD 0 0)) = false ∧ h.length ≤ 40)
def ends (P : PK) : Nat → List Nat → List (List Nat)
  | 0, h => [h]
  | t + 1, h => (List.range P.length).flatMap (fun x => if mayL P h x = true then ends P t (x :: h) else [])
def okH (hd : List (Nat × Bool)) (b : Nat) : Bool := hd.all (fun q => b.testBit q.1 == q.2)
def gend (P : PK) (lim : Nat) (hd : List (Nat × Bool)) (t : Nat) (h : List Nat) : List (List Nat) := (ends P t h).filter (fun g => okH hd (bnd P lim g))
def orH (l : List (List Nat)) : Nat := l.foldl (fun a g => a ||| 2 ^ (g.getD 0 0)) 0
def cntB (P : PK) (lim : Nat) (l : List (List Nat)) (i : Nat) : Nat := l.countP (fun g => (bnd P lim g).testBit i)
def askGo (f : Nat → Nat) : Nat → Option (Nat × Nat)
  | 0 => none
  | n + 1 => match askGo f n with
    | none => some (n, f n)
    | some q => if f n < q.2 then some (n, f n) else some q
def reach (P : PK) (lim st : Nat) : Nat → List Nat → Bool
  | 0, h => decide (bnd P lim h = st)
  | t + 1, h => (List.range P.length).any (fun x => mayL P h x && reach P lim st t (x :: h))
def wfst (P : PK) (lim st : Nat) (h : List Nat) : Nat → Option Nat
  | 0 => none
  | t + 1 => (List.range P.length).find? (fun x => mayL P h x && reach P lim st t (x :: h))
/-- by how few times, of those from t on, n of them -/
def wgo (P : PK) (lim st : Nat) (h : List Nat) : Nat → Nat → Option Nat
  | 0, _ => none
  | n + 1, t => if reach P lim st t h = true then some t else wgo P lim st h n (t + 1)
def brk (ds : List (Nat × Nat)) (st : Nat) : Bool := ds.all (fun d => decide (d.2 = 0) || decide (d.2 &&& st ≠ 0))
def fGo (ok : Nat → Bool) : Nat → Option Nat
  | 0 => none
  | m + 1 => match fGo ok m with
    | none => if ok m = true then some m else none
    | some b => if pcN m < pcN b ∧ ok m = true then some m else some b
def owe (ds : List (Nat × Nat)) (p : Nat) : Nat := (ds.map (fun d => if d.2.testBit p = true then 60 * d.1 / pcN d.2 else 0)).sum
/-- raw numbers that name one of n -/
abbrev inR (x : Int32) (n : Nat) : Prop := 0 ≤ x.toInt ∧ x.toInt < (n : Int)
theorem inR_nI {j n : Nat} (h : j < n) (hn : n < 2 ^ 31) : inR (nI j) n := by
  unfold inR
  rw [nI_toInt (by omega)]
  omega
theorem inR_of {x : Int32} {n : Nat} (h : inR x n) : ∃ j, j < n ∧ x = nI j := by
  obtain ⟨h1, h2⟩ := h
  have hx : ¬ x < 0 := by rw [Int32.lt_iff_toInt_lt]; simp; exact h1
  obtain ⟨j, hj, e⟩ := nI_of hx
  subst e
  rw [nI_toInt hj] at h2
  exact ⟨j, by omega, rfl⟩
theorem inR_lt {x : Int32} {n : Nat} (h0 : ¬ x < 0) (h1 : ¬ nI n ≤ x) (hn : n < 2 ^ 31) : inR x n := by
  obtain ⟨j, hj, e⟩ := nI_of h0
  subst e
  refine inR_nI ?_ hn
  rcases Nat.lt_or_ge j n with h | h
  · exact h
  · exact absurd (nI_le h hj) h1
theorem kd_cases {P : PK} {i : Nat} (h : kd P i ≤ 4) : kd P i = 0 ∨ kd P i = 1 ∨ kd P i = 2 ∨ kd P i = 3 ∨ kd P i = 4 := by omega
/-- the town's object at t, its row behind it; the people from Z on -/
def RTown (G : XG) (w : Wd) (t Z : Nat) (P : PK) (lim : Nat) : Prop := ∃ g : Nat → Option Nat, w t = some (eO 10 [.ref (t + 1), .int (nI P.length), .int (nI lim)]) ∧ w (t + 1) = some (eP G 5 g) ∧ P.length ≤ 5 ∧ lim ≤ 5 ∧ ∀ i, i < P.length → kd P i ≤ 4 ∧ wo P i ≤ 9 ∧ ∃ q, g i = some q ∧ Z ≤ q ∧ w q = some (eO (pci (kd P i)) [.int (nI (wo P i))])
theorem RTown.out {G : XG} {w w1 : Wd} {t Z lo hi : Nat} {P : PK} {lim : Nat} (h : RTown G w t Z P lim) (ho : Out w w1 lo hi) (hd : t + 2 ≤ lo ∨ hi ≤ t) (hz : hi ≤ Z) : RTown G w1 t Z P lim := by
  obtain ⟨g, a, b, c, d, f⟩ := h
  refine ⟨g, (ho _ (by omega)).trans a, (ho _ (by omega)).trans b, c, d, fun i hi2 => ?_⟩
  obtain ⟨f1, f2, q, f3, f4, f5⟩ := f i hi2
  exact ⟨f1, f2, q, f3, f4, (ho _ (by omega)).trans f5⟩
theorem RTown.cell {G : XG} {w : Wd} {t Z : Nat} {P : PK} {lim : Nat} (h : RTown G w t Z P lim) : w t = some (eO 10 [.ref (t + 1), .int (nI P.length), .int (nI lim)]) := h.choose_spec.1
theorem RTown.five {G : XG} {w : Wd} {t Z : Nat} {P : PK} {lim : Nat} (h : RTown G w t Z P lim) : P.length ≤ 5 ∧ lim ≤ 5 := ⟨h.choose_spec.2.2.1, h.choose_spec.2.2.2.1⟩
theorem RTown.kd {G : XG} {w : Wd} {t Z : Nat} {P : PK} {lim : Nat} (h : RTown G w t Z P lim) {i : Nat} (hi : i < P.length) : kd P i ≤ 4 ∧ wo P i ≤ 9 := ⟨(h.choose_spec.2.2.2.2 i hi).1, (h.choose_spec.2.2.2.2 i hi).2.1⟩
theorem testBit_dm (s x : Nat) : s.testBit x = decide (s / 2 ^ x % 2 = 1) := Nat.testBit_eq_decide_div_mod_eq
theorem p2_lt {x : Nat} (h : x < 5) : 2 ^ x ≤ 16 := by
  rcases (show x = 0 ∨ x = 1 ∨ x = 2 ∨ x = 3 ∨ x = 4 by omega) with rfl | rfl | rfl | rfl | rfl <;> decide
theorem or32 {a b : Nat} (ha : a < 32) (hb : b < 32) : a ||| b < 32 := Nat.or_lt_two_pow (n := 5) ha hb
theorem pcN_add : ∀ s, s < 32 → ∀ x, x < 5 → s.testBit x = false → pcN (s ||| 2 ^ x) = pcN s + 1 := by decide +kernel
theorem pcN_le (s : Nat) : pcN s ≤ 5 := by unfold pcN; omega
