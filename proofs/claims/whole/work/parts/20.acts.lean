/-! ===== the town's acts, as plain functions; the class's object ===== -/
def ix (x : Int32) : Nat := x.toNatClampNeg
def onR {α : Type} (x : Int32) (n : Nat) (a : Nat → α) (b : α) : α := if 0 ≤ x.toInt ∧ x.toInt < (n : Int) then a (ix x) else b
theorem onR_in {α : Type} {i n : Nat} (hi : i < n) (h31 : i < 2 ^ 31) (a : Nat → α) (b : α) : onR (nI i) n a b = a i := by
  unfold onR ix
  rw [nI_toInt h31, nI_clamp h31, if_pos (by omega)]
theorem onR_out {α : Type} {x : Int32} {n : Nat} (h : ¬ inR x n) (a : Nat → α) (b : α) : onR x n a b = b := if_neg h
theorem inR_or (x : Int32) (n : Nat) : (∃ i, i < n ∧ i < 2 ^ 31 ∧ x = nI i) ∨ ¬ inR x n := by
  by_cases h : inR x n
  · obtain ⟨h1, h2⟩ := h
    have hx : ¬ x < 0 := by rw [Int32.lt_iff_toInt_lt]; simp; exact h1
    obtain ⟨j, hj, e⟩ := nI_of hx
    subst e
    rw [nI_toInt hj] at h2
    exact Or.inl ⟨j, by omega, hj, rfl⟩
  · exact Or.inr h
theorem sw2 (x : Int32) : x = nI 0 ∨ x = nI 1 ∨ ¬ inR x 2 := by
  rcases inR_or x 2 with ⟨i, h1, -, rfl⟩ | h
  · rcases (show i = 0 ∨ i = 1 by omega) with rfl | rfl <;> simp
  · exact Or.inr (Or.inr h)
theorem sw3 (x : Int32) : x = nI 0 ∨ x = nI 1 ∨ x = nI 2 ∨ ¬ inR x 3 := by
  rcases inR_or x 3 with ⟨i, h1, -, rfl⟩ | h
  · rcases (show i = 0 ∨ i = 1 ∨ i = 2 by omega) with rfl | rfl | rfl <;> simp
  · exact Or.inr (Or.inr (Or.inr h))
theorem sw5 (x : Int32) : x = nI 0 ∨ x = nI 1 ∨ x = nI 2 ∨ x = nI 3 ∨ x = nI 4 ∨ ¬ inR x 5 := by
  rcases inR_or x 5 with ⟨i, h1, -, rfl⟩ | h
  · rcases (show i = 0 ∨ i = 1 ∨ i = 2 ∨ i = 3 ∨ i = 4 by omega) with rfl | rfl | rfl | rfl | rfl <;> simp
  · exact Or.inr (Or.inr (Or.inr (Or.inr (Or.inr h))))
theorem sw6 (x : Int32) : x = nI 0 ∨ x = nI 1 ∨ x = nI 2 ∨ x = nI 3 ∨ x = nI 4 ∨ x = nI 5 ∨ ¬ inR x 6 := by
  rcases inR_or x 6 with ⟨i, h1, -, rfl⟩ | h
  · rcases (show i = 0 ∨ i = 1 ∨ i = 2 ∨ i = 3 ∨ i = 4 ∨ i = 5 by omega) with rfl | rfl | rfl | rfl | rfl | rfl <;> simp
  · exact Or.inr (Or.inr (Or.inr (Or.inr (Or.inr (Or.inr h)))))
theorem sw9 (x : Int32) : x = nI 0 ∨ x = nI 1 ∨ x = nI 2 ∨ x = nI 3 ∨ x = nI 4 ∨ x = nI 5 ∨ x = nI 6 ∨ x = nI 7 ∨ x = nI 8 ∨ ¬ inR x 9 := by
  rcases inR_or x 9 with ⟨i, h1, -, rfl⟩ | h
  · rcases (show i = 0 ∨ i = 1 ∨ i = 2 ∨ i = 3 ∨ i = 4 ∨ i = 5 ∨ i = 6 ∨ i = 7 ∨ i = 8 by omega) with rfl | rfl | rfl | rfl | rfl | rfl | rfl | rfl | rfl <;> simp
  · exact Or.inr (Or.inr (Or.inr (Or.inr (Or.inr (Or.inr (Or.inr (Or.inr (Or.inr h))))))))
theorem tab_out {x : Int32} {n : Nat} (h : ¬ inR x n) {hi : Int} (e : hi = (n : Int) - 1) : x.toInt < 0 ∨ hi < x.toInt := by
  subst e
  rcases Int.lt_or_le x.toInt 0 with q | q
  · exact Or.inl q
  · refine Or.inr ?_
    have : ¬ x.toInt < (n : Int) := fun z => h ⟨q, z⟩
    omega
/-- pens, deeds, what is heard -/
abbrev Bk : Type := (Nat → List Nat) × List (Nat × Nat) × List (Nat × Bool)
/-- the page, the people, the limit, the books, the image, how often a town was read, how often way() was done -/
abbrev QS : Type := List Nat × PK × Nat × Bk × Option Bk × Nat × Nat
def sg (S : QS) : List Nat := S.1
def sP (S : QS) : PK := S.2.1
def sL (S : QS) : Nat := S.2.2.1
def sB (S : QS) : Bk := S.2.2.2.1
def sI (S : QS) : Option Bk := S.2.2.2.2.1
def sT (S : QS) : Nat := S.2.2.2.2.2.1
def sA (S : QS) : Nat := S.2.2.2.2.2.2
def sn (S : QS) : Nat := (sP S).length
def sp (S : QS) (i : Nat) : List Nat := (sB S).1 i
def sd (S : QS) : List (Nat × Nat) := (sB S).2.1
def sh (S : QS) : List (Nat × Bool) := (sB S).2.2
def stB (S : QS) (B : Bk) : QS := (S.1, S.2.1, S.2.2.1, B, S.2.2.2.2)
def lentN (B : Bk) (n : Nat) : Nat := sumTo (fun i => (B.1 i).length - 1) n
def oneV (S : QS) (p k : Nat) : Int32 := if k = 0 then nI (kd (sP S) p) else if k = 1 then nI (wrt (sP S) p) else if k = 2 then nI ((sp S p).getD 0 0) else if k = 3 then nI (bnd (sP S) (sL S) (sp S p)) else if k = 4 then nI (sumTo (fun i => if (sp S i).getD 0 0 = p then 1 else 0) (sn S)) else nI (sumTo (fun i => if (bd (sd S) i).testBit p = true then 1 else 0) (sd S).length)
def v_about (S : QS) (x y : Int32) : Int32 := onR x (sn S) (fun p => onR y 6 (fun k => oneV S p k) (-102)) (-101)
def v_as (S : QS) (x y : Int32) : Int32 := onR x (sn S) (fun p => onR y 5 (fun k => if k = 0 ∨ kd (sP S) p = k ∨ (k = 1 ∧ kd (sP S) p = 4) then nI p else -1) (-102)) (-101)
def lendS (S : QS) (p t : Nat) : QS := stB S (va_up (sB S).1 p (t :: sp S p), (sB S).2)
def lendN (S : QS) (p t : Nat) : Int32 × QS := if (sp S p).getD 0 0 ≠ t ∧ chu (kd (sP S) ((sp S p).getD 0 0)) = false then (if 41 ≤ (sp S p).length then (-104, S) else (nI (bnd (sP S) (sL S) (t :: sp S p)), lendS S p t)) else (-103, S)
def o_lend (S : QS) (x y : Int32) : Int32 × QS := onR x (sn S) (fun p => onR y (sn S) (fun t => lendN S p t) (-101, S)) (-101, S)
def v_had (S : QS) (x y : Int32) : Int32 := onR x (sn S) (fun p => onR y 41 (fun k => if k < (sp S p).length then nI ((sp S p).getD k 0) else -1) (-102)) (-101)
def signN (S : QS) (p d : Nat) : Int32 × QS := if d = 0 then (-102, S) else if bnd (sP S) (sL S) (sp S p) = 0 then (-103, S) else if 6 ≤ (sd S).length then (-104, S) else (nI (sd S).length, stB S ((sB S).1, sd S ++ [(d, bnd (sP S) (sL S) (sp S p))], sh S))
def o_sign (S : QS) (x y : Int32) : Int32 × QS := onR x (sn S) (fun p => onR y 10 (fun d => signN S p d) (-102, S)) (-101, S)
def deedV (S : QS) (d k : Nat) : Int32 := if k = 0 then nI (dbt (sd S) d) else if k = 1 then nI (bd (sd S) d) else nI (sure (sP S) (bd (sd S) d) (sn S))
def v_deed (S : QS) (x y : Int32) : Int32 := onR x (sd S).length (fun d => onR y 3 (fun k => deedV S d k) (-102)) (-101)
def freeN (S : QS) (d p : Nat) : Int32 × QS := if (bd (sd S) d).testBit p = true then (nI (pcN (clr (bd (sd S) d) p)), stB S ((sB S).1, (sd S).set d (dbt (sd S) d, clr (bd (sd S) d) p), sh S)) else (-103, S)
def o_free (S : QS) (x y : Int32) : Int32 × QS := onR x (sd S).length (fun d => onR y (sn S) (fun p => freeN S d p) (-101, S)) (-101, S)
def oweV (S : QS) (p k : Nat) : Int32 := if k = 0 then nI (oweN (sd S) p (sd S).length / Nat.gcd (oweN (sd S) p (sd S).length) 60) else nI (60 / Nat.gcd (oweN (sd S) p (sd S).length) 60)
def v_owes (S : QS) (x y : Int32) : Int32 := onR x (sn S) (fun p => onR y 2 (fun k => oweV S p k) (-102)) (-101)
def wayV (S : QS) (p st k : Nat) : Int32 := if k = 0 then oI (wF (sP S) (sL S) st (sp S p) 5) else frO (sP S) (sL S) st (sp S p) (wF (sP S) (sL S) st (sp S p) 5)
def wayN (S : QS) (p st k : Nat) : Int32 × QS := if 40 ≤ sA S then (-103, S) else (wayV S p st k, (S.1, S.2.1, S.2.2.1, S.2.2.2.1, S.2.2.2.2.1, S.2.2.2.2.2.1, sA S + 1))
def o_way (S : QS) (x y z : Int32) : Int32 × QS := onR x (sn S) (fun p => onR y (2 ^ sn S) (fun st => onR z 2 (fun k => wayN S p st k) (-102, S)) (-102, S)) (-101, S)
def findB (S : QS) : Nat := (fGo (brkA (sd S)) (2 ^ sn S - 1)).getD (2 ^ sn S - 1)
def findV (S : QS) (k : Nat) : Int32 := if k = 0 then nI (pcN (findB S)) else nI (findB S)
def v_find (S : QS) (x : Int32) : Int32 := onR x 2 (fun k => if sn S = 0 then -103 else findV S k) (-102)
def hearN (S : QS) (p : Nat) (v : Bool) : Int32 × QS := if 6 ≤ (sh S).length then (-104, S) else (nI ((sh S).length + 1), stB S ((sB S).1, sd S, sh S ++ [(p, v)]))
def o_hear (S : QS) (x : Int32) (v : Bool) : Int32 × QS := onR x (sn S) (fun p => hearN S p v) (-101, S)
def forS (S : QS) : QS := stB S ((sB S).1, sd S, [])
def hndT (S : QS) (p t : Nat) : TS := handS (sP S) (sL S) (sh S) t (sp S p)
def hndV (S : QS) (p t k : Nat) : Int32 := if k = 0 then nI (hndT S p t).1 else nI (hndT S p t).2.1
def v_hands (S : QS) (x y z : Int32) : Int32 := onR x (sn S) (fun p => onR y 5 (fun t => onR z 2 (fun k => hndV S p t k) (-102)) (-102)) (-101)
def askV (S : QS) (p t : Nat) : Int32 := askR (hndT S p t) (sn S)
def v_ask (S : QS) (x y : Int32) : Int32 := onR x (sn S) (fun p => onR y 5 (fun t => askV S p t) (-102)) (-101)
def fairF (S : QS) (t s : Nat) : FS := fgo (sP S) (sL S) (s, (sB S).1, 0, 0) t
def fairV (S : QS) (t s k : Nat) : Int32 := if k = 0 then nI (fairF S t s).2.2.1 else if k = 1 then nI (fairF S t s).2.2.2 else nI (fairF S t s).1
def v_fairs (S : QS) (x y z : Int32) : Int32 := onR x 61 (fun t => if t = 0 then -102 else onR y (2 ^ 31) (fun s => onR z 3 (fun k => if sn S = 0 then -103 else fairV S t s k) (-102)) (-102)) (-102)
def o_image (S : QS) : Int32 × QS := if sn S = 0 then (-103, S) else (nI (lentN (sB S) (sn S)), (S.1, S.2.1, S.2.2.1, S.2.2.2.1, some (sB S), S.2.2.2.2.2))
def o_restore (S : QS) : Int32 × QS := match sI S with
  | none => (-103, S)
  | some B => (nI (lentN B (sn S)), stB S B)
def cntV (S : QS) (k : Nat) : Int32 := if k = 0 then nI (sn S) else if k = 1 then nI (sL S) else if k = 2 then nI (lentN (sB S) (sn S)) else if k = 3 then nI (sd S).length else if k = 4 then nI (sumTo (fun i => if bd (sd S) i = 0 then 1 else 0) (sd S).length) else if k = 5 then nI (sh S).length else if k = 6 then nI (sg S).length else if k = 7 then nI (sT S) else nI (sA S)
def v_count (S : QS) (x : Int32) : Int32 := onR x 9 (fun k => cntV S k) (-102)
def o_letter (S : QS) (x : Int32) : Int32 × QS := onR x 127 (fun c => if c < 32 then (-102, S) else if 18 ≤ (sg S).length then (-104, S) else (nI ((sg S).length + 1), (sg S ++ [c], S.2))) (-102, S)
def blankS (S : QS) : QS := ([], S.2)
def o_town (S : QS) : Int32 × QS := if isT (sg S) = true then (nI ((sg S).length / 3), ([], tP (sg S), tL (sg S), ((fun i => [i]), [], []), none, sT S + 1, sA S)) else (-103, S)
def mx (h : Int64) (x : Int32) : Int64 := 31 * h + x.toInt64
/-- h with f 0 .. f (n - 1) -/
def mxs (f : Nat → Int32) (h : Int64) : Nat → Int64
  | 0 => h
  | n + 1 => mx (mxs f h n) (f n)
def digP (S : QS) (h : Int64) (p : Nat) : Int64 := mx (mx (mx (mx (mx (mxs (oneV S p) h 6) (oweV S p 0)) (oweV S p 1)) (hndV S p 2 0)) (hndV S p 2 1)) (askV S p 2)
def digPs (S : QS) (h : Int64) : Nat → Int64
  | 0 => h
  | n + 1 => digP S (digPs S h n) n
def digDs (S : QS) (h : Int64) : Nat → Int64
  | 0 => h
  | n + 1 => mxs (deedV S n) (digDs S h n) 3
def v_digest (S : QS) : Int64 :=
  let h1 := digDs S (digPs S 967 (sn S)) (sd S).length
  let h2 := if sn S = 0 then h1 else mx (mx h1 (findV S 0)) (findV S 1)
  mxs (cntV S) (mxs (fun i => nI (pgc (sg S) i)) h2 (sg S).length) 9
/-- books that a town of n can have -/
def WFB (n : Nat) (B : Bk) : Prop := (∀ i, i < n → ∀ x ∈ B.1 i, x < n) ∧ (∀ i, n ≤ i → i < 5 → (B.1 i).length = 1 ∧ n ≤ (B.1 i).getD 0 0 ∧ (B.1 i).getD 0 0 < 100) ∧ (∀ i, i < B.2.1.length → bd B.2.1 i < 2 ^ n) ∧ (∀ q ∈ B.2.2, q.1 < n)
def WF (S : QS) : Prop := WFB (sn S) (sB S) ∧ (∀ B, sI S = some B → WFB (sn S) B) ∧ sT S ≤ 1000 ∧ sA S ≤ 40
def RLQ (G : XG) (w : Wd) (x0 Z : Nat) (S : QS) : Prop :=
  w x0 = some (eO 11 [.ref (x0 + 1), .ref (x0 + 3), .ref (x0 + 5), .ref (x0 + 19), .ref (x0 + 33), .ref (x0 + 37), .int (bI (sI S).isSome), .int (nI (sT S)), .int (nI (sA S))]) ∧ RPage G w (x0 + 1) (sg S) ∧ RTown G w (x0 + 3) Z (sP S) (sL S) ∧ RBooks G w (x0 + 5) (sB S).1 (sB S).2.1 (sB S).2.2 ∧ (∃ B : Bk, RBooks G w (x0 + 19) B.1 B.2.1 B.2.2 ∧ ∀ B2, sI S = some B2 → B2 = B) ∧ (∃ (h : List Nat) (T : TS) (fw fr : Int32), RSrch G w (x0 + 33) h T fw fr) ∧ ∃ (ds : List (Nat × Nat)) (hd : List (Nat × Bool)) (F : FS), RFair G w (x0 + 37) ds hd F
theorem sum_tail {f : Nat → Nat} {n : Nat} (h : ∀ i, n ≤ i → i < 5 → f i = 0) : ∀ m, n ≤ m → m ≤ 5 → sumTo f m = sumTo f n
  | 0, h1, _ => by rw [show n = 0 by omega]
  | m + 1, h1, h2 => by
    rcases (show n = m + 1 ∨ n ≤ m by omega) with q | q
    · rw [q]
    · rw [sumTo, h m q (by omega), Nat.add_zero]
      exact sum_tail h m q (by omega)
theorem find_eq : ∀ n, n ≤ 5 → ∀ m, m < 2 ^ n - 1 → pcN m < pcN (2 ^ n - 1) := by decide +kernel
theorem p2n {n : Nat} (h : n ≤ 5) : 1 ≤ 2 ^ n ∧ 2 ^ n ≤ 32 := by
  rcases (show n = 0 ∨ n = 1 ∨ n = 2 ∨ n = 3 ∨ n = 4 ∨ n = 5 by omega) with rfl | rfl | rfl | rfl | rfl | rfl <;> decide
