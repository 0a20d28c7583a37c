-- PURE: reading a pattern (a: its bytes, L: how many)
def rbv (a : Nat → Nat) (L i : Nat) : Nat := if a i = 92 ∧ i + 1 < L then a (i + 1) else a i
def rbn (a : Nat → Nat) (L i : Nat) : Nat := if a i = 92 ∧ i + 1 < L then i + 2 else i + 1
def bnd (a : Nat → Nat) (L i : Nat) : Bool := decide (L ≤ i) || decide (a i = 93)
def rng (a : Nat → Nat) (L i : Nat) : Bool := decide (i < L) && decide (a i = 45) && !bnd a L (i + 1)
def thi (a : Nat → Nat) (L i : Nat) : Nat := if rng a L (rbn a L i) = true then rbv a L (rbn a L i + 1) else rbv a L i
def tnx (a : Nat → Nat) (L i : Nat) : Nat := if rng a L (rbn a L i) = true then rbn a L (rbn a L i + 1) else rbn a L i
def brm (a : Nat → Nat) (L : Nat) : Nat → Nat → Nat → Bool
  | 0, _, _ => false
  | n + 1, i, x => if bnd a L i = true then false else (decide (rbv a L i ≤ x ∧ x ≤ thi a L i) || brm a L n (tnx a L i) x)
def bre (a : Nat → Nat) (L : Nat) : Nat → Nat → Nat
  | 0, i => i
  | n + 1, i => if bnd a L i = true then i else bre a L n (tnx a L i)
def brg (a : Nat → Nat) (L i : Nat) : Bool := decide (i < L) && decide (a i = 94)
def brs (a : Nat → Nat) (L i x : Nat) : Bool := if brg a L i = true then !brm a L L (i + 1) x else brm a L L i x
def brn (a : Nat → Nat) (L i : Nat) : Nat := if brg a L i = true then bre a L L (i + 1) + 1 else bre a L L i + 1
def thv (a : Nat → Nat) (L i : Nat) : Option (Nat → Bool) :=
  if a i = 42 then none else if a i = 63 then some (fun _ => true) else if a i = 91 then some (brs a L (i + 1)) else some (fun x => decide (x = rbv a L i))
def thn (a : Nat → Nat) (L i : Nat) : Nat := if a i = 42 then i + 1 else if a i = 63 then i + 1 else if a i = 91 then brn a L (i + 1) else rbn a L i
def ths (a : Nat → Nat) (L : Nat) : Nat → Nat → List (Option (Nat → Bool))
  | 0, _ => []
  | n + 1, i => if i < L then thv a L i :: ths a L n (thn a L i) else []
-- the things' rows
def tT : List (Option (Nat → Bool)) → Nat → Nat → Bool
  | [], _, _ => false
  | none :: r, x, k => tT r x k
  | some S :: r, x, k => if k = 0 then S x else tT r x (k - 1)
def tL : List (Option (Nat → Bool)) → Nat → Bool
  | [], _ => false
  | none :: r, k => decide (k = 0) || tL r k
  | some _ :: r, k => if k = 0 then false else tL r (k - 1)
def tC : List (Option (Nat → Bool)) → Nat
  | [] => 0
  | none :: r => tC r
  | some _ :: r => tC r + 1
theorem tC_app (ts us : List (Option (Nat → Bool))) : tC (ts ++ us) = tC ts + tC us := by
  induction ts with
  | nil => simp [tC]
  | cons t r ih =>
    cases t with
    | none => simp only [List.cons_append, tC, ih]
    | some S => simp only [List.cons_append, tC, ih]; omega
theorem tT_out (ts : List (Option (Nat → Bool))) : ∀ (x k : Nat), tC ts ≤ k → tT ts x k = false := by
  induction ts with
  | nil => intro x k _; rfl
  | cons t r ih =>
    intro x k h
    cases t with
    | none => exact ih x k h
    | some S =>
      simp only [tC] at h
      simp only [tT]
      rw [if_neg (by omega)]
      exact ih x (k - 1) (by omega)
theorem tL_out (ts : List (Option (Nat → Bool))) : ∀ (k : Nat), tC ts < k → tL ts k = false := by
  induction ts with
  | nil => intro k _; rfl
  | cons t r ih =>
    intro k h
    cases t with
    | none =>
      simp only [tC] at h
      simp only [tL]
      rw [ih k h]
      simp only [Bool.or_false, decide_eq_false_iff_not]
      omega
    | some S =>
      simp only [tC] at h
      simp only [tL]
      rw [if_neg (by omega)]
      exact ih (k - 1) (by omega)
theorem tT_star (ts : List (Option (Nat → Bool))) : ∀ (x k : Nat), tT (ts ++ [none]) x k = tT ts x k := by
  induction ts with
  | nil => intro x k; rfl
  | cons t r ih =>
    intro x k
    cases t with
    | none => exact ih x k
    | some S => simp only [List.cons_append, tT, ih]
theorem tL_star (ts : List (Option (Nat → Bool))) : ∀ (k : Nat), tL (ts ++ [none]) k = (tL ts k || decide (k = tC ts)) := by
  induction ts with
  | nil =>
    intro k
    show (decide (k = 0) || false) = (false || decide (k = 0))
    cases decide (k = 0) <;> rfl
  | cons t r ih =>
    intro k
    cases t with
    | none =>
      show (decide (k = 0) || tL (r ++ [none]) k) = ((decide (k = 0) || tL r k) || decide (k = tC r))
      rw [ih, Bool.or_assoc]
    | some S =>
      show (if k = 0 then false else tL (r ++ [none]) (k - 1)) = ((if k = 0 then false else tL r (k - 1)) || decide (k = tC r + 1))
      by_cases h : k = 0
      · rw [if_pos h, if_pos h, show decide (k = tC r + 1) = false from decide_eq_false (by omega)]
        rfl
      · rw [if_neg h, if_neg h, ih, show decide (k - 1 = tC r) = decide (k = tC r + 1) from decide_eq_decide.mpr (by omega)]
theorem tT_one (S : Nat → Bool) (ts : List (Option (Nat → Bool))) : ∀ (x k : Nat), tT (ts ++ [some S]) x k = if k = tC ts then S x else tT ts x k := by
  induction ts with
  | nil =>
    intro x k
    rfl
  | cons t r ih =>
    intro x k
    cases t with
    | none => exact ih x k
    | some S' =>
      show (if k = 0 then S' x else tT (r ++ [some S]) x (k - 1)) = (if k = tC r + 1 then S x else if k = 0 then S' x else tT r x (k - 1))
      by_cases h : k = 0
      · rw [if_pos h, if_neg (show ¬ k = tC r + 1 by omega), if_pos h]
      · rw [if_neg h, if_neg h, ih]
        by_cases h2 : k = tC r + 1
        · rw [if_pos (show k - 1 = tC r by omega), if_pos h2]
        · rw [if_neg (show ¬ k - 1 = tC r by omega), if_neg h2]
theorem tL_one (S : Nat → Bool) (ts : List (Option (Nat → Bool))) : ∀ (k : Nat), tL (ts ++ [some S]) k = tL ts k := by
  induction ts with
  | nil => intro k; simp [tL]
  | cons t r ih =>
    intro k
    cases t with
    | none => simp only [List.cons_append, tL, ih]
    | some S' => simp only [List.cons_append, tL, ih]
-- the places that n bytes of w reach
def rch (T : Nat → Nat → Bool) (P : Nat → Bool) (w : Nat → Nat) : Nat → Nat → Bool
  | 0, k => decide (k = 0)
  | n + 1, k => (decide (0 < k) && rch T P w n (k - 1) && T (w n) (k - 1)) || (rch T P w n k && P k)
-- whether the first n bytes of w fit the things
def fz (ts : List (Option (Nat → Bool))) (w : Nat → Nat) (n : Nat) : Bool := rch (tT ts) (tL ts) w n (tC ts)
theorem rch_one {ts : List (Option (Nat → Bool))} {S : Nat → Bool} {w : Nat → Nat} : ∀ (n k : Nat), k ≤ tC ts → rch (tT (ts ++ [some S])) (tL (ts ++ [some S])) w n k = rch (tT ts) (tL ts) w n k := by
  intro n
  induction n with
  | zero => intro k _; rfl
  | succ n ih =>
    intro k hk
    simp only [rch]
    rw [ih k hk, ih (k - 1) (by omega), tL_one, tT_one]
    by_cases h : k = 0
    · subst h; simp
    · rw [if_neg (by omega)]
/-- one thing more -/
theorem fz_one_s (ts : List (Option (Nat → Bool))) (S : Nat → Bool) (w : Nat → Nat) (n : Nat) : fz (ts ++ [some S]) w (n + 1) = (fz ts w n && S (w n)) := by
  have e : tC (ts ++ [some S]) = tC ts + 1 := by rw [tC_app]; rfl
  unfold fz
  rw [e]
  show ((decide (0 < tC ts + 1) && rch (tT (ts ++ [some S])) (tL (ts ++ [some S])) w n (tC ts) && tT (ts ++ [some S]) (w n) (tC ts)) || (rch (tT (ts ++ [some S])) (tL (ts ++ [some S])) w n (tC ts + 1) && tL (ts ++ [some S]) (tC ts + 1))) = (rch (tT ts) (tL ts) w n (tC ts) && S (w n))
  rw [rch_one n (tC ts) (Nat.le_refl _), tT_one, if_pos rfl, tL_one, tL_out ts (tC ts + 1) (by omega), Bool.and_false, Bool.or_false, show decide (0 < tC ts + 1) = true from decide_eq_true (by omega), Bool.true_and]
theorem fz_one_0 (ts : List (Option (Nat → Bool))) (S : Nat → Bool) (w : Nat → Nat) : fz (ts ++ [some S]) w 0 = false := by
  have e : tC (ts ++ [some S]) = tC ts + 1 := by rw [tC_app]; rfl
  unfold fz
  rw [e]
  show decide (tC ts + 1 = 0) = false
  exact decide_eq_false (by omega)
theorem fz_nil (w : Nat → Nat) (n : Nat) : fz [] w n = decide (n = 0) := by
  cases n with
  | zero => rfl
  | succ n =>
    unfold fz
    simp [tC, rch, tL]
theorem rch_star {ts : List (Option (Nat → Bool))} {w : Nat → Nat} : ∀ (n k : Nat), k < tC ts → rch (tT (ts ++ [none])) (tL (ts ++ [none])) w n k = rch (tT ts) (tL ts) w n k := by
  intro n
  induction n with
  | zero => intro k _; rfl
  | succ n ih =>
    intro k hk
    simp only [rch]
    rw [ih k hk, ih (k - 1) (by omega), tL_star, tT_star, show decide (k = tC ts) = false from decide_eq_false (by omega), Bool.or_false]
theorem fz_star_0 (ts : List (Option (Nat → Bool))) (w : Nat → Nat) : fz (ts ++ [none]) w 0 = fz ts w 0 := by
  unfold fz
  rw [tC_app]
  rfl
theorem fz_star_s (ts : List (Option (Nat → Bool))) (w : Nat → Nat) (n : Nat) : fz (ts ++ [none]) w (n + 1) = (fz ts w (n + 1) || fz (ts ++ [none]) w n) := by
  unfold fz
  rw [tC_app]
  show rch (tT (ts ++ [none])) (tL (ts ++ [none])) w (n + 1) (tC ts) = (rch (tT ts) (tL ts) w (n + 1) (tC ts) || rch (tT (ts ++ [none])) (tL (ts ++ [none])) w n (tC ts))
  have mono : ∀ m, rch (tT ts) (tL ts) w m (tC ts) = true → rch (tT (ts ++ [none])) (tL (ts ++ [none])) w m (tC ts) = true := by
    intro m
    induction m with
    | zero => intro h; exact h
    | succ m ih =>
      intro h
      simp only [rch] at h ⊢
      rw [tT_star, tL_star]
      rcases Bool.or_eq_true_iff.mp h with q | q
      · by_cases z : 0 < tC ts
        · rw [rch_star m (tC ts - 1) (by omega), q]; rfl
        · rw [show decide (0 < tC ts) = false from decide_eq_false z] at q
          simp at q
      · rw [ih (Bool.and_eq_true_iff.mp q).1]
        simp
  simp only [rch]
  rw [tT_star, tL_star]
  have e : (decide (0 < tC ts) && rch (tT (ts ++ [none])) (tL (ts ++ [none])) w n (tC ts - 1) && tT ts (w n) (tC ts - 1)) = (decide (0 < tC ts) && rch (tT ts) (tL ts) w n (tC ts - 1) && tT ts (w n) (tC ts - 1)) := by
    by_cases z : 0 < tC ts
    · rw [rch_star n (tC ts - 1) (by omega)]
    · rw [show decide (0 < tC ts) = false from decide_eq_false z]; rfl
  rw [e, show decide (tC ts = tC ts) = true from decide_eq_true rfl, Bool.or_true, Bool.and_true]
  cases ha : (decide (0 < tC ts) && rch (tT ts) (tL ts) w n (tC ts - 1) && tT ts (w n) (tC ts - 1)) with
  | true => rfl
  | false =>
    cases hb : rch (tT ts) (tL ts) w n (tC ts) with
    | false => rfl
    | true => rw [mono n hb]; simp
