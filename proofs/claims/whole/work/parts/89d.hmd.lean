abbrev Nm : Type := (Nat → Nat) × Nat
abbrev Vc (α : Type) : Type := Nat × (Nat → α)
def vadd {α : Type} (v : Vc α) (x : α) : Vc α := (v.1 + 1, fun k => if k = v.1 then x else v.2 k)
abbrev HS : Type := Vc Nm × Vc (Nat × Nat × Int) × Vc (Nm × Int) × Vc (Nm × Nat × Nat × Int × Int) × Option (List Int) × Option (List Int) × Int × Int × Int
abbrev SRs : Type := (Int × Int) ⊕ (PS × HS)
def hs0 : HS := ((0, fun _ => (fun _ => 0, 0)), (0, fun _ => (0, 0, 0)), (0, fun _ => ((fun _ => 0, 0), 0)), (0, fun _ => ((fun _ => 0, 0), 0, 0, 0, 0)), none, none, 3, 2, 0)
def ncm (m : Nm) : Nat := nc m.1 m.2
def nrm (m : Nm) : Nat := nr m.1 m.2
def fdN (f : Nat → Nm) (x : Nm) : Nat → Option Nat
  | 0 => none
  | n + 1 => match fdN f x n with
    | some k => some k
    | none => if ncm (f n) = ncm x then some n else none
section HMD
variable (T : Nat → Int) (n : Nat)
def nmQ (q : PS) : Nm := (naL T q, af T n q - q.1)
def tryR (r : FR) (k : SRs) : SRs := match r with
  | some e => .inl e
  | none => k
def nmd (s : HS) (x : Nm) : Bool := (fdN s.1.2 x s.1.1).isSome || ((fdN (fun k => (s.2.2.1.2 k).1) x s.2.2.1.1).isSome || (fdN (fun k => (s.2.2.2.1.2 k).1) x s.2.2.2.1.1).isSome)
def newN (s : HS) (q : PS) (k : Nm → PS → SRs) : SRs := tryR (naR T n q) (if nmd s (nmQ T n q) = true then .inl (3, (q.1 : Int)) else k (nmQ T n q) (nx T n q))
def oldN (f : Nat → Nm) (c : Nat) (q : PS) (k : Nat → PS → SRs) : SRs := tryR (naR T n q) (match fdN f (nmQ T n q) c with
  | none => .inl (3, (q.1 : Int))
  | some i => k i (nx T n q))
def wrdN (w : List Int) (q : PS) (k : PS → SRs) : SRs := tryR (wdR T n q w) (k (nx T n q))
def numN (lo hi : Int) (q : PS) (k : Int → PS → SRs) : SRs := tryR (nuR T n q lo hi) (k (nuV T n q) (nx T n q))
def setN (w : List Int) (lo hi : Int) (q : PS) (k : Int → PS → SRs) : SRs := wrdN T n w q (fun q1 => numN T n lo hi q1 k)
def hasS (v : Vc (Nat × Nat × Int)) (a b : Nat) : Bool := (List.range v.1).any (fun k => ((v.2 k).1 == a && (v.2 k).2.1 == b) || ((v.2 k).1 == b && (v.2 k).2.1 == a))
def roomF (s : HS) (p : Int) (q : PS) : SRs := if s.1.1 = 8 then .inl (5, p) else newN T n s q (fun m q1 => .inr (q1, (vadd s.1 m, s.2)))
def stairF (s : HS) (p : Int) (q : PS) : SRs := if s.2.1.1 = 10 then .inl (5, p) else oldN T n s.1.2 s.1.1 q (fun a q1 => wrdN T n w_to q1 (fun q2 => oldN T n s.1.2 s.1.1 q2 (fun b q3 => if (a == b || hasS s.2.1 a b) = true then .inl (3, (q2.1 : Int)) else setN T n w_wide 1 4 q3 (fun x q4 => .inr (q4, (s.1, vadd s.2.1 (a, b, x), s.2.2))))))
def sectF (s : HS) (p : Int) (q : PS) : SRs := if s.2.2.1.1 = 5 then .inl (5, p) else newN T n s q (fun m q1 => setN T n w_post 0 20 q1 (fun x q2 => .inr (q2, (s.1, s.2.1, vadd s.2.2.1 (m, x), s.2.2.2))))
def clerkF (s : HS) (p : Int) (q : PS) : SRs := if s.2.2.2.1.1 = 8 then .inl (5, p) else newN T n s q (fun m q1 => wrdN T n w_in q1 (fun q2 => oldN T n s.1.2 s.1.1 q2 (fun r q3 => wrdN T n w_of q3 (fun q4 => oldN T n (fun k => (s.2.2.1.2 k).1) s.2.2.1.1 q4 (fun c q5 => setN T n w_pace 1 3 q5 (fun x q6 => setN T n w_bag 0 9 q6 (fun y q7 => .inr (q7, (s.1, s.2.1, s.2.2.1, vadd s.2.2.2.1 (m, r, c, x, y), s.2.2.2.2)))))))))
def turnF (s : HS) (p : Int) (q : PS) : SRs := if s.2.2.2.2.1.isSome = true then .inl (5, p) else (match tsL T n 0 6 q with
  | .inl e => .inl e
  | .inr (q1, c) => .inr (q1, (s.1, s.2.1, s.2.2.1, s.2.2.2.1, some c, s.2.2.2.2.2)))
def dearF (s : HS) (p : Int) (q : PS) : SRs := if s.2.2.2.2.2.1.isSome = true then .inl (5, p) else (match smL T n 1 6 q with
  | .inl e => .inl e
  | .inr (q1, c) => .inr (q1, (s.1, s.2.1, s.2.2.1, s.2.2.2.1, s.2.2.2.2.1, some c, s.2.2.2.2.2.2)))
def hearF (s : HS) (q : PS) : SRs := numN T n 0 20 q (fun x q1 => .inr (q1, (s.1, s.2.1, s.2.2.1, s.2.2.2.1, s.2.2.2.2.1, s.2.2.2.2.2.1, x, s.2.2.2.2.2.2.2)))
def signF (s : HS) (q : PS) : SRs := numN T n 1 9 q (fun x q1 => .inr (q1, (s.1, s.2.1, s.2.2.1, s.2.2.2.1, s.2.2.2.2.1, s.2.2.2.2.2.1, s.2.2.2.2.2.2.1, x, s.2.2.2.2.2.2.2.2)))
def smokF (s : HS) (q : PS) : SRs := numN T n 0 100 q (fun x q1 => .inr (q1, (s.1, s.2.1, s.2.2.1, s.2.2.2.1, s.2.2.2.2.1, s.2.2.2.2.2.1, s.2.2.2.2.2.2.1, s.2.2.2.2.2.2.2.1, x)))
def stmF (s : HS) (q : PS) : SRs :=
  if isW T n q w_room = true then roomF T n s q.1 (nx T n q)
  else if isW T n q w_stair = true then stairF T n s q.1 (nx T n q)
  else if isW T n q w_part = true then sectF T n s q.1 (nx T n q)
  else if isW T n q w_clerk = true then clerkF T n s q.1 (nx T n q)
  else if isW T n q w_turns = true then turnF T n s q.1 (nx T n q)
  else if isW T n q w_dear = true then dearF T n s q.1 (nx T n q)
  else if isW T n q w_hears = true then hearF T n s (nx T n q)
  else if isW T n q w_signs = true then signF T n s (nx T n q)
  else wrdN T n w_smoke q (fun q1 => smokF T n s q1)
def semF (r : SRs) : SRs := match r with
  | .inl e => .inl e
  | .inr (q, s) => tryR (sgR T n q 59) (.inr (nx T n q, s))
def houF : Nat → Nat → PS → HS → (Int × Int) ⊕ (Nat × HS)
  | 0, c, q, s => if kd T n q = 0 then .inr (c, s) else .inl (5, (q.1 : Int))
  | f + 1, c, q, s => if kd T n q = 0 then .inr (c, s) else (match semF T n (stmF T n s q) with
    | .inl e => .inl e
    | .inr (q1, s1) => houF f (c + 1) q1 s1)
end HMD
theorem fdN_some {f : Nat → Nm} {x : Nm} {k : Nat} : ∀ n, fdN f x n = some k → k < n ∧ ncm (f k) = ncm x ∧ ∀ k', k' < k → ncm (f k') ≠ ncm x := by
  intro n
  induction n generalizing k with
  | zero => intro h; cases h
  | succ n ih =>
    intro h
    unfold fdN at h
    cases e : fdN f x n with
    | some j =>
      rw [e] at h
      injection h with h
      subst h
      obtain ⟨a, b, c⟩ := ih e
      exact ⟨by omega, b, c⟩
    | none =>
      rw [e] at h
      dsimp only at h
      split at h
      · rename_i hz
        injection h with h
        subst h
        refine ⟨by omega, hz, fun k' hk' w => ?_⟩
        have : ∀ m, m ≤ n → k' < m → fdN f x m ≠ none := by
          intro m
          induction m with
          | zero => intro _ h; exact absurd h (Nat.not_lt_zero _)
          | succ m ihm =>
            intro hm hk
            unfold fdN
            cases e2 : fdN f x m with
            | some j => intro w; cases w
            | none =>
              dsimp only
              by_cases y : k' < m
              · exact absurd e2 (ihm (by omega) y)
              · have y2 : k' = m := by omega
                subst y2
                rw [if_pos w]; intro w; cases w
        exact this n (Nat.le_refl n) hk' e
      · cases h
theorem fdN_none {f : Nat → Nm} {x : Nm} : ∀ n, fdN f x n = none → ∀ k, k < n → ncm (f k) ≠ ncm x := by
  intro n
  induction n with
  | zero => intro _ k hk; exact absurd hk (Nat.not_lt_zero k)
  | succ n ih =>
    intro h k hk
    unfold fdN at h
    cases e : fdN f x n with
    | some j => rw [e] at h; cases h
    | none =>
      rw [e] at h
      dsimp only at h
      split at h
      · cases h
      · rename_i hz
        by_cases y : k = n
        · rw [y]; exact hz
        · exact ih e k (by omega)
theorem At1_nc {g : Nat → Int} {f : Nat → Nm} {x : Nm} {n : Nat} {y : Int} (hg : ∀ k, k < n → g k = (ncm (f k) : Int)) (h : At1 g n (ncm x : Int) y) : y = (match fdN f x n with | some k => (k : Int) | none => -1) := by
  cases e : fdN f x n with
  | some k =>
    obtain ⟨a, b, c⟩ := fdN_some n e
    rcases h with ⟨k', h1, h2, h3, h4⟩ | ⟨-, h2⟩
    · have e1 : ¬ k < k' := fun w => h4 k w (by rw [hg k a, b])
      have e2 : ¬ k' < k := fun w => c k' w (by rw [hg k' h1] at h3; omega)
      rw [h2]; dsimp only; omega
    · exact absurd (by rw [hg k a, b]) (h2 k a)
  | none =>
    have c := fdN_none n e
    rcases h with ⟨k', h1, h2, h3, h4⟩ | ⟨h1, -⟩
    · exact absurd (by rw [hg k' h1] at h3; omega) (c k' h1)
    · exact h1
theorem At1_nr {g : Nat → Int} {f : Nat → Nm} {x : Nm} {n : Nat} {y : Int} (hf : ∀ k, k < n → lts (f k).1 (f k).2) (hx : lts x.1 x.2) (hg : ∀ k, k < n → g k = (nrm (f k) : Int)) (h : At1 g n (nrm x : Int) y) : y = (match fdN f x n with | some k => (k : Int) | none => -1) := by
  refine At1_nc (g := fun k => (ncm (f k) : Int)) (fun k _ => rfl) ?_
  have e : ∀ k, k < n → (g k = (nrm x : Int) ↔ ((ncm (f k) : Nat) : Int) = (ncm x : Int)) := by
    intro k hk
    rw [hg k hk]
    have := nm_iff (hf k hk) hx
    unfold ncm nrm
    constructor
    · intro w
      have w1 := this.2 (by omega)
      omega
    · intro w
      have w1 := this.1 (by omega)
      omega
  rcases h with ⟨k', h1, h2, h3, h4⟩ | ⟨h1, h2⟩
  · exact Or.inl ⟨k', h1, h2, (e k' h1).1 h3, fun k hk w => h4 k hk ((e k (by omega)).2 w)⟩
  · exact Or.inr ⟨h1, fun k hk w => h2 k hk ((e k hk).2 w)⟩
