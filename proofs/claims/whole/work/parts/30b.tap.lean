def isLb (c : Int) : Bool := decide (97 ≤ c ∧ c ≤ 122)
def isDb (c : Int) : Bool := decide (48 ≤ c ∧ c ≤ 57)
def isBb (c : Int) : Bool := decide (c = 10 ∨ c = 32)
def rnF (p : Int → Bool) (T : Nat → Int) : Nat → Nat → Nat
  | 0, i => i
  | f + 1, i => if p (T i) = true then rnF p T f (i + 1) else i
def rn (p : Int → Bool) (T : Nat → Int) (n i : Nat) : Nat := rnF p T (n - i) i
section RN
variable {p : Int → Bool} {T : Nat → Int} {n i : Nat}
theorem rn_z (h : n ≤ i) : rn p T n i = i := by
  unfold rn; rw [Nat.sub_eq_zero_of_le h]; rfl
theorem rn_no (h : ¬ p (T i) = true) : rn p T n i = i := by
  unfold rn
  cases e : n - i with
  | zero => rfl
  | succ f => show (if p (T i) = true then _ else i) = i; rw [if_neg h]
theorem rn_go (h1 : i < n) (h2 : p (T i) = true) : rn p T n i = rn p T n (i + 1) := by
  unfold rn
  rw [show n - i = (n - (i + 1)) + 1 by omega]
  show (if p (T i) = true then rnF p T (n - (i + 1)) (i + 1) else i) = _
  rw [if_pos h2]
theorem rn_all : ∀ (f i : Nat), n - i = f → i ≤ rn p T n i ∧ (i ≤ n → rn p T n i ≤ n) ∧ (∀ k, i ≤ k → k < rn p T n i → p (T k) = true) ∧ (rn p T n i < n → p (T (rn p T n i)) = false) := by
  intro f
  induction f with
  | zero =>
    intro i h
    rw [rn_z (by omega)]
    exact ⟨Nat.le_refl _, fun h => h, fun k h1 h2 => by omega, fun h1 => by omega⟩
  | succ f ih =>
    intro i h
    by_cases hp : p (T i) = true
    · rw [rn_go (by omega) hp]
      obtain ⟨h1, h2, h3, h4⟩ := ih (i + 1) (by omega)
      refine ⟨by omega, fun _ => h2 (by omega), fun k k1 k2 => ?_, h4⟩
      by_cases e : k = i
      · rw [e]; exact hp
      · exact h3 k (by omega) k2
    · rw [rn_no hp]
      exact ⟨Nat.le_refl _, fun h => h, fun k h1 h2 => by omega, fun _ => by cases e : p (T i) with | true => exact absurd e hp | false => rfl⟩
theorem rn_ge : i ≤ rn p T n i := (rn_all (n - i) i rfl).1
theorem rn_le (h : i ≤ n) : rn p T n i ≤ n := (rn_all (n - i) i rfl).2.1 h
theorem rn_in {k : Nat} (h1 : i ≤ k) (h2 : k < rn p T n i) : p (T k) = true := (rn_all (n - i) i rfl).2.2.1 k h1 h2
theorem rn_out (h : rn p T n i < n) : p (T (rn p T n i)) = false := (rn_all (n - i) i rfl).2.2.2 h
theorem rn_gt (h1 : i < n) (h2 : p (T i) = true) : i < rn p T n i := by
  rw [rn_go h1 h2]; exact rn_ge
end RN
abbrev PS : Type := Nat × Bool
def kd0 (T : Nat → Int) (n s : Nat) : Int := if n ≤ s then 0 else if isLb (T s) = true then 1 else if isDb (T s) = true then 2 else 3
def kd (T : Nat → Int) (n : Nat) (q : PS) : Int := if q.2 = true ∧ (kd0 T n q.1 = 1 ∨ kd0 T n q.1 = 2) then 4 else kd0 T n q.1
def af (T : Nat → Int) (n : Nat) (q : PS) : Nat := if kd0 T n q.1 = 1 then rn isLb T n q.1 else if kd0 T n q.1 = 2 then rn isDb T n q.1 else if kd0 T n q.1 = 3 then q.1 + 1 else q.1
def nx (T : Nat → Int) (n : Nat) (q : PS) : PS := (rn isBb T n (af T n q), decide ((kd T n q = 1 ∨ kd T n q = 2) ∧ rn isBb T n (af T n q) = af T n q))
def wq (T : Nat → Int) (n : Nat) (q : PS) : Prop := q.1 ≤ n ∧ (q.1 < n → isBb (T q.1) = false)
def isW (T : Nat → Int) (n : Nat) (q : PS) (w : List Int) : Bool := decide (kd T n q = 1 ∧ af T n q - q.1 = w.length ∧ ∀ i, i < w.length → T (q.1 + i) = w.getD i 0)
def isG (T : Nat → Int) (n : Nat) (q : PS) (c : Int) : Bool := decide (kd T n q = 3 ∧ T q.1 = c)
def fnd (T : Nat → Int) (n : Nat) (q : PS) : Nat → List (List Int) → Int
  | _, [] => -1
  | i, w :: r => if isW T n q w = true then (i : Int) else fnd T n q (i + 1) r
def tlW : List (List Int) → List Int
  | [] => []
  | w :: r => 32 :: (w ++ tlW r)
section KD
variable {T : Nat → Int} {n s : Nat} {q : PS}
theorem kd0_0 (h : n ≤ s) : kd0 T n s = 0 := if_pos h
theorem kd0_1 (h : ¬ n ≤ s) (h1 : 97 ≤ T s) (h2 : T s ≤ 122) : kd0 T n s = 1 := by
  unfold kd0; rw [if_neg h, if_pos (show isLb (T s) = true from decide_eq_true ⟨h1, h2⟩)]
theorem kd0_2 (h : ¬ n ≤ s) (h1 : 48 ≤ T s) (h2 : T s ≤ 57) : kd0 T n s = 2 := by
  unfold kd0
  rw [if_neg h, if_neg (show ¬ isLb (T s) = true from fun z => by have := of_decide_eq_true z; omega), if_pos (show isDb (T s) = true from decide_eq_true ⟨h1, h2⟩)]
theorem kd0_3 (h : ¬ n ≤ s) (h1 : ¬ (97 ≤ T s ∧ T s ≤ 122)) (h2 : ¬ (48 ≤ T s ∧ T s ≤ 57)) : kd0 T n s = 3 := by
  unfold kd0
  rw [if_neg h, if_neg (show ¬ isLb (T s) = true from fun z => h1 (of_decide_eq_true z)), if_neg (show ¬ isDb (T s) = true from fun z => h2 (of_decide_eq_true z))]
theorem kd0_c : (kd0 T n s = 0 ∧ n ≤ s) ∨ (kd0 T n s = 1 ∧ s < n ∧ isLb (T s) = true) ∨ (kd0 T n s = 2 ∧ s < n ∧ isDb (T s) = true) ∨ (kd0 T n s = 3 ∧ s < n ∧ isLb (T s) = false ∧ isDb (T s) = false) := by
  unfold kd0
  by_cases h : n ≤ s
  · rw [if_pos h]; exact Or.inl ⟨rfl, h⟩
  · rw [if_neg h]
    by_cases h1 : isLb (T s) = true
    · rw [if_pos h1]; exact Or.inr (Or.inl ⟨rfl, by omega, h1⟩)
    · rw [if_neg h1]
      by_cases h2 : isDb (T s) = true
      · rw [if_pos h2]; exact Or.inr (Or.inr (Or.inl ⟨rfl, by omega, h2⟩))
      · rw [if_neg h2]
        refine Or.inr (Or.inr (Or.inr ⟨rfl, by omega, ?_, ?_⟩))
        · cases e : isLb (T s) with | true => exact absurd e h1 | false => rfl
        · cases e : isDb (T s) with | true => exact absurd e h2 | false => rfl
theorem kd_c : kd T n q = kd0 T n q.1 ∨ (kd T n q = 4 ∧ (kd0 T n q.1 = 1 ∨ kd0 T n q.1 = 2)) := by
  unfold kd
  split
  · rename_i h; exact Or.inr ⟨rfl, h.2⟩
  · exact Or.inl rfl
theorem kd_1 (h : kd T n q = 1) : kd0 T n q.1 = 1 ∧ q.1 < n ∧ isLb (T q.1) = true ∧ q.2 = false ∧ af T n q = rn isLb T n q.1 := by
  have h0 : kd0 T n q.1 = 1 := by rcases kd_c (T := T) (n := n) (q := q) with e | e <;> omega
  have hq : q.2 = false := by
    unfold kd at h
    cases e : q.2 with
    | false => rfl
    | true => rw [if_pos ⟨e, Or.inl h0⟩] at h; cases h
  rcases kd0_c (T := T) (n := n) (s := q.1) with e | e | e | e
  · omega
  · exact ⟨h0, e.2.1, e.2.2, hq, if_pos h0⟩
  · omega
  · omega
theorem kd_2 (h : kd T n q = 2) : kd0 T n q.1 = 2 ∧ q.1 < n ∧ isDb (T q.1) = true ∧ q.2 = false ∧ af T n q = rn isDb T n q.1 := by
  have h0 : kd0 T n q.1 = 2 := by rcases kd_c (T := T) (n := n) (q := q) with e | e <;> omega
  have hq : q.2 = false := by
    unfold kd at h
    cases e : q.2 with
    | false => rfl
    | true => rw [if_pos ⟨e, Or.inr h0⟩] at h; cases h
  rcases kd0_c (T := T) (n := n) (s := q.1) with e | e | e | e
  · omega
  · omega
  · refine ⟨h0, e.2.1, e.2.2, hq, ?_⟩
    unfold af; rw [if_neg (by omega), if_pos h0]
  · omega
theorem kd_3 (h : kd T n q = 3) : kd0 T n q.1 = 3 ∧ q.1 < n ∧ isLb (T q.1) = false ∧ isDb (T q.1) = false ∧ af T n q = q.1 + 1 := by
  have h0 : kd0 T n q.1 = 3 := by rcases kd_c (T := T) (n := n) (q := q) with e | e <;> omega
  rcases kd0_c (T := T) (n := n) (s := q.1) with e | e | e | e
  · omega
  · omega
  · omega
  · refine ⟨h0, e.2.1, e.2.2.1, e.2.2.2, ?_⟩
    unfold af; rw [if_neg (by omega), if_neg (by omega), if_pos h0]
theorem kd_0 : kd T n q = 0 ↔ n ≤ q.1 := by
  rcases kd0_c (T := T) (n := n) (s := q.1) with e | e | e | e <;> rcases kd_c (T := T) (n := n) (q := q) with f | f <;> constructor <;> intro <;> omega
theorem af_b (h : q.1 ≤ n) : q.1 ≤ af T n q ∧ af T n q ≤ n ∧ (q.1 < n → q.1 < af T n q) := by
  unfold af
  rcases kd0_c (T := T) (n := n) (s := q.1) with e | e | e | e
  · rw [if_neg (by omega), if_neg (by omega), if_neg (by omega)]; omega
  · rw [if_pos e.1]; exact ⟨rn_ge, rn_le h, fun _ => rn_gt e.2.1 e.2.2⟩
  · rw [if_neg (by omega), if_pos e.1]; exact ⟨rn_ge, rn_le h, fun _ => rn_gt e.2.1 e.2.2⟩
  · rw [if_neg (by omega), if_neg (by omega), if_pos e.1]; omega
theorem wq_nx (h : q.1 ≤ n) : wq T n (nx T n q) := by
  have h1 := af_b (T := T) h
  exact ⟨rn_le h1.2.1, fun h2 => rn_out h2⟩
theorem nx_gt (h : q.1 < n) : q.1 < (nx T n q).1 := by
  have h1 := af_b (T := T) (q := q) (Nat.le_of_lt h)
  have h2 : af T n q ≤ (nx T n q).1 := rn_ge
  omega
theorem isW_kd {w : List Int} (h : ¬ kd T n q = 1) : isW T n q w = false := decide_eq_false (fun z => h z.1)
theorem fnd_kd {ws : List (List Int)} (h : ¬ kd T n q = 1) : ∀ i, fnd T n q i ws = -1 := by
  induction ws with
  | nil => intro i; rfl
  | cons w r ih =>
    intro i
    show (if isW T n q w = true then (i : Int) else fnd T n q (i + 1) r) = -1
    rw [isW_kd h, if_neg (by decide)]; exact ih (i + 1)
theorem isW_kd1 {w : List Int} (h : isW T n q w = true) : kd T n q = 1 := (of_decide_eq_true h).1
theorem isG_kd3 {c : Int} (h : isG T n q c = true) : kd T n q = 3 := (of_decide_eq_true h).1
end KD
def CT (T : Nat → Int) (n : Nat) (q : PS) (M : ax_M) : Prop := M 1 1 = (n : Int) ∧ M 1 2 = kd T n q ∧ M 1 3 = (q.1 : Int) ∧ M 1 4 = (af T n q : Int) ∧ (∀ i, i < 1600 → M 2 i = T i) ∧ M 1 8 = 0 ∧ M 1 9 = -1
def WSP : ax_W := ([], [(1, 2), (1, 3), (1, 4)])
def WFL : ax_W := ([], [(1, 8), (1, 9)])
theorem CT.sb {T : Nat → Int} {n : Nat} {q : PS} {M M1 : ax_M} {W : ax_W} (h : CT T n q M) (hS : Sb W M M1) (h1 : wb W 1 1 = false) (h2 : wb W 1 2 = false) (h3 : wb W 1 3 = false) (h4 : wb W 1 4 = false) (h5 : (W.1.all (fun e => Nat.ble e.2 2 || Nat.ble 3 e.1) && W.2.all (fun e => Nat.ble (e.1 + 1) 2 || Nat.ble 3 e.1)) = true) (h8 : wb W 1 8 = false) (h9 : wb W 1 9 = false) : CT T n q M1 :=
  ⟨(hS _ _ h1).trans h.1, (hS _ _ h2).trans h.2.1, (hS _ _ h3).trans h.2.2.1, (hS _ _ h4).trans h.2.2.2.1, fun i hi => (hS _ _ (wbo 2 3 h5 (by decide) (by decide))).trans (h.2.2.2.2.1 i hi), (hS _ _ h8).trans h.2.2.2.2.2.1, (hS _ _ h9).trans h.2.2.2.2.2.2⟩
section CTX
variable {L : Nat} {X : Nat → Int} {M : ax_M} {T : Nat → Int} {n : Nat} {q : PS}
theorem m91 (hF : Fix M) (hn : n ≤ 1600) (h1 : M 1 1 = (n : Int)) (hT : ∀ i, i < 1600 → M 2 i = T i) {s : Nat} : ax_Ev L X SH 0 91 [(2, 1), (0, (s : Int))] M (R1 0 (fun x M' => x = kd0 T n s ∧ M' = M)) := by
  show ax_G L X SH 0 91 0 [(2, 1), (0, (s : Int)), (3, 0)] [] M _
  have hC := at91
  have hw : wok WSP = true := by decide +kernel
  have hS : Sb WSP M M := Sb.refl
  refine g3 hC rfl rfl ?_
  refine g3 hC rfl rfl ?_
  refine g19 hC rfl rfl (Nat.le_of_ble_eq_true rfl) rfl h1 ?_
  refine g13l hC rfl (fun h3 => ?_) (fun h3 => ?_)
  ·
    refine g3 hC rfl rfl ?_
    refine g19 hC rfl rfl (Nat.le_of_ble_eq_true rfl) rfl ((hS.fix hw hF).g rfl) ?_
    refine g3 hC rfl rfl ?_
    refine r21 (s) hC rfl rfl rfl (Or.inl rfl) (by omega) (hT s (by omega)) ?_
    refine s2 hC rfl rfl rfl ?_
    refine g3 hC rfl rfl ?_
    refine g0 hC rfl ?_
    refine g13l hC rfl (fun h13 => ?_) (fun h13 => ?_)
    ·
      refine g3 hC rfl rfl ?_
      refine g0 hC rfl ?_
      refine g13l hC rfl (fun h21 => ?_) (fun h21 => ?_)
      ·
        refine g0 hC rfl ?_
        refine ret1 hC rfl rfl ?_
        first
          | exact ⟨(kd0_3 (by omega) (by omega) (by omega)).symm, rfl⟩
          | exact ⟨(kd0_2 (by omega) (by omega) (by omega)).symm, rfl⟩
          | exact ⟨(kd0_1 (by omega) (by omega) (by omega)).symm, rfl⟩
          | exact ⟨(kd0_0 (by omega)).symm, rfl⟩
          | (exfalso; omega)
      ·
        refine g3 hC rfl rfl ?_
        refine g0 hC rfl ?_
        refine g13t hC rfl (fun h24 => ?_) (fun h24 => ?_)
        ·
          refine g0 hC rfl ?_
          refine ret1 hC rfl rfl ?_
          first
            | exact ⟨(kd0_3 (by omega) (by omega) (by omega)).symm, rfl⟩
            | exact ⟨(kd0_2 (by omega) (by omega) (by omega)).symm, rfl⟩
            | exact ⟨(kd0_1 (by omega) (by omega) (by omega)).symm, rfl⟩
            | exact ⟨(kd0_0 (by omega)).symm, rfl⟩
            | (exfalso; omega)
        ·
          refine g0 hC rfl ?_
          refine g14 hC rfl ?_
          refine ret1 hC rfl rfl ?_
          first
            | exact ⟨(kd0_3 (by omega) (by omega) (by omega)).symm, rfl⟩
            | exact ⟨(kd0_2 (by omega) (by omega) (by omega)).symm, rfl⟩
            | exact ⟨(kd0_1 (by omega) (by omega) (by omega)).symm, rfl⟩
            | exact ⟨(kd0_0 (by omega)).symm, rfl⟩
            | (exfalso; omega)
    ·
      refine g3 hC rfl rfl ?_
      refine g0 hC rfl ?_
      refine g13t hC rfl (fun h16 => ?_) (fun h16 => ?_)
      ·
        refine g3 hC rfl rfl ?_
        refine g0 hC rfl ?_
        refine g13l hC rfl (fun h21 => ?_) (fun h21 => ?_)
        ·
          refine g0 hC rfl ?_
          refine ret1 hC rfl rfl ?_
          first
            | exact ⟨(kd0_3 (by omega) (by omega) (by omega)).symm, rfl⟩
            | exact ⟨(kd0_2 (by omega) (by omega) (by omega)).symm, rfl⟩
            | exact ⟨(kd0_1 (by omega) (by omega) (by omega)).symm, rfl⟩
            | exact ⟨(kd0_0 (by omega)).symm, rfl⟩
            | (exfalso; omega)
        ·
          refine g3 hC rfl rfl ?_
          refine g0 hC rfl ?_
          refine g13t hC rfl (fun h24 => ?_) (fun h24 => ?_)
          ·
            refine g0 hC rfl ?_
            refine ret1 hC rfl rfl ?_
            first
              | exact ⟨(kd0_3 (by omega) (by omega) (by omega)).symm, rfl⟩
              | exact ⟨(kd0_2 (by omega) (by omega) (by omega)).symm, rfl⟩
              | exact ⟨(kd0_1 (by omega) (by omega) (by omega)).symm, rfl⟩
              | exact ⟨(kd0_0 (by omega)).symm, rfl⟩
              | (exfalso; omega)
          ·
            refine g0 hC rfl ?_
            refine g14 hC rfl ?_
            refine ret1 hC rfl rfl ?_
            first
              | exact ⟨(kd0_3 (by omega) (by omega) (by omega)).symm, rfl⟩
              | exact ⟨(kd0_2 (by omega) (by omega) (by omega)).symm, rfl⟩
              | exact ⟨(kd0_1 (by omega) (by omega) (by omega)).symm, rfl⟩
              | exact ⟨(kd0_0 (by omega)).symm, rfl⟩
              | (exfalso; omega)
      ·
        refine g0 hC rfl ?_
        refine ret1 hC rfl rfl ?_
        first
          | exact ⟨(kd0_3 (by omega) (by omega) (by omega)).symm, rfl⟩
          | exact ⟨(kd0_2 (by omega) (by omega) (by omega)).symm, rfl⟩
          | exact ⟨(kd0_1 (by omega) (by omega) (by omega)).symm, rfl⟩
          | exact ⟨(kd0_0 (by omega)).symm, rfl⟩
          | (exfalso; omega)
  ·
    refine g0 hC rfl ?_
    refine ret1 hC rfl rfl ?_
    first
      | exact ⟨(kd0_3 (by omega) (by omega) (by omega)).symm, rfl⟩
      | exact ⟨(kd0_2 (by omega) (by omega) (by omega)).symm, rfl⟩
      | exact ⟨(kd0_1 (by omega) (by omega) (by omega)).symm, rfl⟩
      | exact ⟨(kd0_0 (by omega)).symm, rfl⟩
      | (exfalso; omega)
theorem m89 {f p : Int} : ax_Ev L X SH 0 89 [(2, 1), (0, f), (0, p)] M (R1 0 (fun x M' => x = 0 ∧ M' = ax_up (ax_up M 1 8 f) 1 9 p)) := by
  show ax_G L X SH 0 89 0 [(2, 1), (0, f), (0, p)] [] M _
  have hC := at89
  have hS : Sb WFL M M := Sb.refl
  refine g3 hC rfl rfl ?_
  refine g3 hC rfl rfl ?_
  refine g20s hC rfl rfl (Nat.le_of_ble_eq_true rfl) rfl hS rfl (fun hS => ?_)
  refine g3 hC rfl rfl ?_
  refine g3 hC rfl rfl ?_
  refine g20s hC rfl rfl (Nat.le_of_ble_eq_true rfl) rfl hS rfl (fun hS => ?_)
  refine g0 hC rfl ?_
  refine ret3 hC rfl ⟨by omega, by omega⟩ ?_
  exact ⟨rfl, rfl⟩
theorem m90 (hF : Fix M) (hn : n ≤ 1600) (h1 : M 1 1 = (n : Int)) (hT : ∀ i, i < 1600 → M 2 i = T i) {k : Int} {a : Nat} (hk : M 1 2 = k) (ha : M 1 4 = (a : Int)) (han : a ≤ n) (hf : M 1 8 = 0 ∧ M 1 9 = -1) : ax_Ev L X SH 1 90 [(2, 1)] M (R0 (fun M' => Sb WSP M M' ∧ CT T n (rn isBb T n a, decide ((k = 1 ∨ k = 2) ∧ rn isBb T n a = a)) M')) := by
  show ax_G L X SH 1 90 0 [(2, 1), (3, 0), (3, 0), (3, 0), (3, 0)] [] M _
  obtain ⟨P, hP⟩ : ∃ P, P = fun M' => Sb WSP M M' ∧ CT T n (rn isBb T n a, decide ((k = 1 ∨ k = 2) ∧ rn isBb T n a = a)) M' := ⟨_, rfl⟩
  rw [← hP]
  have hC := at90
  have hw : wok WSP = true := by decide +kernel
  have hS : Sb WSP M M := Sb.refl
  obtain ⟨s, hs⟩ : ∃ s, s = rn isBb T n a := ⟨_, rfl⟩
  have hsa : a ≤ s := by rw [hs]; exact rn_ge
  have hsn : s ≤ n := by rw [hs]; exact rn_le han
  obtain ⟨g, hg⟩ : ∃ g : Bool, g = decide ((k = 1 ∨ k = 2) ∧ s = a) := ⟨_, rfl⟩
  rw [← hs, ← hg] at hP
  have hkc := kd0_c (T := T) (n := n) (s := s)
  have hafb := af_b (T := T) (n := n) (q := (s, g)) hsn
  have fin : ∀ (M1 : ax_M) (e : Nat) (w t : Int), Sb WSP M M1 → M1 1 2 = kd0 T n s → M1 1 3 = (s : Int) → (w = 0 ∨ w = 1) → (w = 1 ↔ kd0 T n s = 1 ∨ kd0 T n s = 2) → (t = 1 ↔ g = true) → (t = 0 ∨ t = 1) → (kd0 T n s = 3 → e = s) → (kd0 T n s ≠ 3 → e = af T n (s, g)) → ∀ b, ax_G L X SH 1 90 77 [(2, 1), (0, b), (0, (e : Int)), (0, t), (0, w)] [] M1 (R0 P) := by
    intro M1 e w t hS e2 e3 hw0 hw1 ht1 ht0 he3 he b
    have done : ∀ M2, Sb WSP M M2 → M2 1 3 = (s : Int) → M2 1 4 = (af T n (s, g) : Int) → M2 1 2 = kd T n (s, g) → P M2 := by
      intro M2 hS2 f1 f2 f3
      rw [hP]
      exact ⟨hS2, (hS2 1 1 rfl).trans h1, f3, f1, f2, fun i hi => (hS2 2 i rfl).trans (hT i hi), (hS2 1 8 rfl).trans hf.1, (hS2 1 9 rfl).trans hf.2⟩
    have ekd : kd T n (s, g) = if g = true ∧ (kd0 T n s = 1 ∨ kd0 T n s = 2) then 4 else kd0 T n s := rfl
    have e3a : kd0 T n s = 3 → af T n (s, g) = s + 1 := by
      intro h; unfold af; rw [if_neg (by show ¬ kd0 T n s = 1; omega), if_neg (by show ¬ kd0 T n s = 2; omega), if_pos (by exact h)]
    refine g3 hC rfl rfl ?_
    refine g3 hC rfl rfl ?_
    refine g19 hC rfl rfl (Nat.le_of_ble_eq_true rfl) rfl e2 ?_
    refine g0 hC rfl ?_
    refine g13n hC rfl (fun h81 => ?_) (fun h81 => ?_)
    ·
      refine g3 hC rfl rfl ?_
      refine g20s hC rfl rfl (Nat.le_of_ble_eq_true rfl) rfl hS rfl (fun hS => ?_)
      refine g3 hC rfl rfl ?_
      refine g12e hC rfl (fun h89 => ?_) (fun h89 => ?_)
      ·
        refine ret0 hC rfl ?_
        refine done _ hS ?_ ?_ ?_
        all_goals first
          | (rw [ax_up_of (by decide), ax_up_of (by decide)]; exact e3)
          | (rw [ax_up_of (by decide)]; exact e3)
          | (rw [ax_up_of (by decide), ax_up_at]; omega)
          | (rw [ax_up_at]; omega)
          | (rw [ax_up_at, ekd, if_pos ⟨ht1.1 (by omega), hw1.1 (by omega)⟩])
          | (rw [ax_up_of (by decide), ekd, if_neg (fun z => by have := ht1.2 z.1; have := hw1.2 z.2; omega)]; exact e2)
      ·
        refine g3 hC rfl rfl ?_
        refine g12e hC rfl (fun h91 => ?_) (fun h91 => ?_)
        ·
          refine ret0 hC rfl ?_
          refine done _ hS ?_ ?_ ?_
          all_goals first
            | (rw [ax_up_of (by decide), ax_up_of (by decide)]; exact e3)
            | (rw [ax_up_of (by decide)]; exact e3)
            | (rw [ax_up_of (by decide), ax_up_at]; omega)
            | (rw [ax_up_at]; omega)
            | (rw [ax_up_at, ekd, if_pos ⟨ht1.1 (by omega), hw1.1 (by omega)⟩])
            | (rw [ax_up_of (by decide), ekd, if_neg (fun z => by have := ht1.2 z.1; have := hw1.2 z.2; omega)]; exact e2)
        ·
          refine g3 hC rfl rfl ?_
          refine g0 hC rfl ?_
          refine g20s hC rfl rfl (Nat.le_of_ble_eq_true rfl) rfl hS rfl (fun hS => ?_)
          refine ret0 hC rfl ?_
          refine done _ hS ?_ ?_ ?_
          all_goals first
            | (rw [ax_up_of (by decide), ax_up_of (by decide)]; exact e3)
            | (rw [ax_up_of (by decide)]; exact e3)
            | (rw [ax_up_of (by decide), ax_up_at]; omega)
            | (rw [ax_up_at]; omega)
            | (rw [ax_up_at, ekd, if_pos ⟨ht1.1 (by omega), hw1.1 (by omega)⟩])
            | (rw [ax_up_of (by decide), ekd, if_neg (fun z => by have := ht1.2 z.1; have := hw1.2 z.2; omega)]; exact e2)
    ·
      refine g3 hC rfl rfl ?_
      refine g0 hC rfl ?_
      refine g6a hC rfl ⟨by omega, by omega⟩ ?_
      refine g14 hC rfl ?_
      refine g20s hC rfl rfl (Nat.le_of_ble_eq_true rfl) rfl hS rfl (fun hS => ?_)
      refine g3 hC rfl rfl ?_
      refine g12e hC rfl (fun h89 => ?_) (fun h89 => ?_)
      ·
        refine ret0 hC rfl ?_
        refine done _ hS ?_ ?_ ?_
        all_goals first
          | (rw [ax_up_of (by decide), ax_up_of (by decide)]; exact e3)
          | (rw [ax_up_of (by decide)]; exact e3)
          | (rw [ax_up_of (by decide), ax_up_at]; omega)
          | (rw [ax_up_at]; omega)
          | (rw [ax_up_at, ekd, if_pos ⟨ht1.1 (by omega), hw1.1 (by omega)⟩])
          | (rw [ax_up_of (by decide), ekd, if_neg (fun z => by have := ht1.2 z.1; have := hw1.2 z.2; omega)]; exact e2)
      ·
        refine g3 hC rfl rfl ?_
        refine g12e hC rfl (fun h91 => ?_) (fun h91 => ?_)
        ·
          refine ret0 hC rfl ?_
          refine done _ hS ?_ ?_ ?_
          all_goals first
            | (rw [ax_up_of (by decide), ax_up_of (by decide)]; exact e3)
            | (rw [ax_up_of (by decide)]; exact e3)
            | (rw [ax_up_of (by decide), ax_up_at]; omega)
            | (rw [ax_up_at]; omega)
            | (rw [ax_up_at, ekd, if_pos ⟨ht1.1 (by omega), hw1.1 (by omega)⟩])
            | (rw [ax_up_of (by decide), ekd, if_neg (fun z => by have := ht1.2 z.1; have := hw1.2 z.2; omega)]; exact e2)
        ·
          refine g3 hC rfl rfl ?_
          refine g0 hC rfl ?_
          refine g20s hC rfl rfl (Nat.le_of_ble_eq_true rfl) rfl hS rfl (fun hS => ?_)
          refine ret0 hC rfl ?_
          refine done _ hS ?_ ?_ ?_
          all_goals first
            | (rw [ax_up_of (by decide), ax_up_of (by decide)]; exact e3)
            | (rw [ax_up_of (by decide)]; exact e3)
            | (rw [ax_up_of (by decide), ax_up_at]; omega)
            | (rw [ax_up_at]; omega)
            | (rw [ax_up_at, ekd, if_pos ⟨ht1.1 (by omega), hw1.1 (by omega)⟩])
            | (rw [ax_up_of (by decide), ekd, if_neg (fun z => by have := ht1.2 z.1; have := hw1.2 z.2; omega)]; exact e2)
  have loop : ∀ (κ : Int) (p : Int → Bool), (∀ i, kd0 T n i = κ ↔ i < n ∧ p (T i) = true) → kd0 T n s = κ → (κ = 1 ∨ κ = 2) → af T n (s, g) = rn p T n s → ∀ (M1 : ax_M) (t b : Int), Sb WSP M M1 → M1 1 2 = kd0 T n s → M1 1 3 = (s : Int) → (t = 1 ↔ g = true) → (t = 0 ∨ t = 1) → ∀ (m i : Nat), i + m = rn p T n s - s → ∀ ll M2, (ll = [(2, 1), (0, b), (0, ((s + i : Nat) : Int)), (0, t), (0, 1)] ∧ M2 = M1) → ax_G L X SH 1 90 63 ll [] M2 (R0 P) := by
    intro κ p hp hκ hκ2 haf M1 t b hS e2 e3 ht1 ht0
    have hge : s ≤ rn p T n s := rn_ge
    refine lp ?_ ?_
    · rintro ll M2 ⟨rfl, rfl⟩
      have hend : ¬ (rn p T n s < n ∧ kd0 T n (rn p T n s) = κ) := by
        rintro ⟨z1, z2⟩
        have := rn_out z1
        rw [((hp _).1 z2).2] at this; cases this
      rw [show s + (rn p T n s - s) = rn p T n s by omega]
      obtain ⟨e, he⟩ : ∃ e, e = rn p T n s := ⟨_, rfl⟩
      rw [← he] at hend ⊢
      have k77 := fin M2 e 1 t hS e2 e3 (Or.inr rfl) ⟨fun _ => by omega, fun _ => rfl⟩ ht1 ht0 (by omega) (fun _ => by omega) b
      refine g3 hC rfl rfl ?_
      refine g12e hC rfl (fun h64 => (by omega)) (fun h64 => ?_)
      refine g3 hC rfl rfl ?_
      refine g3 hC rfl rfl ?_
      refine g19 hC rfl rfl (Nat.le_of_ble_eq_true rfl) rfl ((hS 1 1 rfl).trans h1) ?_
      refine g13g hC rfl (fun h68 => ?_) (fun h68 => ?_)
      ·
        exact k77
      ·
        refine g3 hC rfl rfl ?_
        refine g3 hC rfl rfl ?_
        refine c1 hC rfl rfl rfl (Nat.le_of_ble_eq_true rfl) (Nat.le_of_ble_eq_true rfl) rfl (m91 (hS.fix hw hF) hn ((hS 1 1 rfl).trans h1) (fun i hi => (hS 2 i rfl).trans (hT i hi)) (s := e)) (Nat.le_of_ble_eq_true rfl) (fun x M2 hr => ?_)
        obtain ⟨rfl, hr⟩ := hr
        replace hr := hr.symm
        subst hr
        refine g3 hC rfl rfl ?_
        refine g19 hC rfl rfl (Nat.le_of_ble_eq_true rfl) rfl e2 ?_
        refine g13n hC rfl (fun h74 => ?_) (fun h74 => ?_)
        ·
          exact k77
        ·
          refine n2 hC rfl rfl ⟨by omega, by omega⟩ ?_
          refine g14 hC rfl ?_
          exfalso; exact hend ⟨by omega, by omega⟩
    · rintro i hi ll M2 ⟨rfl, rfl⟩ hnext
      have hin : s + i < n ∧ kd0 T n (s + i) = κ := by
        have z : p (T (s + i)) = true := rn_in (n := n) (i := s) (by omega) (by omega)
        have z2 : rn p T n s ≤ n := rn_le hsn
        exact ⟨by omega, (hp _).2 ⟨by omega, z⟩⟩
      refine g3 hC rfl rfl ?_
      refine g12e hC rfl (fun h64 => (by omega)) (fun h64 => ?_)
      refine g3 hC rfl rfl ?_
      refine g3 hC rfl rfl ?_
      refine g19 hC rfl rfl (Nat.le_of_ble_eq_true rfl) rfl ((hS 1 1 rfl).trans h1) ?_
      refine g13g hC rfl (fun h68 => (by omega)) (fun h68 => ?_)
      refine g3 hC rfl rfl ?_
      refine g3 hC rfl rfl ?_
      refine c1 hC rfl rfl rfl (Nat.le_of_ble_eq_true rfl) (Nat.le_of_ble_eq_true rfl) rfl (m91 (hS.fix hw hF) hn ((hS 1 1 rfl).trans h1) (fun i hi => (hS 2 i rfl).trans (hT i hi)) (s := s + i)) (Nat.le_of_ble_eq_true rfl) (fun x M2 hr => ?_)
      obtain ⟨rfl, hr⟩ := hr
      replace hr := hr.symm
      subst hr
      refine g3 hC rfl rfl ?_
      refine g19 hC rfl rfl (Nat.le_of_ble_eq_true rfl) rfl e2 ?_
      refine g13n hC rfl (fun h74 => (by omega)) (fun h74 => ?_)
      refine n2 hC rfl rfl ⟨by omega, by omega⟩ ?_
      refine g14 hC rfl ?_
      exact hnext _ _ ⟨by rw [show ((s + i : Nat) : Int) + 1 = ((s + (i + 1) : Nat) : Int) by omega], rfl⟩
  have c2 : ∀ t b : Int, (t = 1 ↔ g = true) → (t = 0 ∨ t = 1) → ax_G L X SH 1 90 42 [(2, 1), (0, b), (0, (s : Int)), (3, 0), (3, 0)] [(0, t)] M (R0 P) := by
    intro t b ht1 ht0
    have pL : ∀ i, kd0 T n i = 1 ↔ i < n ∧ isLb (T i) = true := by
      intro i
      rcases kd0_c (T := T) (n := n) (s := i) with e | e | e | e
      · exact ⟨fun z => by omega, fun z => by omega⟩
      · exact ⟨fun _ => e.2, fun _ => e.1⟩
      · refine ⟨fun z => by omega, fun z => ?_⟩
        have z1 := of_decide_eq_true z.2; have z2 := of_decide_eq_true e.2.2; omega
      · exact ⟨fun z => by omega, fun z => by rw [e.2.2.1] at z; cases z.2⟩
    have pD : ∀ i, kd0 T n i = 2 ↔ i < n ∧ isDb (T i) = true := by
      intro i
      rcases kd0_c (T := T) (n := n) (s := i) with e | e | e | e
      · exact ⟨fun z => by omega, fun z => by omega⟩
      · refine ⟨fun z => by omega, fun z => ?_⟩
        have z1 := of_decide_eq_true z.2; have z2 := of_decide_eq_true e.2.2; omega
      · exact ⟨fun _ => e.2, fun _ => e.1⟩
      · exact ⟨fun z => by omega, fun z => by rw [e.2.2.2] at z; cases z.2⟩
    have af0 : kd0 T n s = 0 → af T n (s, g) = s := by
      intro h; unfold af; rw [if_neg (by show ¬ kd0 T n s = 1; omega), if_neg (by show ¬ kd0 T n s = 2; omega), if_neg (by show ¬ kd0 T n s = 3; omega)]
    have hge : s ≤ rn isLb T n s ∧ s ≤ rn isDb T n s := ⟨rn_ge, rn_ge⟩
    have no : ∀ M2, Sb WSP M M2 → M2 1 2 = kd0 T n s → M2 1 3 = (s : Int) → (kd0 T n s = 0 ∨ kd0 T n s = 3) → ax_G L X SH 1 90 63 [(2, 1), (0, b), (0, (s : Int)), (0, t), (0, 0)] [] M2 (R0 P) := by
      intro M2 hS2 e2 e3 h03
      have k77 := fin M2 s 0 t hS2 e2 e3 (Or.inl rfl) ⟨fun z => by omega, fun z => by omega⟩ ht1 ht0 (fun _ => rfl) (fun z => (af0 (by omega)).symm) b
      refine g3 hC rfl rfl ?_
      refine g12e hC rfl (fun h64 => ?_) (fun h64 => (by omega))
      exact k77
    refine s3 hC rfl rfl rfl ?_
    refine g3 hC rfl rfl ?_
    refine g3 hC rfl rfl ?_
    refine g20s hC rfl rfl (Nat.le_of_ble_eq_true rfl) rfl hS rfl (fun hS => ?_)
    refine g3 hC rfl rfl ?_
    refine g3 hC rfl rfl ?_
    refine g3 hC rfl rfl ?_
    refine c1 hC rfl rfl rfl (Nat.le_of_ble_eq_true rfl) (Nat.le_of_ble_eq_true rfl) rfl (m91 (hS.fix hw hF) hn ((hS 1 1 rfl).trans h1) (fun i hi => (hS 2 i rfl).trans (hT i hi)) (s := s)) (Nat.le_of_ble_eq_true rfl) (fun x M2 hr => ?_)
    obtain ⟨rfl, hr⟩ := hr; replace hr := hr.symm; subst hr
    refine g20s hC rfl rfl (Nat.le_of_ble_eq_true rfl) rfl hS rfl (fun hS => ?_)
    refine g3 hC rfl rfl ?_
    refine g19 hC rfl rfl (Nat.le_of_ble_eq_true rfl) rfl ax_up_at ?_
    refine g0 hC rfl ?_
    refine g13e hC rfl (fun h54 => ?_) (fun h54 => ?_)
    ·
      refine g0 hC rfl ?_
      refine g14 hC rfl ?_
      refine s4 hC rfl rfl rfl ?_
      exact loop 1 isLb pL (by omega) (Or.inl rfl) (by unfold af; rw [if_pos (by show kd0 T n s = 1; omega)]) _ t b hS ax_up_at (by rw [ax_up_of (by decide), ax_up_at]) ht1 ht0 (rn isLb T n s - s) 0 (by omega) _ _ ⟨rfl, rfl⟩
    ·
      refine g3 hC rfl rfl ?_
      refine g19 hC rfl rfl (Nat.le_of_ble_eq_true rfl) rfl ax_up_at ?_
      refine g0 hC rfl ?_
      refine g13n hC rfl (fun h58 => ?_) (fun h58 => ?_)
      ·
        refine g0 hC rfl ?_
        refine s4 hC rfl rfl rfl ?_
        exact no _ hS ax_up_at (by rw [ax_up_of (by decide), ax_up_at]) (by omega)
      ·
        refine g0 hC rfl ?_
        refine g14 hC rfl ?_
        refine s4 hC rfl rfl rfl ?_
        exact loop 2 isDb pD (by omega) (Or.inr rfl) (by unfold af; rw [if_neg (by show ¬ kd0 T n s = 1; omega), if_pos (by show kd0 T n s = 2; omega)]) _ t b hS ax_up_at (by rw [ax_up_of (by decide), ax_up_at]) ht1 ht0 (rn isDb T n s - s) 0 (by omega) _ _ ⟨rfl, rfl⟩
  have l1 : ∀ b : Int, (b = 0 ∨ b = 1) → (b = 1 ↔ k = 1 ∨ k = 2) → ∀ (m i : Nat), i + m = s - a → ∀ ll M2, (ll = [(2, 1), (0, b), (0, ((a + i : Nat) : Int)), (3, 0), (3, 0)] ∧ M2 = M) → ax_G L X SH 1 90 15 ll [] M2 (R0 P) := by
    intro b hb0 hb1
    refine lp ?_ ?_
    · rintro ll M2 ⟨rfl, rfl⟩
      rw [show a + (s - a) = s by omega]
      have hend : ¬ (s < n ∧ (T s = 10 ∨ T s = 32)) := by
        rintro ⟨z1, z2⟩
        rw [hs] at z1
        have := rn_out z1
        rw [← hs] at this
        rw [show isBb (T s) = true from decide_eq_true z2] at this; cases this
      refine g3 hC rfl rfl ?_
      refine g3 hC rfl rfl ?_
      refine g19 hC rfl rfl (Nat.le_of_ble_eq_true rfl) rfl h1 ?_
      refine g13g hC rfl (fun h18 => ?_) (fun h18 => ?_)
      ·
        refine g3 hC rfl rfl ?_
        refine g12e hC rfl (fun h34 => ?_) (fun h34 => ?_)
        ·
          refine g0 hC rfl ?_
          first
            | (exfalso; exact hend ⟨by omega, by omega⟩)
            | (refine c2 0 b ⟨fun z => by omega, fun z => ?_⟩ (Or.inl rfl); rw [hg] at z; have := of_decide_eq_true z; exfalso; omega)
            | (refine c2 1 b ⟨fun _ => ?_, fun _ => rfl⟩ (Or.inr rfl); rw [hg]; exact decide_eq_true ⟨hb1.1 (by omega), by omega⟩)
        ·
          refine g3 hC rfl rfl ?_
          refine g3 hC rfl rfl ?_
          refine g19 hC rfl rfl (Nat.le_of_ble_eq_true rfl) rfl ha ?_
          refine g13n hC rfl (fun h38 => ?_) (fun h38 => ?_)
          ·
            refine g0 hC rfl ?_
            first
              | (exfalso; exact hend ⟨by omega, by omega⟩)
              | (refine c2 0 b ⟨fun z => by omega, fun z => ?_⟩ (Or.inl rfl); rw [hg] at z; have := of_decide_eq_true z; exfalso; omega)
              | (refine c2 1 b ⟨fun _ => ?_, fun _ => rfl⟩ (Or.inr rfl); rw [hg]; exact decide_eq_true ⟨hb1.1 (by omega), by omega⟩)
          ·
            refine g0 hC rfl ?_
            refine g14 hC rfl ?_
            first
              | (exfalso; exact hend ⟨by omega, by omega⟩)
              | (refine c2 0 b ⟨fun z => by omega, fun z => ?_⟩ (Or.inl rfl); rw [hg] at z; have := of_decide_eq_true z; exfalso; omega)
              | (refine c2 1 b ⟨fun _ => ?_, fun _ => rfl⟩ (Or.inr rfl); rw [hg]; exact decide_eq_true ⟨hb1.1 (by omega), by omega⟩)
      ·
        refine g3 hC rfl rfl ?_
        refine g19 hC rfl rfl (Nat.le_of_ble_eq_true rfl) rfl ((hS.fix hw hF).g rfl) ?_
        refine g3 hC rfl rfl ?_
        refine r21 (s) hC rfl rfl rfl (Or.inl rfl) (by omega) (hT s (by omega)) ?_
        refine g0 hC rfl ?_
        refine g13e hC rfl (fun h24 => ?_) (fun h24 => ?_)
        ·
          refine n2 hC rfl rfl ⟨by omega, by omega⟩ ?_
          refine g14 hC rfl ?_
          first
            | (exfalso; exact hend ⟨by omega, by omega⟩)
            | (refine c2 0 b ⟨fun z => by omega, fun z => ?_⟩ (Or.inl rfl); rw [hg] at z; have := of_decide_eq_true z; exfalso; omega)
            | (refine c2 1 b ⟨fun _ => ?_, fun _ => rfl⟩ (Or.inr rfl); rw [hg]; exact decide_eq_true ⟨hb1.1 (by omega), by omega⟩)
        ·
          refine g3 hC rfl rfl ?_
          refine g19 hC rfl rfl (Nat.le_of_ble_eq_true rfl) rfl ((hS.fix hw hF).g rfl) ?_
          refine g3 hC rfl rfl ?_
          refine r21 (s) hC rfl rfl rfl (Or.inl rfl) (by omega) (hT s (by omega)) ?_
          refine g0 hC rfl ?_
          refine g13n hC rfl (fun h30 => ?_) (fun h30 => ?_)
          ·
            refine g3 hC rfl rfl ?_
            refine g12e hC rfl (fun h34 => ?_) (fun h34 => ?_)
            ·
              refine g0 hC rfl ?_
              first
                | (exfalso; exact hend ⟨by omega, by omega⟩)
                | (refine c2 0 b ⟨fun z => by omega, fun z => ?_⟩ (Or.inl rfl); rw [hg] at z; have := of_decide_eq_true z; exfalso; omega)
                | (refine c2 1 b ⟨fun _ => ?_, fun _ => rfl⟩ (Or.inr rfl); rw [hg]; exact decide_eq_true ⟨hb1.1 (by omega), by omega⟩)
            ·
              refine g3 hC rfl rfl ?_
              refine g3 hC rfl rfl ?_
              refine g19 hC rfl rfl (Nat.le_of_ble_eq_true rfl) rfl ha ?_
              refine g13n hC rfl (fun h38 => ?_) (fun h38 => ?_)
              ·
                refine g0 hC rfl ?_
                first
                  | (exfalso; exact hend ⟨by omega, by omega⟩)
                  | (refine c2 0 b ⟨fun z => by omega, fun z => ?_⟩ (Or.inl rfl); rw [hg] at z; have := of_decide_eq_true z; exfalso; omega)
                  | (refine c2 1 b ⟨fun _ => ?_, fun _ => rfl⟩ (Or.inr rfl); rw [hg]; exact decide_eq_true ⟨hb1.1 (by omega), by omega⟩)
              ·
                refine g0 hC rfl ?_
                refine g14 hC rfl ?_
                first
                  | (exfalso; exact hend ⟨by omega, by omega⟩)
                  | (refine c2 0 b ⟨fun z => by omega, fun z => ?_⟩ (Or.inl rfl); rw [hg] at z; have := of_decide_eq_true z; exfalso; omega)
                  | (refine c2 1 b ⟨fun _ => ?_, fun _ => rfl⟩ (Or.inr rfl); rw [hg]; exact decide_eq_true ⟨hb1.1 (by omega), by omega⟩)
          ·
            refine n2 hC rfl rfl ⟨by omega, by omega⟩ ?_
            refine g14 hC rfl ?_
            first
              | (exfalso; exact hend ⟨by omega, by omega⟩)
              | (refine c2 0 b ⟨fun z => by omega, fun z => ?_⟩ (Or.inl rfl); rw [hg] at z; have := of_decide_eq_true z; exfalso; omega)
              | (refine c2 1 b ⟨fun _ => ?_, fun _ => rfl⟩ (Or.inr rfl); rw [hg]; exact decide_eq_true ⟨hb1.1 (by omega), by omega⟩)
    · rintro i hi ll M2 ⟨rfl, rfl⟩ hnext
      have z : isBb (T (a + i)) = true := rn_in (n := n) (i := a) (by omega) (by omega)
      have z := of_decide_eq_true z
      refine g3 hC rfl rfl ?_
      refine g3 hC rfl rfl ?_
      refine g19 hC rfl rfl (Nat.le_of_ble_eq_true rfl) rfl h1 ?_
      refine g13g hC rfl (fun h18 => (by omega)) (fun h18 => ?_)
      refine g3 hC rfl rfl ?_
      refine g19 hC rfl rfl (Nat.le_of_ble_eq_true rfl) rfl ((hS.fix hw hF).g rfl) ?_
      refine g3 hC rfl rfl ?_
      refine r21 (a+i) hC rfl rfl rfl (Or.inl rfl) (by omega) (hT (a+i) (by omega)) ?_
      refine g0 hC rfl ?_
      refine g13e hC rfl (fun h24 => ?_) (fun h24 => ?_)
      ·
        refine n2 hC rfl rfl ⟨by omega, by omega⟩ ?_
        refine g14 hC rfl ?_
        exact hnext _ _ ⟨by rw [show ((a + i : Nat) : Int) + 1 = ((a + (i + 1) : Nat) : Int) by omega], rfl⟩
      ·
        refine g3 hC rfl rfl ?_
        refine g19 hC rfl rfl (Nat.le_of_ble_eq_true rfl) rfl ((hS.fix hw hF).g rfl) ?_
        refine g3 hC rfl rfl ?_
        refine r21 (a+i) hC rfl rfl rfl (Or.inl rfl) (by omega) (hT (a+i) (by omega)) ?_
        refine g0 hC rfl ?_
        refine g13n hC rfl (fun h30 => (by omega)) (fun h30 => ?_)
        refine n2 hC rfl rfl ⟨by omega, by omega⟩ ?_
        refine g14 hC rfl ?_
        exact hnext _ _ ⟨by rw [show ((a + i : Nat) : Int) + 1 = ((a + (i + 1) : Nat) : Int) by omega], rfl⟩
  refine g3 hC rfl rfl ?_
  refine g19 hC rfl rfl (Nat.le_of_ble_eq_true rfl) rfl hk ?_
  refine g0 hC rfl ?_
  refine g13e hC rfl (fun h3 => ?_) (fun h3 => ?_)
  ·
    refine g0 hC rfl ?_
    refine g14 hC rfl ?_
    refine s1 hC rfl rfl rfl ?_
    refine g3 hC rfl rfl ?_
    refine g19 hC rfl rfl (Nat.le_of_ble_eq_true rfl) rfl ha ?_
    refine s2 hC rfl rfl rfl ?_
    first
      | exact l1 1 (Or.inr rfl) ⟨fun _ => by omega, fun _ => rfl⟩ (s - a) 0 (by omega) _ _ ⟨rfl, rfl⟩
      | exact l1 0 (Or.inl rfl) ⟨fun z => by omega, fun z => by omega⟩ (s - a) 0 (by omega) _ _ ⟨rfl, rfl⟩
  ·
    refine g3 hC rfl rfl ?_
    refine g19 hC rfl rfl (Nat.le_of_ble_eq_true rfl) rfl hk ?_
    refine g0 hC rfl ?_
    refine g13n hC rfl (fun h7 => ?_) (fun h7 => ?_)
    ·
      refine g0 hC rfl ?_
      refine s1 hC rfl rfl rfl ?_
      refine g3 hC rfl rfl ?_
      refine g19 hC rfl rfl (Nat.le_of_ble_eq_true rfl) rfl ha ?_
      refine s2 hC rfl rfl rfl ?_
      first
        | exact l1 1 (Or.inr rfl) ⟨fun _ => by omega, fun _ => rfl⟩ (s - a) 0 (by omega) _ _ ⟨rfl, rfl⟩
        | exact l1 0 (Or.inl rfl) ⟨fun z => by omega, fun z => by omega⟩ (s - a) 0 (by omega) _ _ ⟨rfl, rfl⟩
    ·
      refine g0 hC rfl ?_
      refine g14 hC rfl ?_
      refine s1 hC rfl rfl rfl ?_
      refine g3 hC rfl rfl ?_
      refine g19 hC rfl rfl (Nat.le_of_ble_eq_true rfl) rfl ha ?_
      refine s2 hC rfl rfl rfl ?_
      first
        | exact l1 1 (Or.inr rfl) ⟨fun _ => by omega, fun _ => rfl⟩ (s - a) 0 (by omega) _ _ ⟨rfl, rfl⟩
        | exact l1 0 (Or.inl rfl) ⟨fun z => by omega, fun z => by omega⟩ (s - a) 0 (by omega) _ _ ⟨rfl, rfl⟩
end CTX
