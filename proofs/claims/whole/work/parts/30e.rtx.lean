def XLK : ax_W := ([], [(142, 2)])
def XTK : ax_W := ([], [(142, 2), (142, 4)])
def XAK : ax_W := ([], [(142, 2), (142, 4), (142, 5), (142, 6)])
def XNM : ax_W := ([], [(142, 2), (142, 4), (142, 5), (142, 6), (142, 41)])
def RT (T : Nat → Int) (n : Nat) (q : PS) (M : ax_M) : Prop := M 142 3 = (n : Int) ∧ (∃ a : Nat, M 142 2 = (a : Int) ∧ a ≤ q.1 ∧ rn isBb T n a = q.1) ∧ (M 142 4 ≤ (q.1 : Int) ∧ (M 142 4 = (q.1 : Int) ↔ q.2 = true)) ∧ (∀ i, i < 1600 → M 143 i = T i) ∧ M 142 5 = 0 ∧ M 142 6 = -1
def lk (T : Nat → Int) (n : Nat) (q : PS) : Int := if q.1 < n then T q.1 else -1
def BF (f p : Int) (M : ax_M) : Prop := M 142 5 = f ∧ M 142 6 = p
def RR (T : Nat → Int) (n : Nat) (r : FR) (q : PS) (E : ax_M → Prop) (M : ax_M) : Prop := (∃ f p, r = some (f, p) ∧ f ≠ 0 ∧ BF f p M) ∨ (r = none ∧ RT T n q M ∧ E M)
theorem yW {x : Int} {b : Bool} (h : x = if b = true then 1 else 0) (h2 : ¬ x = 0) : b = true := by
  cases b with
  | true => rfl
  | false => rw [if_neg (by decide)] at h; exact absurd h h2
theorem nW {x : Int} {b : Bool} (h : x = if b = true then 1 else 0) (h2 : x = 0) : b = false := by
  cases b with
  | false => rfl
  | true => rw [if_pos rfl] at h; omega
theorem ite01 {x : Int} {p : Prop} [Decidable p] (h : x = if p then 1 else 0) : (p ∧ x = 1) ∨ (¬ p ∧ x = 0) := by
  by_cases z : p
  · rw [if_pos z] at h; exact Or.inl ⟨z, h⟩
  · rw [if_neg z] at h; exact Or.inr ⟨z, h⟩
theorem ite10 {x : Int} {p : Prop} [Decidable p] (h : x = if p then 0 else 1) : (p ∧ x = 0) ∨ (¬ p ∧ x = 1) := by
  by_cases z : p
  · rw [if_pos z] at h; exact Or.inl ⟨z, h⟩
  · rw [if_neg z] at h; exact Or.inr ⟨z, h⟩
section RTX
variable {L : Nat} {X : Nat → Int} {M M1 : ax_M} {T : Nat → Int} {n : Nat} {q : PS}
theorem rn_id {a s : Nat} (h : rn isBb T n a = s) : rn isBb T n s = s := by
  by_cases z : s < n
  · refine rn_no (fun y => ?_)
    have := rn_out (p := isBb) (T := T) (n := n) (i := a) (by rw [h]; exact z)
    rw [h] at this; rw [this] at y; cases y
  · exact rn_z (by omega)
theorem RT.lk (h : RT T n q M) (hS : Sb XLK M M1) (e : M1 142 2 = (q.1 : Int)) : RT T n q M1 := by
  obtain ⟨h1, ⟨a, h2, h3, h4⟩, h5, h6, h7, h8⟩ := h
  refine ⟨(hS _ _ rfl).trans h1, ⟨q.1, e, Nat.le_refl _, rn_id h4⟩, ?_, fun i hi => (hS _ _ rfl).trans (h6 i hi), (hS _ _ rfl).trans h7, (hS _ _ rfl).trans h8⟩
  rw [hS 142 4 rfl]; exact h5
theorem RT.wd (h : RT T n q M) (hqn : q.1 ≤ n) (hk : kd T n q = 1 ∨ kd T n q = 2) (hS : Sb XTK M M1) (e : M1 142 2 = (af T n q : Int)) (e2 : M1 142 4 = (af T n q : Int)) : RT T n (nx T n q) M1 := by
  obtain ⟨h1, _, h5, h6, h7, h8⟩ := h
  have hge : af T n q ≤ rn isBb T n (af T n q) := rn_ge
  refine ⟨(hS _ _ rfl).trans h1, ⟨af T n q, e, hge, rfl⟩, ⟨?_, ?_⟩, fun i hi => (hS _ _ rfl).trans (h6 i hi), (hS _ _ rfl).trans h7, (hS _ _ rfl).trans h8⟩
  · show M1 142 4 ≤ ((rn isBb T n (af T n q) : Nat) : Int); omega
  · show M1 142 4 = ((rn isBb T n (af T n q) : Nat) : Int) ↔ decide ((kd T n q = 1 ∨ kd T n q = 2) ∧ rn isBb T n (af T n q) = af T n q) = true
    constructor
    · intro z; exact decide_eq_true ⟨hk, by omega⟩
    · intro z; have := of_decide_eq_true z; omega
theorem RT.sg (h : RT T n q M) (hk : kd T n q = 3) (hS : Sb XLK M M1) (e : M1 142 2 = ((q.1 + 1 : Nat) : Int)) : RT T n (nx T n q) M1 := by
  obtain ⟨h1, _, h5, h6, h7, h8⟩ := h
  have ha := (kd_3 hk).2.2.2.2
  have hge : af T n q ≤ rn isBb T n (af T n q) := rn_ge
  refine ⟨(hS _ _ rfl).trans h1, ⟨af T n q, by rw [ha]; exact e, hge, rfl⟩, ⟨?_, ?_⟩, fun i hi => (hS _ _ rfl).trans (h6 i hi), (hS _ _ rfl).trans h7, (hS _ _ rfl).trans h8⟩
  · show M1 142 4 ≤ ((rn isBb T n (af T n q) : Nat) : Int); rw [hS 142 4 rfl]; omega
  · show M1 142 4 = ((rn isBb T n (af T n q) : Nat) : Int) ↔ decide ((kd T n q = 1 ∨ kd T n q = 2) ∧ rn isBb T n (af T n q) = af T n q) = true
    rw [hS 142 4 rfl]
    constructor
    · intro z; omega
    · intro z; have := of_decide_eq_true z; omega
theorem lkL : (97 ≤ lk T n q ∧ lk T n q ≤ 122) ↔ kd0 T n q.1 = 1 := by
  unfold lk
  rcases kd0_c (T := T) (n := n) (s := q.1) with e | e | e | e
  · rw [if_neg (by omega)]; constructor <;> intro <;> omega
  · rw [if_pos e.2.1]; exact ⟨fun _ => e.1, fun _ => of_decide_eq_true e.2.2⟩
  · rw [if_pos e.2.1]; have := of_decide_eq_true e.2.2; constructor <;> intro <;> omega
  · rw [if_pos e.2.1]; have := of_decide_eq_false e.2.2.1; exact ⟨fun z => absurd z this, fun z => by omega⟩
theorem lkD : (48 ≤ lk T n q ∧ lk T n q ≤ 57) ↔ kd0 T n q.1 = 2 := by
  unfold lk
  rcases kd0_c (T := T) (n := n) (s := q.1) with e | e | e | e
  · rw [if_neg (by omega)]; constructor <;> intro <;> omega
  · rw [if_pos e.2.1]; have := of_decide_eq_true e.2.2; constructor <;> intro <;> omega
  · rw [if_pos e.2.1]; exact ⟨fun _ => e.1, fun _ => of_decide_eq_true e.2.2⟩
  · rw [if_pos e.2.1]; have := of_decide_eq_false e.2.2.2; exact ⟨fun z => absurd z this, fun z => by omega⟩
def sgc (c : Int) : Prop := 0 ≤ c ∧ ¬ (97 ≤ c ∧ c ≤ 122) ∧ ¬ (48 ≤ c ∧ c ≤ 57)
theorem lkG {c : Int} (hc : sgc c) : lk T n q = c ↔ isG T n q c = true := by
  have eG : isG T n q c = decide (kd T n q = 3 ∧ T q.1 = c) := rfl
  rw [eG, decide_eq_true_iff]
  unfold lk
  obtain ⟨c1, c2, c3⟩ := hc
  constructor
  · intro h
    by_cases z : q.1 < n
    · rw [if_pos z] at h
      rcases kd0_c (T := T) (n := n) (s := q.1) with e | e | e | e
      · omega
      · have := of_decide_eq_true e.2.2; omega
      · have := of_decide_eq_true e.2.2; omega
      · rcases kd_c (T := T) (n := n) (q := q) with f | f
        · exact ⟨by omega, h⟩
        · omega
    · rw [if_neg z] at h; omega
  · rintro ⟨h1, h2⟩
    rw [if_pos (kd_3 h1).2.1]; exact h2
theorem lkE : lk T n q = -1 ↔ (n ≤ q.1 ∨ (q.1 < n ∧ T q.1 = -1)) := by
  unfold lk
  split <;> constructor <;> intro <;> omega
theorem glu (h0 : kd0 T n q.1 = 1 ∨ kd0 T n q.1 = 2) : (q.2 = true ↔ kd T n q = 4) ∧ (q.2 = false ↔ kd T n q = kd0 T n q.1) := by
  unfold kd
  cases e : q.2 with
  | true => rw [if_pos ⟨rfl, h0⟩]; exact ⟨⟨fun _ => rfl, fun _ => rfl⟩, ⟨fun z => (by cases z), fun z => by omega⟩⟩
  | false => rw [if_neg (fun z => by cases z.1)]; exact ⟨⟨fun z => (by cases z), fun z => by omega⟩, ⟨fun _ => rfl, fun _ => rfl⟩⟩
theorem fnd_no {ws : List (List Int)} : ∀ {i : Nat}, fnd T n q i ws = -1 ↔ ∀ w ∈ ws, isW T n q w = false := by
  induction ws with
  | nil => intro i; exact ⟨fun _ w hw => (by cases hw), fun _ => rfl⟩
  | cons w r ih =>
    intro i
    have e : fnd T n q i (w :: r) = if isW T n q w = true then (i : Int) else fnd T n q (i + 1) r := rfl
    rw [e]
    cases h : isW T n q w with
    | true =>
      rw [if_pos rfl]
      refine ⟨fun z => by omega, fun z => ?_⟩
      have := z w List.mem_cons_self
      rw [h] at this; cases this
    | false =>
      rw [if_neg (by decide), ih]
      refine ⟨fun z v hv => ?_, fun z v hv => z v (List.mem_cons_of_mem _ hv)⟩
      rcases List.mem_cons.mp hv with rfl | hv
      · exact h
      · exact z v hv
theorem m156 (h : M 142 5 = 0) {f p : Int} : ax_Ev L X SH 0 156 [(2, 142), (0, f), (0, p)] M (R0 (fun M' => M' = ax_up (ax_up M 142 5 f) 142 6 p)) := by
  show ax_G L X SH 0 156 0 [(2, 142), (0, f), (0, p)] [] M _
  have hC := at156
  have hS : Sb XAK M M := Sb.refl
  refine g3 hC rfl rfl ?_
  refine g19 hC rfl sh142 (flt12 rfl) ft12_5 h ?_
  refine g12e hC rfl (fun h2 => ?_) (fun h2 => (by omega))
  refine g3 hC rfl rfl ?_
  refine g3 hC rfl rfl ?_
  refine g20s hC rfl sh142 (flt12 rfl) (by rw [fy12_5]; rfl) hS rfl (fun hS => ?_)
  refine g3 hC rfl rfl ?_
  refine g3 hC rfl rfl ?_
  refine g20s hC rfl sh142 (flt12 rfl) (by rw [fy12_6]; rfl) hS rfl (fun hS => ?_)
  refine ret0 hC rfl ?_
  rfl
theorem m156b (h : ¬ M 142 5 = 0) {f p : Int} : ax_Ev L X SH 0 156 [(2, 142), (0, f), (0, p)] M (R0 (fun M' => M' = M)) := by
  show ax_G L X SH 0 156 0 [(2, 142), (0, f), (0, p)] [] M _
  have hC := at156
  refine g3 hC rfl rfl ?_
  refine g19 hC rfl sh142 (flt12 rfl) ft12_5 (Eq.refl (M 142 5)) ?_
  refine g12e hC rfl (fun h2 => (by omega)) (fun h2 => ?_)
  refine ret0 hC rfl ?_
  rfl
theorem BF.up {f p : Int} : BF f p (ax_up (ax_up M 142 5 f) 142 6 p) := ⟨by rw [ax_up_of (by decide), ax_up_at], ax_up_at⟩
theorem m159 (hF : Fix M) (hn : n ≤ 1600) (hq : RT T n q M) (hqn : q.1 ≤ n) : ax_Ev L X SH 0 159 [(2, 142)] M (R1 0 (fun x M' => x = lk T n q ∧ Sb XLK M M' ∧ M' 142 2 = (q.1 : Int))) := by
  show ax_G L X SH 0 159 0 [(2, 142)] [] M _
  have hC := at159
  have hw : wok XLK = true := by decide +kernel
  have hS : Sb XLK M M := Sb.refl
  obtain ⟨h1, ⟨a, h2, h3, h4⟩, h5, h6, h7, h8⟩ := hq
  have l1 : ∀ (m i : Nat), i + m = q.1 - a → ∀ ll M1, (ll = [(2, 142)] ∧ Sb XLK M M1 ∧ M1 142 2 = ((a + i : Nat) : Int)) → ax_G L X SH 0 159 0 ll [] M1 (R1 0 (fun x M' => x = lk T n q ∧ Sb XLK M M' ∧ M' 142 2 = (q.1 : Int))) := by
    refine lp ?_ ?_
    · rintro ll M1 ⟨rfl, hS, e⟩
      rw [show a + (q.1 - a) = q.1 by omega] at e
      have hend : ¬ (q.1 < n ∧ (T q.1 = 10 ∨ T q.1 = 32)) := by
        rintro ⟨z1, z2⟩
        have := rn_out (p := isBb) (T := T) (n := n) (i := a) (by rw [h4]; exact z1)
        rw [h4, show isBb (T q.1) = true from decide_eq_true z2] at this; cases this
      refine g3 hC rfl rfl ?_
      refine g19 hC rfl sh142 (flt12 rfl) ft12_2 e ?_
      refine g3 hC rfl rfl ?_
      refine g19 hC rfl sh142 (flt12 rfl) ft12_3 ((hS 142 3 rfl).trans h1) ?_
      refine g13g hC rfl (fun h4 => ?_) (fun h4 => ?_)
      ·
        refine g3 hC rfl rfl ?_
        refine g19 hC rfl sh142 (flt12 rfl) ft12_2 e ?_
        refine g3 hC rfl rfl ?_
        refine g19 hC rfl sh142 (flt12 rfl) ft12_3 ((hS 142 3 rfl).trans h1) ?_
        refine g13g hC rfl (fun h30 => ?_) (fun h30 => ?_)
        ·
          refine g0 hC rfl ?_
          refine ret1 hC rfl rfl ?_
          first
            | (exfalso; exact hend ⟨by omega, by omega⟩)
            | (refine ⟨?_, hS, e⟩; unfold lk; rw [if_pos (by omega)])
            | (refine ⟨?_, hS, e⟩; unfold lk; rw [if_neg (by omega)])
            | (exfalso; omega)
        ·
          refine g3 hC rfl rfl ?_
          refine g19 hC rfl sh142 (flt12 rfl) ft12_0 ((hS.fix hw hF).g fx_142_0) ?_
          refine g3 hC rfl rfl ?_
          refine g19 hC rfl sh142 (flt12 rfl) ft12_2 e ?_
          refine r21 (q.1) hC rfl (by omega) sh143 (Or.inl rfl) (by omega) ((hS 143 _ rfl).trans (h6 _ (by omega))) ?_
          refine g14 hC rfl ?_
          refine ret1 hC rfl rfl ?_
          first
            | (exfalso; exact hend ⟨by omega, by omega⟩)
            | (refine ⟨?_, hS, e⟩; unfold lk; rw [if_pos (by omega)])
            | (refine ⟨?_, hS, e⟩; unfold lk; rw [if_neg (by omega)])
            | (exfalso; omega)
      ·
        refine g3 hC rfl rfl ?_
        refine g19 hC rfl sh142 (flt12 rfl) ft12_0 ((hS.fix hw hF).g fx_142_0) ?_
        refine g3 hC rfl rfl ?_
        refine g19 hC rfl sh142 (flt12 rfl) ft12_2 e ?_
        refine r21 (q.1) hC rfl (by omega) sh143 (Or.inl rfl) (by omega) ((hS 143 _ rfl).trans (h6 _ (by omega))) ?_
        refine g0 hC rfl ?_
        refine g13e hC rfl (fun h11 => ?_) (fun h11 => ?_)
        ·
          refine g3 hC rfl rfl ?_
          refine g16 hC rfl (by decide) ?_
          refine g19 hC rfl sh142 (flt12 rfl) ft12_2 e ?_
          refine g0 hC rfl ?_
          refine g6a hC rfl ⟨by omega, by omega⟩ ?_
          refine g20s hC rfl sh142 (flt12 rfl) (by rw [fy12_2]; rfl) hS rfl (fun hS => ?_)
          refine g14 hC rfl ?_
          first
            | (exfalso; exact hend ⟨by omega, by omega⟩)
            | (refine ⟨?_, hS, e⟩; unfold lk; rw [if_pos (by omega)])
            | (refine ⟨?_, hS, e⟩; unfold lk; rw [if_neg (by omega)])
            | (exfalso; omega)
        ·
          refine g3 hC rfl rfl ?_
          refine g19 hC rfl sh142 (flt12 rfl) ft12_0 ((hS.fix hw hF).g fx_142_0) ?_
          refine g3 hC rfl rfl ?_
          refine g19 hC rfl sh142 (flt12 rfl) ft12_2 e ?_
          refine r21 (q.1) hC rfl (by omega) sh143 (Or.inl rfl) (by omega) ((hS 143 _ rfl).trans (h6 _ (by omega))) ?_
          refine g0 hC rfl ?_
          refine g13n hC rfl (fun h18 => ?_) (fun h18 => ?_)
          ·
            refine g3 hC rfl rfl ?_
            refine g19 hC rfl sh142 (flt12 rfl) ft12_2 e ?_
            refine g3 hC rfl rfl ?_
            refine g19 hC rfl sh142 (flt12 rfl) ft12_3 ((hS 142 3 rfl).trans h1) ?_
            refine g13g hC rfl (fun h30 => ?_) (fun h30 => ?_)
            ·
              refine g0 hC rfl ?_
              refine ret1 hC rfl rfl ?_
              first
                | (exfalso; exact hend ⟨by omega, by omega⟩)
                | (refine ⟨?_, hS, e⟩; unfold lk; rw [if_pos (by omega)])
                | (refine ⟨?_, hS, e⟩; unfold lk; rw [if_neg (by omega)])
                | (exfalso; omega)
            ·
              refine g3 hC rfl rfl ?_
              refine g19 hC rfl sh142 (flt12 rfl) ft12_0 ((hS.fix hw hF).g fx_142_0) ?_
              refine g3 hC rfl rfl ?_
              refine g19 hC rfl sh142 (flt12 rfl) ft12_2 e ?_
              refine r21 (q.1) hC rfl (by omega) sh143 (Or.inl rfl) (by omega) ((hS 143 _ rfl).trans (h6 _ (by omega))) ?_
              refine g14 hC rfl ?_
              refine ret1 hC rfl rfl ?_
              first
                | (exfalso; exact hend ⟨by omega, by omega⟩)
                | (refine ⟨?_, hS, e⟩; unfold lk; rw [if_pos (by omega)])
                | (refine ⟨?_, hS, e⟩; unfold lk; rw [if_neg (by omega)])
                | (exfalso; omega)
          ·
            refine g3 hC rfl rfl ?_
            refine g16 hC rfl (by decide) ?_
            refine g19 hC rfl sh142 (flt12 rfl) ft12_2 e ?_
            refine g0 hC rfl ?_
            refine g6a hC rfl ⟨by omega, by omega⟩ ?_
            refine g20s hC rfl sh142 (flt12 rfl) (by rw [fy12_2]; rfl) hS rfl (fun hS => ?_)
            refine g14 hC rfl ?_
            first
              | (exfalso; exact hend ⟨by omega, by omega⟩)
              | (refine ⟨?_, hS, e⟩; unfold lk; rw [if_pos (by omega)])
              | (refine ⟨?_, hS, e⟩; unfold lk; rw [if_neg (by omega)])
              | (exfalso; omega)
    · rintro i hi ll M1 ⟨rfl, hS, e⟩ hnext
      have z := of_decide_eq_true (rn_in (p := isBb) (T := T) (n := n) (i := a) (k := a + i) (by omega) (by omega))
      refine g3 hC rfl rfl ?_
      refine g19 hC rfl sh142 (flt12 rfl) ft12_2 e ?_
      refine g3 hC rfl rfl ?_
      refine g19 hC rfl sh142 (flt12 rfl) ft12_3 ((hS 142 3 rfl).trans h1) ?_
      refine g13g hC rfl (fun h4 => (by omega)) (fun h4 => ?_)
      refine g3 hC rfl rfl ?_
      refine g19 hC rfl sh142 (flt12 rfl) ft12_0 ((hS.fix hw hF).g fx_142_0) ?_
      refine g3 hC rfl rfl ?_
      refine g19 hC rfl sh142 (flt12 rfl) ft12_2 e ?_
      refine r21 ((a+i)) hC rfl (by omega) sh143 (Or.inl rfl) (by omega) ((hS 143 _ rfl).trans (h6 _ (by omega))) ?_
      refine g0 hC rfl ?_
      refine g13e hC rfl (fun h11 => ?_) (fun h11 => ?_)
      ·
        refine g3 hC rfl rfl ?_
        refine g16 hC rfl (by decide) ?_
        refine g19 hC rfl sh142 (flt12 rfl) ft12_2 e ?_
        refine g0 hC rfl ?_
        refine g6a hC rfl ⟨by omega, by omega⟩ ?_
        refine g20s hC rfl sh142 (flt12 rfl) (by rw [fy12_2]; rfl) hS rfl (fun hS => ?_)
        refine g14 hC rfl ?_
        refine hnext _ _ ⟨rfl, hS, ?_⟩
        rw [ax_up_at]; omega
      ·
        refine g3 hC rfl rfl ?_
        refine g19 hC rfl sh142 (flt12 rfl) ft12_0 ((hS.fix hw hF).g fx_142_0) ?_
        refine g3 hC rfl rfl ?_
        refine g19 hC rfl sh142 (flt12 rfl) ft12_2 e ?_
        refine r21 ((a+i)) hC rfl (by omega) sh143 (Or.inl rfl) (by omega) ((hS 143 _ rfl).trans (h6 _ (by omega))) ?_
        refine g0 hC rfl ?_
        refine g13n hC rfl (fun h18 => (by omega)) (fun h18 => ?_)
        refine g3 hC rfl rfl ?_
        refine g16 hC rfl (by decide) ?_
        refine g19 hC rfl sh142 (flt12 rfl) ft12_2 e ?_
        refine g0 hC rfl ?_
        refine g6a hC rfl ⟨by omega, by omega⟩ ?_
        refine g20s hC rfl sh142 (flt12 rfl) (by rw [fy12_2]; rfl) hS rfl (fun hS => ?_)
        refine g14 hC rfl ?_
        refine hnext _ _ ⟨rfl, hS, ?_⟩
        rw [ax_up_at]; omega
  exact l1 (q.1 - a) 0 (Nat.zero_add _) _ _ ⟨rfl, hS, h2⟩
theorem m160 (hF : Fix M) (hn : n ≤ 1600) (hq : RT T n q M) (hqn : q.1 ≤ n) {c : Nat} {w : List Int} (hc : SH[c]? = some (1, 2, w.length)) (hwc : ∀ i, i < w.length → M c i = w.getD i 0) (hcn : c ≠ 142) : ax_Ev L X SH 1 160 [(2, 142), (2, (c : Int))] M (R1 0 (fun x M' => (x = if isW T n q w = true then 1 else 0) ∧ Sb XLK M M' ∧ M' 142 2 = (q.1 : Int))) := by
  show ax_G L X SH 1 160 0 [(2, 142), (2, (c : Int)), (3, 0), (3, 0)] [] M _
  have hC := at160
  have hw : wok XLK = true := by decide +kernel
  have hS : Sb XLK M M := Sb.refl
  have hab := af_b (T := T) hqn
  have eW : isW T n q w = decide (kd T n q = 1 ∧ af T n q - q.1 = w.length ∧ ∀ i, i < w.length → T (q.1 + i) = w.getD i 0) := rfl
  have hL := lkL (T := T) (n := n) (q := q)
  obtain ⟨h1, h2, h5, h6, h7, h8⟩ := id hq
  by_cases hkd : kd T n q = 1
  · obtain ⟨k0, k1, k2, k3, k4⟩ := kd_1 hkd
    have hlk := hL.2 k0
    obtain ⟨m, hm⟩ : ∃ m, m = af T n q - q.1 := ⟨_, rfl⟩
    have hne : ¬ M 142 4 = (q.1 : Int) := fun z => by have := h5.2.1 z; rw [k3] at this; cases this
    have l2 : m = w.length → ∀ M2, Sb XLK M M2 → M2 142 2 = (q.1 : Int) → ∀ v : Int, ∀ (mm i : Nat), i + mm = w.length → ∀ ll M3, (ll = [(2, 142), (2, (c : Int)), (0, v), (0, (i : Int))] ∧ M3 = M2 ∧ ∀ k, k < i → T (q.1 + k) = w.getD k 0) → ax_G L X SH 1 160 40 ll [] M3 (R1 0 (fun x M' => (x = if isW T n q w = true then 1 else 0) ∧ Sb XLK M M' ∧ M' 142 2 = (q.1 : Int))) := by
      intro hmw M2 hS e v
      refine lp ?_ ?_
      · rintro ll M3 ⟨rfl, rfl, hk⟩
        refine g3 hC rfl rfl ?_
        refine g3 hC rfl rfl ?_
        refine g23 hC rfl hc ?_
        refine g13g hC rfl (fun h43 => ?_) (fun h43 => (by omega))
        refine g0 hC rfl ?_
        refine ret3 hC rfl ⟨by omega, by omega⟩ ?_
        refine ⟨?_, hS, e⟩
        rw [eW, if_pos (decide_eq_true ⟨hkd, by omega, hk⟩)]
      · rintro i hi ll M3 ⟨rfl, rfl, hk⟩ hnext
        have hci : M3 c i = w.getD i 0 := (hS c i (by unfold wb XLK; simp [hcn.symm])).trans (hwc i hi)
        refine g3 hC rfl rfl ?_
        refine g3 hC rfl rfl ?_
        refine g23 hC rfl hc ?_
        refine g13g hC rfl (fun h43 => (by omega)) (fun h43 => ?_)
        refine g3 hC rfl rfl ?_
        refine g19 hC rfl sh142 (flt12 rfl) ft12_0 ((hS.fix hw hF).g fx_142_0) ?_
        refine g3 hC rfl rfl ?_
        refine g19 hC rfl sh142 (flt12 rfl) ft12_2 e ?_
        refine g3 hC rfl rfl ?_
        refine g6a hC rfl ⟨by omega, by omega⟩ ?_
        refine r21 (q.1 + i) hC rfl (by omega) sh143 (Or.inl rfl) (by omega) ((hS 143 _ rfl).trans (h6 _ (by omega))) ?_
        refine g3 hC rfl rfl ?_
        refine g3 hC rfl rfl ?_
        refine r21 (i) hC rfl rfl hc (Or.inl rfl) (by omega) hci ?_
        refine g13e hC rfl (fun h54 => ?_) (fun h54 => ?_)
        ·
          refine n3 hC rfl rfl ⟨by omega, by omega⟩ ?_
          refine g14 hC rfl ?_
          refine hnext _ _ ⟨rfl, rfl, fun k hk2 => ?_⟩
          by_cases y : k = i
          · rw [y]; exact h54
          · exact hk k (by omega)
        ·
          refine g0 hC rfl ?_
          refine ret3 hC rfl ⟨by omega, by omega⟩ ?_
          refine ⟨?_, hS, e⟩
          rw [eW, if_neg (fun z => h54 ((of_decide_eq_true z).2.2 i hi))]
    have l1 : ∀ M2, Sb XLK M M2 → M2 142 2 = (q.1 : Int) → ∀ (mm i : Nat), i + mm = m → ∀ ll M3, (ll = [(2, 142), (2, (c : Int)), (0, ((q.1 + i : Nat) : Int)), (3, 0)] ∧ M3 = M2) → ax_G L X SH 1 160 17 ll [] M3 (R1 0 (fun x M' => (x = if isW T n q w = true then 1 else 0) ∧ Sb XLK M M' ∧ M' 142 2 = (q.1 : Int))) := by
      intro M2 hS e
      refine lp ?_ ?_
      · rintro ll M3 ⟨rfl, rfl⟩
        rw [show q.1 + m = af T n q by omega]
        have hend : ¬ (af T n q < n ∧ 97 ≤ T (af T n q) ∧ T (af T n q) ≤ 122) := by
          rintro ⟨z1, z2⟩
          have := rn_out (p := isLb) (T := T) (n := n) (i := q.1) (by rw [← k4]; exact z1)
          rw [← k4, show isLb (T (af T n q)) = true from decide_eq_true z2] at this; cases this
        refine g3 hC rfl rfl ?_
        refine g3 hC rfl rfl ?_
        refine g19 hC rfl sh142 (flt12 rfl) ft12_3 ((hS 142 3 rfl).trans h1) ?_
        refine g13g hC rfl (fun h20 => ?_) (fun h20 => ?_)
        ·
          refine g3 hC rfl rfl ?_
          refine g3 hC rfl rfl ?_
          refine g19 hC rfl sh142 (flt12 rfl) ft12_2 e ?_
          refine g6s hC rfl ⟨by omega, by omega⟩ ?_
          refine g3 hC rfl rfl ?_
          refine g23 hC rfl hc ?_
          refine g13e hC rfl (fun h35 => ?_) (fun h35 => ?_)
          ·
            refine g0 hC rfl ?_
            refine s3 hC rfl rfl rfl ?_
            exact l2 (by omega) _ hS e _ w.length 0 (Nat.zero_add _) _ _ ⟨rfl, rfl, fun k hk => absurd hk (Nat.not_lt_zero k)⟩
          ·
            refine g0 hC rfl ?_
            refine ret3 hC rfl ⟨by omega, by omega⟩ ?_
            refine ⟨?_, hS, e⟩
            rw [eW, if_neg (fun z => by have := (of_decide_eq_true z).2.1; omega)]
        ·
          refine g3 hC rfl rfl ?_
          refine g19 hC rfl sh142 (flt12 rfl) ft12_0 ((hS.fix hw hF).g fx_142_0) ?_
          refine g3 hC rfl rfl ?_
          refine r21 ((af T n q)) hC rfl (by omega) sh143 (Or.inl rfl) (by omega) ((hS 143 _ rfl).trans (h6 _ (by omega))) ?_
          refine c1 hC rfl rfl rfl (Nat.le_of_ble_eq_true rfl) (Nat.le_of_ble_eq_true rfl) (mayS k157 rfl) (m157) (Nat.le_of_ble_eq_true rfl) (fun x M2 hr => ?_)
          obtain ⟨hx, hr⟩ := hr; replace hr := hr.symm; subst hr; have hx := ite01 hx
          refine g12e hC rfl (fun h26 => ?_) (fun h26 => ?_)
          ·
            refine g3 hC rfl rfl ?_
            refine g3 hC rfl rfl ?_
            refine g19 hC rfl sh142 (flt12 rfl) ft12_2 e ?_
            refine g6s hC rfl ⟨by omega, by omega⟩ ?_
            refine g3 hC rfl rfl ?_
            refine g23 hC rfl hc ?_
            refine g13e hC rfl (fun h35 => ?_) (fun h35 => ?_)
            ·
              refine g0 hC rfl ?_
              refine s3 hC rfl rfl rfl ?_
              exact l2 (by omega) _ hS e _ w.length 0 (Nat.zero_add _) _ _ ⟨rfl, rfl, fun k hk => absurd hk (Nat.not_lt_zero k)⟩
            ·
              refine g0 hC rfl ?_
              refine ret3 hC rfl ⟨by omega, by omega⟩ ?_
              refine ⟨?_, hS, e⟩
              rw [eW, if_neg (fun z => by have := (of_decide_eq_true z).2.1; omega)]
          ·
            refine n2 hC rfl rfl ⟨by omega, by omega⟩ ?_
            refine g14 hC rfl ?_
            exfalso; omega
      · rintro i hi ll M3 ⟨rfl, rfl⟩ hnext
        have z := of_decide_eq_true (rn_in (p := isLb) (T := T) (n := n) (i := q.1) (k := q.1 + i) (by omega) (by omega))
        refine g3 hC rfl rfl ?_
        refine g3 hC rfl rfl ?_
        refine g19 hC rfl sh142 (flt12 rfl) ft12_3 ((hS 142 3 rfl).trans h1) ?_
        refine g13g hC rfl (fun h20 => (by omega)) (fun h20 => ?_)
        refine g3 hC rfl rfl ?_
        refine g19 hC rfl sh142 (flt12 rfl) ft12_0 ((hS.fix hw hF).g fx_142_0) ?_
        refine g3 hC rfl rfl ?_
        refine r21 ((q.1+i)) hC rfl (by omega) sh143 (Or.inl rfl) (by omega) ((hS 143 _ rfl).trans (h6 _ (by omega))) ?_
        refine c1 hC rfl rfl rfl (Nat.le_of_ble_eq_true rfl) (Nat.le_of_ble_eq_true rfl) (mayS k157 rfl) (m157) (Nat.le_of_ble_eq_true rfl) (fun x M2 hr => ?_)
        obtain ⟨hx, hr⟩ := hr; replace hr := hr.symm; subst hr; have hx := ite01 hx
        refine g12e hC rfl (fun h26 => (by omega)) (fun h26 => ?_)
        refine n2 hC rfl rfl ⟨by omega, by omega⟩ ?_
        refine g14 hC rfl ?_
        exact hnext _ _ ⟨by rw [show ((q.1 + i : Nat) : Int) + 1 = ((q.1 + (i + 1) : Nat) : Int) by omega], rfl⟩
    refine g3 hC rfl rfl ?_
    refine g19 hC rfl sh142 (flt12 rfl) ft12_5 h7 ?_
    refine g12n hC rfl (fun h2 => (by omega)) (fun h2 => ?_)
    refine g3 hC rfl rfl ?_
    refine c1 hC rfl rfl rfl (Nat.le_of_ble_eq_true rfl) (Nat.le_of_ble_eq_true rfl) (mayR k159 rfl) (m159 hF hn hq hqn) (Nat.le_of_ble_eq_true rfl) (fun x M2 hr => ?_)
    obtain ⟨rfl, hr0, hr1⟩ := hr; have hS := hS.then hr0 rfl
    refine c1 hC rfl rfl rfl (Nat.le_of_ble_eq_true rfl) (Nat.le_of_ble_eq_true rfl) (mayS k157 rfl) (m157) (Nat.le_of_ble_eq_true rfl) (fun x M2 hr => ?_)
    obtain ⟨hx, hr⟩ := hr; replace hr := hr.symm; subst hr; have hx := ite01 hx
    refine g12e hC rfl (fun h6 => (by omega)) (fun h6 => ?_)
    refine g3 hC rfl rfl ?_
    refine g19 hC rfl sh142 (flt12 rfl) ft12_2 hr1 ?_
    refine g3 hC rfl rfl ?_
    refine g19 hC rfl sh142 (flt12 rfl) ft12_4 (hr0 142 4 rfl) ?_
    refine g13n hC rfl (fun h11 => ?_) (fun h11 => (by omega))
    refine g3 hC rfl rfl ?_
    refine g19 hC rfl sh142 (flt12 rfl) ft12_2 hr1 ?_
    refine s2 hC rfl rfl rfl ?_
    exact l1 _ hS hr1 m 0 (Nat.zero_add _) _ _ ⟨rfl, rfl⟩
  · have eF : (if isW T n q w = true then (1 : Int) else 0) = 0 := by rw [isW_kd hkd]; rfl
    rw [eF]
    refine g3 hC rfl rfl ?_
    refine g19 hC rfl sh142 (flt12 rfl) ft12_5 h7 ?_
    refine g12n hC rfl (fun h2 => (by omega)) (fun h2 => ?_)
    refine g3 hC rfl rfl ?_
    refine c1 hC rfl rfl rfl (Nat.le_of_ble_eq_true rfl) (Nat.le_of_ble_eq_true rfl) (mayR k159 rfl) (m159 hF hn hq hqn) (Nat.le_of_ble_eq_true rfl) (fun x M2 hr => ?_)
    obtain ⟨rfl, hr0, hr1⟩ := hr; have hS := hS.then hr0 rfl
    refine c1 hC rfl rfl rfl (Nat.le_of_ble_eq_true rfl) (Nat.le_of_ble_eq_true rfl) (mayS k157 rfl) (m157) (Nat.le_of_ble_eq_true rfl) (fun x M2 hr => ?_)
    obtain ⟨hx, hr⟩ := hr; replace hr := hr.symm; subst hr; have hx := ite01 hx
    refine g12e hC rfl (fun h6 => ?_) (fun h6 => ?_)
    ·
      refine g0 hC rfl ?_
      refine ret3 hC rfl ⟨by omega, by omega⟩ ?_
      exact ⟨rfl, hS, hr1⟩
    ·
      refine g3 hC rfl rfl ?_
      refine g19 hC rfl sh142 (flt12 rfl) ft12_2 hr1 ?_
      refine g3 hC rfl rfl ?_
      refine g19 hC rfl sh142 (flt12 rfl) ft12_4 (hr0 142 4 rfl) ?_
      refine g13n hC rfl (fun h11 => ?_) (fun h11 => ?_)
      ·
        exfalso
        have k0 := hL.1 (by omega)
        have hf : q.2 = false := by
          cases e : q.2 with
          | false => rfl
          | true => have := h5.2.2 e; omega
        have := (glu (Or.inl k0)).2.1 hf
        omega
      ·
        refine g0 hC rfl ?_
        refine ret3 hC rfl ⟨by omega, by omega⟩ ?_
        exact ⟨rfl, hS, hr1⟩
theorem m161 (hF : Fix M) (hn : n ≤ 1600) (hq : RT T n q M) (hqn : q.1 ≤ n) {c : Nat} {w : List Int} (hc : SH[c]? = some (1, 2, w.length)) (hwc : ∀ i, i < w.length → M c i = w.getD i 0) (hcn : c ≠ 142) : ax_Ev L X SH 2 161 [(2, 142), (2, (c : Int))] M (R1 0 (fun x M' => Sb XTK M M' ∧ ((isW T n q w = true ∧ x = 1 ∧ RT T n (nx T n q) M') ∨ (isW T n q w = false ∧ x = 0 ∧ RT T n q M' ∧ M' 142 2 = (q.1 : Int))))) := by
  show ax_G L X SH 2 161 0 [(2, 142), (2, (c : Int))] [] M _
  have hC := at161
  have hw : wok XTK = true := by decide +kernel
  have hS : Sb XTK M M := Sb.refl
  have hab := af_b (T := T) hqn
  have hWf : isW T n q w = true → (kd T n q = 1 ∧ af T n q - q.1 = w.length) := fun z => ⟨(of_decide_eq_true z).1, (of_decide_eq_true z).2.1⟩
  refine g3 hC rfl rfl ?_
  refine g3 hC rfl rfl ?_
  refine c1 hC rfl rfl rfl (Nat.le_of_ble_eq_true rfl) (Nat.le_of_ble_eq_true rfl) (mayR k160 rfl) (m160 hF hn hq hqn hc hwc hcn) (Nat.le_of_ble_eq_true rfl) (fun x M2 hr => ?_)
  obtain ⟨hx, hr0, hr1⟩ := hr; have hS := hS.then hr0 rfl
  refine g12n hC rfl (fun h3 => ?_) (fun h3 => ?_)
  ·
    have hww := hWf (yW hx (by omega))
    refine g3 hC rfl rfl ?_
    refine g16 hC rfl (by decide) ?_
    refine g19 hC rfl sh142 (flt12 rfl) ft12_2 hr1 ?_
    refine g3 hC rfl rfl ?_
    refine g23 hC rfl hc ?_
    refine g6a hC rfl ⟨by omega, by omega⟩ ?_
    refine g20s hC rfl sh142 (flt12 rfl) (by rw [fy12_2]; rfl) hS rfl (fun hS => ?_)
    refine g3 hC rfl rfl ?_
    refine g3 hC rfl rfl ?_
    refine g19 hC rfl sh142 (flt12 rfl) ft12_2 ax_up_at ?_
    refine g20s hC rfl sh142 (flt12 rfl) (by rw [fy12_4]; rfl) hS rfl (fun hS => ?_)
    refine g0 hC rfl ?_
    refine ret3 hC rfl ⟨by omega, by omega⟩ ?_
    have hy := yW hx (by omega)
    obtain ⟨h1, h2⟩ := hWf hy
    have e1 : (q.1 : Int) + (w.length : Int) = (af T n q : Int) := by omega
    refine ⟨hS, Or.inl ⟨hy, rfl, hq.wd hqn (Or.inl h1) hS ?_ ?_⟩⟩
    · rw [ax_up_of (by decide), ax_up_at]; exact e1
    · rw [ax_up_at]; exact e1
  ·
    refine g0 hC rfl ?_
    refine ret3 hC rfl ⟨by omega, by omega⟩ ?_
    exact ⟨hS, Or.inr ⟨nW hx (by omega), rfl, hq.lk hr0 hr1, hr1⟩⟩
theorem m162 (hF : Fix M) (hn : n ≤ 1600) (hq : RT T n q M) (hqn : q.1 ≤ n) {c : Nat} {w : List Int} (hc : SH[c]? = some (1, 2, w.length)) (hwc : ∀ i, i < w.length → M c i = w.getD i 0) (hcn : c ≠ 142) : ax_Ev L X SH 3 162 [(2, 142), (2, (c : Int))] M (R0 (fun M' => Sb XAK M M' ∧ RR T n (wdR T n q w) (nx T n q) (fun _ => True) M')) := by
  show ax_G L X SH 3 162 0 [(2, 142), (2, (c : Int))] [] M _
  have hC := at162
  have hw : wok XAK = true := by decide +kernel
  have hS : Sb XAK M M := Sb.refl
  refine g3 hC rfl rfl ?_
  refine g19 hC rfl sh142 (flt12 rfl) ft12_5 hq.2.2.2.2.1 ?_
  refine g12n hC rfl (fun h2 => (by omega)) (fun h2 => ?_)
  refine g3 hC rfl rfl ?_
  refine g3 hC rfl rfl ?_
  refine c1 hC rfl rfl rfl (Nat.le_of_ble_eq_true rfl) (Nat.le_of_ble_eq_true rfl) (mayR k161 rfl) (m161 hF hn hq hqn hc hwc hcn) (Nat.le_of_ble_eq_true rfl) (fun x M2 hr => ?_)
  obtain ⟨hr0, hr1⟩ := hr; have hS := hS.then hr0 rfl
  refine g12n hC rfl (fun h6 => ?_) (fun h6 => ?_)
  ·
    refine ret0 hC rfl ?_
    refine ⟨hS, Or.inr ?_⟩
    rcases hr1 with y | y
    · unfold wdR; rw [if_pos y.1]; exact ⟨rfl, y.2.2, trivial⟩
    · exact absurd y.2.1 (by omega)
  ·
    refine g3 hC rfl rfl ?_
    refine g0 hC rfl ?_
    refine g3 hC rfl rfl ?_
    have hr2 : isW T n q w = false ∧ RT T n q M2 ∧ M2 142 2 = (q.1 : Int) := by rcases hr1 with y | y; exact absurd y.2.1 (by omega); exact ⟨y.1, y.2.2⟩
    refine g19 hC rfl sh142 (flt12 rfl) ft12_2 hr2.2.2 ?_
    refine c0 hC rfl rfl rfl (Nat.le_of_ble_eq_true rfl) (Nat.le_of_ble_eq_true rfl) (mayR k156 rfl) (m156 hr2.2.1.2.2.2.2.1) (Nat.le_of_ble_eq_true rfl) (fun M2 hr => ?_)
    replace hr := hr.symm; subst hr
    refine ret0 hC rfl ?_
    refine ⟨(hS.up rfl).up rfl, Or.inl ⟨1, (q.1 : Int), ?_, by decide, BF.up⟩⟩
    unfold wdR; rw [if_neg (by rw [hr2.1]; decide)]
theorem m162b (h : ¬ M 142 5 = 0) {c : Int} : ax_Ev L X SH 3 162 [(2, 142), (2, c)] M (R0 (fun M' => M' = M)) := by
  show ax_G L X SH 3 162 0 [(2, 142), (2, c)] [] M _
  have hC := at162
  refine g3 hC rfl rfl ?_
  refine g19 hC rfl sh142 (flt12 rfl) ft12_5 (Eq.refl (M 142 5)) ?_
  refine g12n hC rfl (fun h2 => ?_) (fun h2 => (by omega))
  refine ret0 hC rfl ?_
  rfl
theorem m163 (hF : Fix M) (hn : n ≤ 1600) (hq : RT T n q M) (hqn : q.1 ≤ n) {c : Int} (hc : sgc c) : ax_Ev L X SH 1 163 [(2, 142), (0, c)] M (R1 0 (fun x M' => Sb XLK M M' ∧ ((isG T n q c = true ∧ x = 1 ∧ RT T n (nx T n q) M' ∧ M' 142 2 = ((q.1 + 1 : Nat) : Int)) ∨ (isG T n q c = false ∧ x = 0 ∧ RT T n q M' ∧ M' 142 2 = (q.1 : Int))))) := by
  show ax_G L X SH 1 163 0 [(2, 142), (0, c)] [] M _
  have hC := at163
  have hw : wok XLK = true := by decide +kernel
  have hS : Sb XLK M M := Sb.refl
  have hG := lkG (T := T) (n := n) (q := q) hc
  refine g3 hC rfl rfl ?_
  refine g19 hC rfl sh142 (flt12 rfl) ft12_5 hq.2.2.2.2.1 ?_
  refine g12n hC rfl (fun h2 => (by omega)) (fun h2 => ?_)
  refine g3 hC rfl rfl ?_
  refine c1 hC rfl rfl rfl (Nat.le_of_ble_eq_true rfl) (Nat.le_of_ble_eq_true rfl) (mayR k159 rfl) (m159 hF hn hq hqn) (Nat.le_of_ble_eq_true rfl) (fun x M2 hr => ?_)
  obtain ⟨rfl, hr0, hr1⟩ := hr; have hS := hS.then hr0 rfl
  refine g3 hC rfl rfl ?_
  refine g13e hC rfl (fun h6 => ?_) (fun h6 => ?_)
  ·
    refine g3 hC rfl rfl ?_
    refine g16 hC rfl (by decide) ?_
    refine g19 hC rfl sh142 (flt12 rfl) ft12_2 hr1 ?_
    refine g0 hC rfl ?_
    refine g6a hC rfl ⟨by omega, by omega⟩ ?_
    refine g20s hC rfl sh142 (flt12 rfl) (by rw [fy12_2]; rfl) hS rfl (fun hS => ?_)
    refine g0 hC rfl ?_
    refine ret3 hC rfl ⟨by omega, by omega⟩ ?_
    have hy := hG.1 h6
    have e1 : ax_up M2 142 2 ((q.1 : Int) + 1) 142 2 = ((q.1 + 1 : Nat) : Int) := by rw [ax_up_at]; omega
    exact ⟨hS, Or.inl ⟨hy, rfl, hq.sg (isG_kd3 hy) hS e1, e1⟩⟩
  ·
    refine g0 hC rfl ?_
    refine ret3 hC rfl ⟨by omega, by omega⟩ ?_
    refine ⟨hS, Or.inr ⟨?_, rfl, hq.lk hr0 hr1, hr1⟩⟩
    cases e : isG T n q c with
    | false => rfl
    | true => exact absurd (hG.2 e) h6
theorem m163b (h : ¬ M 142 5 = 0) {c : Int} : ax_Ev L X SH 1 163 [(2, 142), (0, c)] M (R1 0 (fun x M' => x = 0 ∧ M' = M)) := by
  show ax_G L X SH 1 163 0 [(2, 142), (0, c)] [] M _
  have hC := at163
  refine g3 hC rfl rfl ?_
  refine g19 hC rfl sh142 (flt12 rfl) ft12_5 (Eq.refl (M 142 5)) ?_
  refine g12n hC rfl (fun h2 => ?_) (fun h2 => (by omega))
  refine g0 hC rfl ?_
  refine ret3 hC rfl ⟨by omega, by omega⟩ ?_
  exact ⟨rfl, rfl⟩
theorem m164 (hF : Fix M) (hn : n ≤ 1600) (hq : RT T n q M) (hqn : q.1 ≤ n) {c : Int} (hc : sgc c) : ax_Ev L X SH 2 164 [(2, 142), (0, c)] M (R0 (fun M' => Sb XAK M M' ∧ RR T n (sgR T n q c) (nx T n q) (fun _ => True) M')) := by
  show ax_G L X SH 2 164 0 [(2, 142), (0, c)] [] M _
  have hC := at164
  have hw : wok XAK = true := by decide +kernel
  have hS : Sb XAK M M := Sb.refl
  refine g3 hC rfl rfl ?_
  refine g19 hC rfl sh142 (flt12 rfl) ft12_5 hq.2.2.2.2.1 ?_
  refine g12n hC rfl (fun h2 => (by omega)) (fun h2 => ?_)
  refine g3 hC rfl rfl ?_
  refine g3 hC rfl rfl ?_
  refine c1 hC rfl rfl rfl (Nat.le_of_ble_eq_true rfl) (Nat.le_of_ble_eq_true rfl) (mayR k163 rfl) (m163 hF hn hq hqn hc) (Nat.le_of_ble_eq_true rfl) (fun x M2 hr => ?_)
  obtain ⟨hr0, hr1⟩ := hr; have hS := hS.then hr0 rfl
  refine g12n hC rfl (fun h6 => ?_) (fun h6 => ?_)
  ·
    refine ret0 hC rfl ?_
    refine ⟨hS, Or.inr ?_⟩
    rcases hr1 with y | y
    · unfold sgR; rw [if_pos y.1]; exact ⟨rfl, y.2.2.1, trivial⟩
    · exact absurd y.2.1 (by omega)
  ·
    refine g3 hC rfl rfl ?_
    refine g0 hC rfl ?_
    refine g3 hC rfl rfl ?_
    have hr2 : isG T n q c = false ∧ RT T n q M2 ∧ M2 142 2 = (q.1 : Int) := by rcases hr1 with y | y; exact absurd y.2.1 (by omega); exact ⟨y.1, y.2.2⟩
    refine g19 hC rfl sh142 (flt12 rfl) ft12_2 hr2.2.2 ?_
    refine c0 hC rfl rfl rfl (Nat.le_of_ble_eq_true rfl) (Nat.le_of_ble_eq_true rfl) (mayR k156 rfl) (m156 hr2.2.1.2.2.2.2.1) (Nat.le_of_ble_eq_true rfl) (fun M2 hr => ?_)
    replace hr := hr.symm; subst hr
    refine ret0 hC rfl ?_
    refine ⟨(hS.up rfl).up rfl, Or.inl ⟨1, (q.1 : Int), ?_, by decide, BF.up⟩⟩
    unfold sgR; rw [if_neg (by rw [hr2.1]; decide)]
theorem m164b (h : ¬ M 142 5 = 0) {c : Int} : ax_Ev L X SH 2 164 [(2, 142), (0, c)] M (R0 (fun M' => M' = M)) := by
  show ax_G L X SH 2 164 0 [(2, 142), (0, c)] [] M _
  have hC := at164
  refine g3 hC rfl rfl ?_
  refine g19 hC rfl sh142 (flt12 rfl) ft12_5 (Eq.refl (M 142 5)) ?_
  refine g12n hC rfl (fun h2 => ?_) (fun h2 => (by omega))
  refine ret0 hC rfl ?_
  rfl
theorem m165b (h : ¬ M 142 5 = 0) {lo hi : Int} : ax_Ev L X SH 1 165 [(2, 142), (0, lo), (0, hi)] M (R1 0 (fun x M' => x = 0 ∧ M' = M)) := by
  show ax_G L X SH 1 165 0 [(2, 142), (0, lo), (0, hi), (3, 0), (3, 0)] [] M _
  have hC := at165
  refine g3 hC rfl rfl ?_
  refine g19 hC rfl sh142 (flt12 rfl) ft12_5 (Eq.refl (M 142 5)) ?_
  refine g12e hC rfl (fun h2 => (by omega)) (fun h2 => ?_)
  refine g0 hC rfl ?_
  refine ret1 hC rfl rfl ?_
  exact ⟨rfl, rfl⟩
theorem m165 (hF : Fix M) (hn : n ≤ 1600) (hq : RT T n q M) (hqn : q.1 ≤ n) {lo hi : Int} : ax_Ev L X SH 1 165 [(2, 142), (0, lo), (0, hi)] M (R1 0 (fun x M' => Sb XAK M M' ∧ (0 ≤ x ∧ x ≤ 9999) ∧ RR T n (nuR T n q lo hi) (nx T n q) (fun _ => x = nuV T n q) M')) := by
  show ax_G L X SH 1 165 0 [(2, 142), (0, lo), (0, hi), (3, 0), (3, 0)] [] M _
  obtain ⟨P, hP⟩ : ∃ P, P = fun (x : Int) (M' : ax_M) => Sb XAK M M' ∧ (0 ≤ x ∧ x ≤ 9999) ∧ RR T n (nuR T n q lo hi) (nx T n q) (fun _ => x = nuV T n q) M' := ⟨_, rfl⟩
  rw [← hP]
  have hC := at165
  have hw : wok XAK = true := by decide +kernel
  have hS : Sb XAK M M := Sb.refl
  have hab := af_b (T := T) hqn
  have hD := lkD (T := T) (n := n) (q := q)
  obtain ⟨h1, h2, h5, h6, h7, h8⟩ := id hq
  have e0 : nuR T n q lo hi = if ¬ kd T n q = 2 then some (1, (q.1 : Int)) else if 4 < af T n q - q.1 then some (1, ((q.1 + 4 : Nat) : Int)) else if lo ≤ nuV T n q ∧ nuV T n q ≤ hi then none else some (2, (q.1 : Int)) := rfl
  have eV : nuV T n q = nv T q.1 (af T n q - q.1) := rfl
  by_cases hkd : kd T n q = 2
  · obtain ⟨k0, k1, k2, k3, k4⟩ := kd_2 hkd
    have hlk := hD.2 k0
    have hdg : ∀ i, i < af T n q - q.1 → 48 ≤ T (q.1 + i) ∧ T (q.1 + i) ≤ 57 := fun i hi => of_decide_eq_true (rn_in (p := isDb) (T := T) (i := q.1) (n := n) (by omega) (by omega))
    obtain ⟨m, hm⟩ : ∃ m, m = af T n q - q.1 := ⟨_, rfl⟩
    have hne : ¬ M 142 4 = (q.1 : Int) := fun z => by have := h5.2.1 z; rw [k3] at this; cases this
    rw [← hm] at hdg e0 eV
    have p4 : ∀ i, i ≤ 4 → (10 : Int) ^ i ≤ 10000 := by
      intro i hi
      have : i = 0 ∨ i = 1 ∨ i = 2 ∨ i = 3 ∨ i = 4 := by omega
      rcases this with rfl | rfl | rfl | rfl | rfl <;> decide
    have l1 : ∀ (k : Nat), k = min m 4 → ∀ (mm i : Nat), i + mm = k → ∀ ll M3, (ll = [(2, 142), (0, lo), (0, hi), (0, (q.1 : Int)), (0, nv T q.1 i)] ∧ Sb XLK M M3 ∧ M3 142 2 = ((q.1 + i : Nat) : Int)) → ax_G L X SH 1 165 26 ll [] M3 (R1 0 P) := by
      intro k hk
      refine lp ?_ ?_
      · rintro ll M3 ⟨rfl, hS, e⟩
        have hv := nv_b (T := T) (s := q.1) k (fun j hj => hdg j (by omega))
        have hv4 := p4 k (by omega)
        by_cases z : m ≤ 4
        · have hkm : k = m := by omega
          subst hkm
          have hend : ¬ (af T n q < n ∧ 48 ≤ T (af T n q) ∧ T (af T n q) ≤ 57) := by
            rintro ⟨z1, z2⟩
            have := rn_out (p := isDb) (T := T) (n := n) (i := q.1) (by rw [← k4]; exact z1)
            rw [← k4, show isDb (T (af T n q)) = true from decide_eq_true z2] at this; cases this
          rw [show q.1 + k = af T n q by omega] at e
          have hRT : RT T n (nx T n q) (ax_up M3 142 4 (af T n q : Int)) := hq.wd hqn (Or.inr hkd) ((hS.mono rfl).up rfl) (by rw [ax_up_of (by decide)]; exact e) ax_up_at
          refine g3 hC rfl rfl ?_
          refine g19 hC rfl sh142 (flt12 rfl) ft12_2 e ?_
          refine g3 hC rfl rfl ?_
          refine g19 hC rfl sh142 (flt12 rfl) ft12_3 ((hS 142 3 rfl).trans h1) ?_
          refine g13g hC rfl (fun h30 => ?_) (fun h30 => ?_)
          ·
            refine g3 hC rfl rfl ?_
            refine g3 hC rfl rfl ?_
            refine g19 hC rfl sh142 (flt12 rfl) ft12_2 e ?_
            refine g20 hC rfl sh142 (flt12 rfl) (by rw [fy12_4]; rfl) ?_
            refine g3 hC rfl rfl ?_
            refine g9 hC rfl ?_
            refine g3 hC rfl rfl ?_
            refine g9 hC rfl ?_
            refine g3 hC rfl rfl ?_
            refine g9 hC rfl ?_
            refine c1 hC rfl rfl rfl (Nat.le_of_ble_eq_true rfl) (Nat.le_of_ble_eq_true rfl) (mayS k153 rfl) (m153) (Nat.le_of_ble_eq_true rfl) (fun x M2 hr => ?_)
            obtain ⟨hy, hr⟩ := hr; replace hr := hr.symm; subst hr; have hy := ite01 hy
            refine g12n hC rfl (fun h81 => ?_) (fun h81 => ?_)
            ·
              refine g3 hC rfl rfl ?_
              refine ret1 hC rfl rfl ?_
              rw [hP]
              refine ⟨(hS.mono rfl).up rfl, by omega, Or.inr ⟨?_, hRT, eV.symm⟩⟩
              rw [e0, if_neg (fun z => z hkd), if_neg (by omega), if_pos (by omega)]
            ·
              refine g3 hC rfl rfl ?_
              refine g0 hC rfl ?_
              refine g3 hC rfl rfl ?_
              refine c0 hC rfl rfl rfl (Nat.le_of_ble_eq_true rfl) (Nat.le_of_ble_eq_true rfl) (mayR k156 rfl) (m156 hRT.2.2.2.2.1) (Nat.le_of_ble_eq_true rfl) (fun M2 hr => ?_)
              replace hr := hr.symm; subst hr
              refine g3 hC rfl rfl ?_
              refine ret1 hC rfl rfl ?_
              rw [hP]
              refine ⟨(((hS.mono rfl).up rfl).up rfl).up rfl, by omega, Or.inl ⟨2, _, ?_, by decide, BF.up⟩⟩
              rw [e0, if_neg (fun z => z hkd), if_neg (by omega), if_neg (by omega)]
          ·
            refine g3 hC rfl rfl ?_
            refine g19 hC rfl sh142 (flt12 rfl) ft12_0 ((hS.fix hw hF).g fx_142_0) ?_
            refine g3 hC rfl rfl ?_
            refine g19 hC rfl sh142 (flt12 rfl) ft12_2 e ?_
            refine r21 ((af T n q)) hC rfl (by omega) sh143 (Or.inl rfl) (by omega) ((hS 143 _ rfl).trans (h6 _ (by omega))) ?_
            refine c1 hC rfl rfl rfl (Nat.le_of_ble_eq_true rfl) (Nat.le_of_ble_eq_true rfl) (mayS k158 rfl) (m158) (Nat.le_of_ble_eq_true rfl) (fun x M2 hr => ?_)
            obtain ⟨hx, hr⟩ := hr; replace hr := hr.symm; subst hr; have hx := ite01 hx
            refine g12e hC rfl (fun h37 => ?_) (fun h37 => ?_)
            ·
              refine g3 hC rfl rfl ?_
              refine g3 hC rfl rfl ?_
              refine g19 hC rfl sh142 (flt12 rfl) ft12_2 e ?_
              refine g20 hC rfl sh142 (flt12 rfl) (by rw [fy12_4]; rfl) ?_
              refine g3 hC rfl rfl ?_
              refine g9 hC rfl ?_
              refine g3 hC rfl rfl ?_
              refine g9 hC rfl ?_
              refine g3 hC rfl rfl ?_
              refine g9 hC rfl ?_
              refine c1 hC rfl rfl rfl (Nat.le_of_ble_eq_true rfl) (Nat.le_of_ble_eq_true rfl) (mayS k153 rfl) (m153) (Nat.le_of_ble_eq_true rfl) (fun x M2 hr => ?_)
              obtain ⟨hy, hr⟩ := hr; replace hr := hr.symm; subst hr; have hy := ite01 hy
              refine g12n hC rfl (fun h81 => ?_) (fun h81 => ?_)
              ·
                refine g3 hC rfl rfl ?_
                refine ret1 hC rfl rfl ?_
                rw [hP]
                refine ⟨(hS.mono rfl).up rfl, by omega, Or.inr ⟨?_, hRT, eV.symm⟩⟩
                rw [e0, if_neg (fun z => z hkd), if_neg (by omega), if_pos (by omega)]
              ·
                refine g3 hC rfl rfl ?_
                refine g0 hC rfl ?_
                refine g3 hC rfl rfl ?_
                refine c0 hC rfl rfl rfl (Nat.le_of_ble_eq_true rfl) (Nat.le_of_ble_eq_true rfl) (mayR k156 rfl) (m156 hRT.2.2.2.2.1) (Nat.le_of_ble_eq_true rfl) (fun M2 hr => ?_)
                replace hr := hr.symm; subst hr
                refine g3 hC rfl rfl ?_
                refine ret1 hC rfl rfl ?_
                rw [hP]
                refine ⟨(((hS.mono rfl).up rfl).up rfl).up rfl, by omega, Or.inl ⟨2, _, ?_, by decide, BF.up⟩⟩
                rw [e0, if_neg (fun z => z hkd), if_neg (by omega), if_neg (by omega)]
            ·
              exfalso; omega
        · have hkm : k = 4 := by omega
          subst hkm
          have hd4 := hdg 4 (by omega)
          refine g3 hC rfl rfl ?_
          refine g19 hC rfl sh142 (flt12 rfl) ft12_2 e ?_
          refine g3 hC rfl rfl ?_
          refine g19 hC rfl sh142 (flt12 rfl) ft12_3 ((hS 142 3 rfl).trans h1) ?_
          refine g13g hC rfl (fun h30 => (by omega)) (fun h30 => ?_)
          refine g3 hC rfl rfl ?_
          refine g19 hC rfl sh142 (flt12 rfl) ft12_0 ((hS.fix hw hF).g fx_142_0) ?_
          refine g3 hC rfl rfl ?_
          refine g19 hC rfl sh142 (flt12 rfl) ft12_2 e ?_
          refine r21 ((q.1+4)) hC rfl (by omega) sh143 (Or.inl rfl) (by omega) ((hS 143 _ rfl).trans (h6 _ (by omega))) ?_
          refine c1 hC rfl rfl rfl (Nat.le_of_ble_eq_true rfl) (Nat.le_of_ble_eq_true rfl) (mayS k158 rfl) (m158) (Nat.le_of_ble_eq_true rfl) (fun x M2 hr => ?_)
          obtain ⟨hx, hr⟩ := hr; replace hr := hr.symm; subst hr; have hx := ite01 hx
          refine g12e hC rfl (fun h37 => (by omega)) (fun h37 => ?_)
          refine g3 hC rfl rfl ?_
          refine g19 hC rfl sh142 (flt12 rfl) ft12_2 e ?_
          refine g3 hC rfl rfl ?_
          refine g6s hC rfl ⟨by omega, by omega⟩ ?_
          refine g0 hC rfl ?_
          refine g13n hC rfl (fun h43 => (by omega)) (fun h43 => ?_)
          refine g3 hC rfl rfl ?_
          refine g0 hC rfl ?_
          refine g3 hC rfl rfl ?_
          refine g19 hC rfl sh142 (flt12 rfl) ft12_2 e ?_
          refine c0 hC rfl rfl rfl (Nat.le_of_ble_eq_true rfl) (Nat.le_of_ble_eq_true rfl) (mayR k156 rfl) (m156 ((hS 142 5 rfl).trans h7)) (Nat.le_of_ble_eq_true rfl) (fun M2 hr => ?_)
          replace hr := hr.symm; subst hr
          refine g0 hC rfl ?_
          refine ret1 hC rfl rfl ?_
          rw [hP]
          refine ⟨((hS.mono rfl).up rfl).up rfl, by decide, Or.inl ⟨1, _, ?_, by decide, BF.up⟩⟩
          rw [e0, if_neg (fun z => z hkd), if_pos (by omega)]
      · rintro i hi ll M3 ⟨rfl, hS, e⟩ hnext
        have hv := nv_b (T := T) (s := q.1) i (fun j hj => hdg j (by omega))
        have hv4 := p4 i (by omega)
        have hdi := hdg i (by omega)
        refine g3 hC rfl rfl ?_
        refine g19 hC rfl sh142 (flt12 rfl) ft12_2 e ?_
        refine g3 hC rfl rfl ?_
        refine g19 hC rfl sh142 (flt12 rfl) ft12_3 ((hS 142 3 rfl).trans h1) ?_
        refine g13g hC rfl (fun h30 => (by omega)) (fun h30 => ?_)
        refine g3 hC rfl rfl ?_
        refine g19 hC rfl sh142 (flt12 rfl) ft12_0 ((hS.fix hw hF).g fx_142_0) ?_
        refine g3 hC rfl rfl ?_
        refine g19 hC rfl sh142 (flt12 rfl) ft12_2 e ?_
        refine r21 ((q.1+i)) hC rfl (by omega) sh143 (Or.inl rfl) (by omega) ((hS 143 _ rfl).trans (h6 _ (by omega))) ?_
        refine c1 hC rfl rfl rfl (Nat.le_of_ble_eq_true rfl) (Nat.le_of_ble_eq_true rfl) (mayS k158 rfl) (m158) (Nat.le_of_ble_eq_true rfl) (fun x M2 hr => ?_)
        obtain ⟨hx, hr⟩ := hr; replace hr := hr.symm; subst hr; have hx := ite01 hx
        refine g12e hC rfl (fun h37 => (by omega)) (fun h37 => ?_)
        refine g3 hC rfl rfl ?_
        refine g19 hC rfl sh142 (flt12 rfl) ft12_2 e ?_
        refine g3 hC rfl rfl ?_
        refine g6s hC rfl ⟨by omega, by omega⟩ ?_
        refine g0 hC rfl ?_
        refine g13n hC rfl (fun h43 => ?_) (fun h43 => (by omega))
        refine g0 hC rfl ?_
        refine g3 hC rfl rfl ?_
        refine g6m hC rfl ⟨by omega, by omega⟩ ?_
        refine g3 hC rfl rfl ?_
        refine g19 hC rfl sh142 (flt12 rfl) ft12_0 ((hS.fix hw hF).g fx_142_0) ?_
        refine g3 hC rfl rfl ?_
        refine g19 hC rfl sh142 (flt12 rfl) ft12_2 e ?_
        refine r21 ((q.1+i)) hC rfl (by omega) sh143 (Or.inl rfl) (by omega) ((hS 143 _ rfl).trans (h6 _ (by omega))) ?_
        refine g6a hC rfl ⟨by omega, by omega⟩ ?_
        refine g0 hC rfl ?_
        refine g6s hC rfl ⟨by omega, by omega⟩ ?_
        refine s4 hC rfl rfl rfl ?_
        refine g3 hC rfl rfl ?_
        refine g16 hC rfl (by decide) ?_
        refine g19 hC rfl sh142 (flt12 rfl) ft12_2 e ?_
        refine g0 hC rfl ?_
        refine g6a hC rfl ⟨by omega, by omega⟩ ?_
        refine g20s hC rfl sh142 (flt12 rfl) (by rw [fy12_2]; rfl) hS rfl (fun hS => ?_)
        refine g14 hC rfl ?_
        refine hnext _ _ ⟨rfl, hS, ?_⟩
        rw [ax_up_at]; omega
    refine g3 hC rfl rfl ?_
    refine g19 hC rfl sh142 (flt12 rfl) ft12_5 h7 ?_
    refine g12e hC rfl (fun h2 => ?_) (fun h2 => (by omega))
    refine g3 hC rfl rfl ?_
    refine c1 hC rfl rfl rfl (Nat.le_of_ble_eq_true rfl) (Nat.le_of_ble_eq_true rfl) (mayR k159 rfl) (m159 hF hn hq hqn) (Nat.le_of_ble_eq_true rfl) (fun x M2 hr => ?_)
    obtain ⟨rfl, hr0, hr1⟩ := hr; have hS := hS.then hr0 rfl
    refine c1 hC rfl rfl rfl (Nat.le_of_ble_eq_true rfl) (Nat.le_of_ble_eq_true rfl) (mayS k158 rfl) (m158) (Nat.le_of_ble_eq_true rfl) (fun x M2 hr => ?_)
    obtain ⟨hx, hr⟩ := hr; replace hr := hr.symm; subst hr; have hx := ite01 hx
    refine g12e hC rfl (fun h8 => (by omega)) (fun h8 => ?_)
    refine g3 hC rfl rfl ?_
    refine g19 hC rfl sh142 (flt12 rfl) ft12_2 hr1 ?_
    refine g3 hC rfl rfl ?_
    refine g19 hC rfl sh142 (flt12 rfl) ft12_4 (hr0 142 4 rfl) ?_
    refine g13n hC rfl (fun h13 => ?_) (fun h13 => (by omega))
    refine g3 hC rfl rfl ?_
    refine g19 hC rfl sh142 (flt12 rfl) ft12_2 hr1 ?_
    refine s3 hC rfl rfl rfl ?_
    refine g0 hC rfl ?_
    refine s4 hC rfl rfl rfl ?_
    exact l1 _ rfl (min m 4) 0 (Nat.zero_add _) _ _ ⟨rfl, hr0, hr1⟩
  · rw [if_pos hkd] at e0
    refine g3 hC rfl rfl ?_
    refine g19 hC rfl sh142 (flt12 rfl) ft12_5 h7 ?_
    refine g12e hC rfl (fun h2 => ?_) (fun h2 => (by omega))
    refine g3 hC rfl rfl ?_
    refine c1 hC rfl rfl rfl (Nat.le_of_ble_eq_true rfl) (Nat.le_of_ble_eq_true rfl) (mayR k159 rfl) (m159 hF hn hq hqn) (Nat.le_of_ble_eq_true rfl) (fun x M2 hr => ?_)
    obtain ⟨rfl, hr0, hr1⟩ := hr; have hS := hS.then hr0 rfl
    refine c1 hC rfl rfl rfl (Nat.le_of_ble_eq_true rfl) (Nat.le_of_ble_eq_true rfl) (mayS k158 rfl) (m158) (Nat.le_of_ble_eq_true rfl) (fun x M2 hr => ?_)
    obtain ⟨hx, hr⟩ := hr; replace hr := hr.symm; subst hr; have hx := ite01 hx
    refine g12e hC rfl (fun h8 => ?_) (fun h8 => ?_)
    ·
      refine g3 hC rfl rfl ?_
      refine g0 hC rfl ?_
      refine g3 hC rfl rfl ?_
      refine g19 hC rfl sh142 (flt12 rfl) ft12_2 hr1 ?_
      refine c0 hC rfl rfl rfl (Nat.le_of_ble_eq_true rfl) (Nat.le_of_ble_eq_true rfl) (mayR k156 rfl) (m156 ((hr0 142 5 rfl).trans h7)) (Nat.le_of_ble_eq_true rfl) (fun M2 hr => ?_)
      replace hr := hr.symm; subst hr
      refine g0 hC rfl ?_
      refine ret1 hC rfl rfl ?_
      rw [hP]
      exact ⟨(hS.up rfl).up rfl, by decide, Or.inl ⟨1, _, e0, by decide, BF.up⟩⟩
    ·
      refine g3 hC rfl rfl ?_
      refine g19 hC rfl sh142 (flt12 rfl) ft12_2 hr1 ?_
      refine g3 hC rfl rfl ?_
      refine g19 hC rfl sh142 (flt12 rfl) ft12_4 (hr0 142 4 rfl) ?_
      refine g13n hC rfl (fun h13 => ?_) (fun h13 => ?_)
      ·
        exfalso
        have k0 := hD.1 (by omega)
        have hf : q.2 = false := by
          cases e : q.2 with
          | false => rfl
          | true => have := h5.2.2 e; omega
        have := (glu (Or.inr k0)).2.1 hf
        omega
      ·
        refine g3 hC rfl rfl ?_
        refine g0 hC rfl ?_
        refine g3 hC rfl rfl ?_
        refine g19 hC rfl sh142 (flt12 rfl) ft12_2 hr1 ?_
        refine c0 hC rfl rfl rfl (Nat.le_of_ble_eq_true rfl) (Nat.le_of_ble_eq_true rfl) (mayR k156 rfl) (m156 ((hr0 142 5 rfl).trans h7)) (Nat.le_of_ble_eq_true rfl) (fun M2 hr => ?_)
        replace hr := hr.symm; subst hr
        refine g0 hC rfl ?_
        refine ret1 hC rfl rfl ?_
        rw [hP]
        exact ⟨(hS.up rfl).up rfl, by decide, Or.inl ⟨1, _, e0, by decide, BF.up⟩⟩
theorem m166 (hF : Fix M) (hn : n ≤ 1600) (hq : RT T n q M) (hqn : q.1 ≤ n) (hW : Wd M) : ax_Ev L X SH 2 166 [(2, 142)] M (R1 0 (fun x M' => (x = if fnd T n q 0 ownW = -1 then 0 else 1) ∧ Sb XLK M M' ∧ M' 142 2 = (q.1 : Int))) := by
  show ax_G L X SH 2 166 0 [(2, 142), (3, 0)] [] M _
  have hC := at166
  have hw : wok XLK = true := by decide +kernel
  have hS : Sb XLK M M := Sb.refl
  have hq0 := hq
  obtain ⟨P, hP⟩ : ∃ P, P = fun (x : Int) (M' : ax_M) => (x = if fnd T n q 0 ownW = -1 then 0 else 1) ∧ Sb XLK M M' ∧ M' 142 2 = (q.1 : Int) := ⟨_, rfl⟩
  rw [← hP]
  have yes : ∀ M1 w, w ∈ ownW → isW T n q w = true → Sb XLK M M1 → M1 142 2 = (q.1 : Int) → P 1 M1 := by
    intro M1 w hw1 hw2 hs e
    rw [hP]; refine ⟨?_, hs, e⟩
    rw [if_neg (fun z => ?_)]
    rw [fnd_no.1 z w hw1] at hw2; cases hw2
  have one178 : ∀ M1 w, w ∈ ownW → isW T n q w = true → Sb XLK M M1 → M1 142 2 = (q.1 : Int) → ax_G L X SH 2 166 178 [(2, 142), (0, 1)] [] M1 (R1 0 P) := by
    intro M1 w hw1 hw2 hs e
    refine g3 hC rfl rfl ?_
    refine g12n hC rfl (fun h179 => ?_) (fun h179 => (by omega))
    refine g0 hC rfl ?_
    refine g14 hC rfl ?_
    refine s1 hC rfl rfl rfl ?_
    refine g3 hC rfl rfl ?_
    refine ret3 hC rfl ⟨by omega, by omega⟩ ?_
    exact yes M1 w hw1 hw2 hs e
  have one142 : ∀ M1 w, w ∈ ownW → isW T n q w = true → Sb XLK M M1 → M1 142 2 = (q.1 : Int) → ax_G L X SH 2 166 142 [(2, 142), (0, 1)] [] M1 (R1 0 P) := by
    intro M1 w hw1 hw2 hs e
    refine g3 hC rfl rfl ?_
    refine g12n hC rfl (fun h143 => ?_) (fun h143 => (by omega))
    refine g0 hC rfl ?_
    refine g14 hC rfl ?_
    refine s1 hC rfl rfl rfl ?_
    refine g3 hC rfl rfl ?_
    refine g12n hC rfl (fun h179 => ?_) (fun h179 => (by omega))
    refine g0 hC rfl ?_
    refine g14 hC rfl ?_
    refine s1 hC rfl rfl rfl ?_
    refine g3 hC rfl rfl ?_
    refine ret3 hC rfl ⟨by omega, by omega⟩ ?_
    exact yes M1 w hw1 hw2 hs e
  have one106 : ∀ M1 w, w ∈ ownW → isW T n q w = true → Sb XLK M M1 → M1 142 2 = (q.1 : Int) → ax_G L X SH 2 166 106 [(2, 142), (0, 1)] [] M1 (R1 0 P) := by
    intro M1 w hw1 hw2 hs e
    refine g3 hC rfl rfl ?_
    refine g12n hC rfl (fun h107 => ?_) (fun h107 => (by omega))
    refine g0 hC rfl ?_
    refine g14 hC rfl ?_
    refine s1 hC rfl rfl rfl ?_
    refine g3 hC rfl rfl ?_
    refine g12n hC rfl (fun h143 => ?_) (fun h143 => (by omega))
    refine g0 hC rfl ?_
    refine g14 hC rfl ?_
    refine s1 hC rfl rfl rfl ?_
    refine g3 hC rfl rfl ?_
    refine g12n hC rfl (fun h179 => ?_) (fun h179 => (by omega))
    refine g0 hC rfl ?_
    refine g14 hC rfl ?_
    refine s1 hC rfl rfl rfl ?_
    refine g3 hC rfl rfl ?_
    refine ret3 hC rfl ⟨by omega, by omega⟩ ?_
    exact yes M1 w hw1 hw2 hs e
  have one70 : ∀ M1 w, w ∈ ownW → isW T n q w = true → Sb XLK M M1 → M1 142 2 = (q.1 : Int) → ax_G L X SH 2 166 70 [(2, 142), (0, 1)] [] M1 (R1 0 P) := by
    intro M1 w hw1 hw2 hs e
    refine g3 hC rfl rfl ?_
    refine g12n hC rfl (fun h71 => ?_) (fun h71 => (by omega))
    refine g0 hC rfl ?_
    refine g14 hC rfl ?_
    refine s1 hC rfl rfl rfl ?_
    refine g3 hC rfl rfl ?_
    refine g12n hC rfl (fun h107 => ?_) (fun h107 => (by omega))
    refine g0 hC rfl ?_
    refine g14 hC rfl ?_
    refine s1 hC rfl rfl rfl ?_
    refine g3 hC rfl rfl ?_
    refine g12n hC rfl (fun h143 => ?_) (fun h143 => (by omega))
    refine g0 hC rfl ?_
    refine g14 hC rfl ?_
    refine s1 hC rfl rfl rfl ?_
    refine g3 hC rfl rfl ?_
    refine g12n hC rfl (fun h179 => ?_) (fun h179 => (by omega))
    refine g0 hC rfl ?_
    refine g14 hC rfl ?_
    refine s1 hC rfl rfl rfl ?_
    refine g3 hC rfl rfl ?_
    refine ret3 hC rfl ⟨by omega, by omega⟩ ?_
    exact yes M1 w hw1 hw2 hs e
  have one34 : ∀ M1 w, w ∈ ownW → isW T n q w = true → Sb XLK M M1 → M1 142 2 = (q.1 : Int) → ax_G L X SH 2 166 34 [(2, 142), (0, 1)] [] M1 (R1 0 P) := by
    intro M1 w hw1 hw2 hs e
    refine g3 hC rfl rfl ?_
    refine g12n hC rfl (fun h35 => ?_) (fun h35 => (by omega))
    refine g0 hC rfl ?_
    refine g14 hC rfl ?_
    refine s1 hC rfl rfl rfl ?_
    refine g3 hC rfl rfl ?_
    refine g12n hC rfl (fun h71 => ?_) (fun h71 => (by omega))
    refine g0 hC rfl ?_
    refine g14 hC rfl ?_
    refine s1 hC rfl rfl rfl ?_
    refine g3 hC rfl rfl ?_
    refine g12n hC rfl (fun h107 => ?_) (fun h107 => (by omega))
    refine g0 hC rfl ?_
    refine g14 hC rfl ?_
    refine s1 hC rfl rfl rfl ?_
    refine g3 hC rfl rfl ?_
    refine g12n hC rfl (fun h143 => ?_) (fun h143 => (by omega))
    refine g0 hC rfl ?_
    refine g14 hC rfl ?_
    refine s1 hC rfl rfl rfl ?_
    refine g3 hC rfl rfl ?_
    refine g12n hC rfl (fun h179 => ?_) (fun h179 => (by omega))
    refine g0 hC rfl ?_
    refine g14 hC rfl ?_
    refine s1 hC rfl rfl rfl ?_
    refine g3 hC rfl rfl ?_
    refine ret3 hC rfl ⟨by omega, by omega⟩ ?_
    exact yes M1 w hw1 hw2 hs e
  have nxt178 : ∀ M1, Sb XLK M M1 → RT T n q M1 → M1 142 2 = (q.1 : Int) → isW T n q w_room = false → isW T n q w_stair = false → isW T n q w_to = false → isW T n q w_wide = false → isW T n q w_part = false → isW T n q w_post = false → isW T n q w_clerk = false → isW T n q w_in = false → isW T n q w_of = false → isW T n q w_pace = false → isW T n q w_bag = false → isW T n q w_turns = false → isW T n q w_dear = false → isW T n q w_hears = false → isW T n q w_signs = false → isW T n q w_smoke = false → isW T n q w_drill = false → isW T n q w_minute = false → isW T n q w_crowd = false → isW T n q w_other = false → isW T n q w_long = false → isW T n q w_number = false → isW T n q w_out = false → isW T n q w_signed = false → isW T n q w_meets = false → isW T n q w_or = false → isW T n q w_and = false → isW T n q w_not = false → isW T n q w_all = false → isW T n q w_min = false → ax_G L X SH 2 166 178 [(2, 142), (0, 0)] [] M1 (R1 0 P) := by
    intro M1 hS hq hr1 k_room k_stair k_to k_wide k_part k_post k_clerk k_in k_of k_pace k_bag k_turns k_dear k_hears k_signs k_smoke k_drill k_minute k_crowd k_other k_long k_number k_out k_signed k_meets k_or k_and k_not k_all k_min
    have nofin : ∀ M2, Sb XLK M M2 → M2 142 2 = (q.1 : Int) → isW T n q w_max = false → P 0 M2 := by
      intro M2 hs e k_max
      rw [hP]; refine ⟨?_, hs, e⟩
      rw [if_pos (fnd_no.2 (fun w hw1 => ?_))]
      unfold ownW at hw1
      simp only [List.mem_cons, List.not_mem_nil, or_false] at hw1
      rcases hw1 with rfl | rfl | rfl | rfl | rfl | rfl | rfl | rfl | rfl | rfl | rfl | rfl | rfl | rfl | rfl | rfl | rfl | rfl | rfl | rfl | rfl | rfl | rfl | rfl | rfl | rfl | rfl | rfl | rfl | rfl | rfl <;> assumption
    refine g3 hC rfl rfl ?_
    refine g12n hC rfl (fun h179 => (by omega)) (fun h179 => ?_)
    refine g3 hC rfl rfl ?_
    refine g3 hC rfl rfl ?_
    refine g19 hC rfl sh142 (flt12 rfl) ft12_40 ((hS.fix hw hF).g fx_142_40) ?_
    refine c1 hC rfl rfl rfl (Nat.le_of_ble_eq_true rfl) (Nat.le_of_ble_eq_true rfl) (mayR k160 rfl) (m160 (hS.fix hw hF) hn hq hqn (c := 175) (w := w_max) sh175 (wa175 (hW.sb hS rfl)) (by decide)) (Nat.le_of_ble_eq_true rfl) (fun x175 M2 hr => ?_)
    obtain ⟨hx175, hr0, hr1⟩ := hr; have hS := hS.then hr0 rfl; have hq := hq.lk hr0 hr1
    refine g12e hC rfl (fun h184 => ?_) (fun h184 => ?_)
    ·
      refine g0 hC rfl ?_
      refine s1 hC rfl rfl rfl ?_
      refine g3 hC rfl rfl ?_
      refine ret3 hC rfl ⟨by omega, by omega⟩ ?_
      exact nofin _ hS hr1 (nW hx175 (by omega))
    ·
      refine g0 hC rfl ?_
      refine g14 hC rfl ?_
      refine s1 hC rfl rfl rfl ?_
      refine g3 hC rfl rfl ?_
      refine ret3 hC rfl ⟨by omega, by omega⟩ ?_
      exact yes _ w_max (by decide) (yW hx175 (by omega)) hS hr1
  have nxt142 : ∀ M1, Sb XLK M M1 → RT T n q M1 → M1 142 2 = (q.1 : Int) → isW T n q w_room = false → isW T n q w_stair = false → isW T n q w_to = false → isW T n q w_wide = false → isW T n q w_part = false → isW T n q w_post = false → isW T n q w_clerk = false → isW T n q w_in = false → isW T n q w_of = false → isW T n q w_pace = false → isW T n q w_bag = false → isW T n q w_turns = false → isW T n q w_dear = false → isW T n q w_hears = false → isW T n q w_signs = false → isW T n q w_smoke = false → isW T n q w_drill = false → isW T n q w_minute = false → isW T n q w_crowd = false → isW T n q w_other = false → isW T n q w_long = false → isW T n q w_number = false → isW T n q w_out = false → isW T n q w_signed = false → ax_G L X SH 2 166 142 [(2, 142), (0, 0)] [] M1 (R1 0 P) := by
    intro M1 hS hq hr1 k_room k_stair k_to k_wide k_part k_post k_clerk k_in k_of k_pace k_bag k_turns k_dear k_hears k_signs k_smoke k_drill k_minute k_crowd k_other k_long k_number k_out k_signed
    refine g3 hC rfl rfl ?_
    refine g12n hC rfl (fun h143 => (by omega)) (fun h143 => ?_)
    refine g3 hC rfl rfl ?_
    refine g3 hC rfl rfl ?_
    refine g19 hC rfl sh142 (flt12 rfl) ft12_34 ((hS.fix hw hF).g fx_142_34) ?_
    refine c1 hC rfl rfl rfl (Nat.le_of_ble_eq_true rfl) (Nat.le_of_ble_eq_true rfl) (mayR k160 rfl) (m160 (hS.fix hw hF) hn hq hqn (c := 169) (w := w_meets) sh169 (wa169 (hW.sb hS rfl)) (by decide)) (Nat.le_of_ble_eq_true rfl) (fun x169 M2 hr => ?_)
    obtain ⟨hx169, hr0, hr1⟩ := hr; have hS := hS.then hr0 rfl; have hq := hq.lk hr0 hr1
    refine g12n hC rfl (fun h148 => ?_) (fun h148 => ?_)
    ·
      refine g0 hC rfl ?_
      refine g14 hC rfl ?_
      refine s1 hC rfl rfl rfl ?_
      exact one178 _ w_meets (by decide) (yW hx169 (by omega)) hS hr1
    ·
      refine g3 hC rfl rfl ?_
      refine g3 hC rfl rfl ?_
      refine g19 hC rfl sh142 (flt12 rfl) ft12_35 ((hS.fix hw hF).g fx_142_35) ?_
      refine c1 hC rfl rfl rfl (Nat.le_of_ble_eq_true rfl) (Nat.le_of_ble_eq_true rfl) (mayR k160 rfl) (m160 (hS.fix hw hF) hn hq hqn (c := 170) (w := w_or) sh170 (wa170 (hW.sb hS rfl)) (by decide)) (Nat.le_of_ble_eq_true rfl) (fun x170 M2 hr => ?_)
      obtain ⟨hx170, hr0, hr1⟩ := hr; have hS := hS.then hr0 rfl; have hq := hq.lk hr0 hr1
      refine g12n hC rfl (fun h153 => ?_) (fun h153 => ?_)
      ·
        refine g0 hC rfl ?_
        refine g14 hC rfl ?_
        refine s1 hC rfl rfl rfl ?_
        exact one178 _ w_or (by decide) (yW hx170 (by omega)) hS hr1
      ·
        refine g3 hC rfl rfl ?_
        refine g3 hC rfl rfl ?_
        refine g19 hC rfl sh142 (flt12 rfl) ft12_36 ((hS.fix hw hF).g fx_142_36) ?_
        refine c1 hC rfl rfl rfl (Nat.le_of_ble_eq_true rfl) (Nat.le_of_ble_eq_true rfl) (mayR k160 rfl) (m160 (hS.fix hw hF) hn hq hqn (c := 171) (w := w_and) sh171 (wa171 (hW.sb hS rfl)) (by decide)) (Nat.le_of_ble_eq_true rfl) (fun x171 M2 hr => ?_)
        obtain ⟨hx171, hr0, hr1⟩ := hr; have hS := hS.then hr0 rfl; have hq := hq.lk hr0 hr1
        refine g12n hC rfl (fun h158 => ?_) (fun h158 => ?_)
        ·
          refine g0 hC rfl ?_
          refine g14 hC rfl ?_
          refine s1 hC rfl rfl rfl ?_
          exact one178 _ w_and (by decide) (yW hx171 (by omega)) hS hr1
        ·
          refine g3 hC rfl rfl ?_
          refine g3 hC rfl rfl ?_
          refine g19 hC rfl sh142 (flt12 rfl) ft12_37 ((hS.fix hw hF).g fx_142_37) ?_
          refine c1 hC rfl rfl rfl (Nat.le_of_ble_eq_true rfl) (Nat.le_of_ble_eq_true rfl) (mayR k160 rfl) (m160 (hS.fix hw hF) hn hq hqn (c := 172) (w := w_not) sh172 (wa172 (hW.sb hS rfl)) (by decide)) (Nat.le_of_ble_eq_true rfl) (fun x172 M2 hr => ?_)
          obtain ⟨hx172, hr0, hr1⟩ := hr; have hS := hS.then hr0 rfl; have hq := hq.lk hr0 hr1
          refine g12n hC rfl (fun h163 => ?_) (fun h163 => ?_)
          ·
            refine g0 hC rfl ?_
            refine g14 hC rfl ?_
            refine s1 hC rfl rfl rfl ?_
            exact one178 _ w_not (by decide) (yW hx172 (by omega)) hS hr1
          ·
            refine g3 hC rfl rfl ?_
            refine g3 hC rfl rfl ?_
            refine g19 hC rfl sh142 (flt12 rfl) ft12_38 ((hS.fix hw hF).g fx_142_38) ?_
            refine c1 hC rfl rfl rfl (Nat.le_of_ble_eq_true rfl) (Nat.le_of_ble_eq_true rfl) (mayR k160 rfl) (m160 (hS.fix hw hF) hn hq hqn (c := 173) (w := w_all) sh173 (wa173 (hW.sb hS rfl)) (by decide)) (Nat.le_of_ble_eq_true rfl) (fun x173 M2 hr => ?_)
            obtain ⟨hx173, hr0, hr1⟩ := hr; have hS := hS.then hr0 rfl; have hq := hq.lk hr0 hr1
            refine g12n hC rfl (fun h168 => ?_) (fun h168 => ?_)
            ·
              refine g0 hC rfl ?_
              refine g14 hC rfl ?_
              refine s1 hC rfl rfl rfl ?_
              exact one178 _ w_all (by decide) (yW hx173 (by omega)) hS hr1
            ·
              refine g3 hC rfl rfl ?_
              refine g3 hC rfl rfl ?_
              refine g19 hC rfl sh142 (flt12 rfl) ft12_39 ((hS.fix hw hF).g fx_142_39) ?_
              refine c1 hC rfl rfl rfl (Nat.le_of_ble_eq_true rfl) (Nat.le_of_ble_eq_true rfl) (mayR k160 rfl) (m160 (hS.fix hw hF) hn hq hqn (c := 174) (w := w_min) sh174 (wa174 (hW.sb hS rfl)) (by decide)) (Nat.le_of_ble_eq_true rfl) (fun x174 M2 hr => ?_)
              obtain ⟨hx174, hr0, hr1⟩ := hr; have hS := hS.then hr0 rfl; have hq := hq.lk hr0 hr1
              refine g12e hC rfl (fun h173 => ?_) (fun h173 => ?_)
              ·
                refine g0 hC rfl ?_
                refine s1 hC rfl rfl rfl ?_
                exact nxt178 _ hS hq hr1 k_room k_stair k_to k_wide k_part k_post k_clerk k_in k_of k_pace k_bag k_turns k_dear k_hears k_signs k_smoke k_drill k_minute k_crowd k_other k_long k_number k_out k_signed (nW hx169 (by omega)) (nW hx170 (by omega)) (nW hx171 (by omega)) (nW hx172 (by omega)) (nW hx173 (by omega)) (nW hx174 (by omega))
              ·
                refine g0 hC rfl ?_
                refine g14 hC rfl ?_
                refine s1 hC rfl rfl rfl ?_
                exact one178 _ w_min (by decide) (yW hx174 (by omega)) hS hr1
  have nxt106 : ∀ M1, Sb XLK M M1 → RT T n q M1 → M1 142 2 = (q.1 : Int) → isW T n q w_room = false → isW T n q w_stair = false → isW T n q w_to = false → isW T n q w_wide = false → isW T n q w_part = false → isW T n q w_post = false → isW T n q w_clerk = false → isW T n q w_in = false → isW T n q w_of = false → isW T n q w_pace = false → isW T n q w_bag = false → isW T n q w_turns = false → isW T n q w_dear = false → isW T n q w_hears = false → isW T n q w_signs = false → isW T n q w_smoke = false → isW T n q w_drill = false → isW T n q w_minute = false → ax_G L X SH 2 166 106 [(2, 142), (0, 0)] [] M1 (R1 0 P) := by
    intro M1 hS hq hr1 k_room k_stair k_to k_wide k_part k_post k_clerk k_in k_of k_pace k_bag k_turns k_dear k_hears k_signs k_smoke k_drill k_minute
    refine g3 hC rfl rfl ?_
    refine g12n hC rfl (fun h107 => (by omega)) (fun h107 => ?_)
    refine g3 hC rfl rfl ?_
    refine g3 hC rfl rfl ?_
    refine g19 hC rfl sh142 (flt12 rfl) ft12_28 ((hS.fix hw hF).g fx_142_28) ?_
    refine c1 hC rfl rfl rfl (Nat.le_of_ble_eq_true rfl) (Nat.le_of_ble_eq_true rfl) (mayR k160 rfl) (m160 (hS.fix hw hF) hn hq hqn (c := 163) (w := w_crowd) sh163 (wa163 (hW.sb hS rfl)) (by decide)) (Nat.le_of_ble_eq_true rfl) (fun x163 M2 hr => ?_)
    obtain ⟨hx163, hr0, hr1⟩ := hr; have hS := hS.then hr0 rfl; have hq := hq.lk hr0 hr1
    refine g12n hC rfl (fun h112 => ?_) (fun h112 => ?_)
    ·
      refine g0 hC rfl ?_
      refine g14 hC rfl ?_
      refine s1 hC rfl rfl rfl ?_
      exact one142 _ w_crowd (by decide) (yW hx163 (by omega)) hS hr1
    ·
      refine g3 hC rfl rfl ?_
      refine g3 hC rfl rfl ?_
      refine g19 hC rfl sh142 (flt12 rfl) ft12_29 ((hS.fix hw hF).g fx_142_29) ?_
      refine c1 hC rfl rfl rfl (Nat.le_of_ble_eq_true rfl) (Nat.le_of_ble_eq_true rfl) (mayR k160 rfl) (m160 (hS.fix hw hF) hn hq hqn (c := 164) (w := w_other) sh164 (wa164 (hW.sb hS rfl)) (by decide)) (Nat.le_of_ble_eq_true rfl) (fun x164 M2 hr => ?_)
      obtain ⟨hx164, hr0, hr1⟩ := hr; have hS := hS.then hr0 rfl; have hq := hq.lk hr0 hr1
      refine g12n hC rfl (fun h117 => ?_) (fun h117 => ?_)
      ·
        refine g0 hC rfl ?_
        refine g14 hC rfl ?_
        refine s1 hC rfl rfl rfl ?_
        exact one142 _ w_other (by decide) (yW hx164 (by omega)) hS hr1
      ·
        refine g3 hC rfl rfl ?_
        refine g3 hC rfl rfl ?_
        refine g19 hC rfl sh142 (flt12 rfl) ft12_30 ((hS.fix hw hF).g fx_142_30) ?_
        refine c1 hC rfl rfl rfl (Nat.le_of_ble_eq_true rfl) (Nat.le_of_ble_eq_true rfl) (mayR k160 rfl) (m160 (hS.fix hw hF) hn hq hqn (c := 165) (w := w_long) sh165 (wa165 (hW.sb hS rfl)) (by decide)) (Nat.le_of_ble_eq_true rfl) (fun x165 M2 hr => ?_)
        obtain ⟨hx165, hr0, hr1⟩ := hr; have hS := hS.then hr0 rfl; have hq := hq.lk hr0 hr1
        refine g12n hC rfl (fun h122 => ?_) (fun h122 => ?_)
        ·
          refine g0 hC rfl ?_
          refine g14 hC rfl ?_
          refine s1 hC rfl rfl rfl ?_
          exact one142 _ w_long (by decide) (yW hx165 (by omega)) hS hr1
        ·
          refine g3 hC rfl rfl ?_
          refine g3 hC rfl rfl ?_
          refine g19 hC rfl sh142 (flt12 rfl) ft12_31 ((hS.fix hw hF).g fx_142_31) ?_
          refine c1 hC rfl rfl rfl (Nat.le_of_ble_eq_true rfl) (Nat.le_of_ble_eq_true rfl) (mayR k160 rfl) (m160 (hS.fix hw hF) hn hq hqn (c := 166) (w := w_number) sh166 (wa166 (hW.sb hS rfl)) (by decide)) (Nat.le_of_ble_eq_true rfl) (fun x166 M2 hr => ?_)
          obtain ⟨hx166, hr0, hr1⟩ := hr; have hS := hS.then hr0 rfl; have hq := hq.lk hr0 hr1
          refine g12n hC rfl (fun h127 => ?_) (fun h127 => ?_)
          ·
            refine g0 hC rfl ?_
            refine g14 hC rfl ?_
            refine s1 hC rfl rfl rfl ?_
            exact one142 _ w_number (by decide) (yW hx166 (by omega)) hS hr1
          ·
            refine g3 hC rfl rfl ?_
            refine g3 hC rfl rfl ?_
            refine g19 hC rfl sh142 (flt12 rfl) ft12_32 ((hS.fix hw hF).g fx_142_32) ?_
            refine c1 hC rfl rfl rfl (Nat.le_of_ble_eq_true rfl) (Nat.le_of_ble_eq_true rfl) (mayR k160 rfl) (m160 (hS.fix hw hF) hn hq hqn (c := 167) (w := w_out) sh167 (wa167 (hW.sb hS rfl)) (by decide)) (Nat.le_of_ble_eq_true rfl) (fun x167 M2 hr => ?_)
            obtain ⟨hx167, hr0, hr1⟩ := hr; have hS := hS.then hr0 rfl; have hq := hq.lk hr0 hr1
            refine g12n hC rfl (fun h132 => ?_) (fun h132 => ?_)
            ·
              refine g0 hC rfl ?_
              refine g14 hC rfl ?_
              refine s1 hC rfl rfl rfl ?_
              exact one142 _ w_out (by decide) (yW hx167 (by omega)) hS hr1
            ·
              refine g3 hC rfl rfl ?_
              refine g3 hC rfl rfl ?_
              refine g19 hC rfl sh142 (flt12 rfl) ft12_33 ((hS.fix hw hF).g fx_142_33) ?_
              refine c1 hC rfl rfl rfl (Nat.le_of_ble_eq_true rfl) (Nat.le_of_ble_eq_true rfl) (mayR k160 rfl) (m160 (hS.fix hw hF) hn hq hqn (c := 168) (w := w_signed) sh168 (wa168 (hW.sb hS rfl)) (by decide)) (Nat.le_of_ble_eq_true rfl) (fun x168 M2 hr => ?_)
              obtain ⟨hx168, hr0, hr1⟩ := hr; have hS := hS.then hr0 rfl; have hq := hq.lk hr0 hr1
              refine g12e hC rfl (fun h137 => ?_) (fun h137 => ?_)
              ·
                refine g0 hC rfl ?_
                refine s1 hC rfl rfl rfl ?_
                exact nxt142 _ hS hq hr1 k_room k_stair k_to k_wide k_part k_post k_clerk k_in k_of k_pace k_bag k_turns k_dear k_hears k_signs k_smoke k_drill k_minute (nW hx163 (by omega)) (nW hx164 (by omega)) (nW hx165 (by omega)) (nW hx166 (by omega)) (nW hx167 (by omega)) (nW hx168 (by omega))
              ·
                refine g0 hC rfl ?_
                refine g14 hC rfl ?_
                refine s1 hC rfl rfl rfl ?_
                exact one142 _ w_signed (by decide) (yW hx168 (by omega)) hS hr1
  have nxt70 : ∀ M1, Sb XLK M M1 → RT T n q M1 → M1 142 2 = (q.1 : Int) → isW T n q w_room = false → isW T n q w_stair = false → isW T n q w_to = false → isW T n q w_wide = false → isW T n q w_part = false → isW T n q w_post = false → isW T n q w_clerk = false → isW T n q w_in = false → isW T n q w_of = false → isW T n q w_pace = false → isW T n q w_bag = false → isW T n q w_turns = false → ax_G L X SH 2 166 70 [(2, 142), (0, 0)] [] M1 (R1 0 P) := by
    intro M1 hS hq hr1 k_room k_stair k_to k_wide k_part k_post k_clerk k_in k_of k_pace k_bag k_turns
    refine g3 hC rfl rfl ?_
    refine g12n hC rfl (fun h71 => (by omega)) (fun h71 => ?_)
    refine g3 hC rfl rfl ?_
    refine g3 hC rfl rfl ?_
    refine g19 hC rfl sh142 (flt12 rfl) ft12_22 ((hS.fix hw hF).g fx_142_22) ?_
    refine c1 hC rfl rfl rfl (Nat.le_of_ble_eq_true rfl) (Nat.le_of_ble_eq_true rfl) (mayR k160 rfl) (m160 (hS.fix hw hF) hn hq hqn (c := 157) (w := w_dear) sh157 (wa157 (hW.sb hS rfl)) (by decide)) (Nat.le_of_ble_eq_true rfl) (fun x157 M2 hr => ?_)
    obtain ⟨hx157, hr0, hr1⟩ := hr; have hS := hS.then hr0 rfl; have hq := hq.lk hr0 hr1
    refine g12n hC rfl (fun h76 => ?_) (fun h76 => ?_)
    ·
      refine g0 hC rfl ?_
      refine g14 hC rfl ?_
      refine s1 hC rfl rfl rfl ?_
      exact one106 _ w_dear (by decide) (yW hx157 (by omega)) hS hr1
    ·
      refine g3 hC rfl rfl ?_
      refine g3 hC rfl rfl ?_
      refine g19 hC rfl sh142 (flt12 rfl) ft12_23 ((hS.fix hw hF).g fx_142_23) ?_
      refine c1 hC rfl rfl rfl (Nat.le_of_ble_eq_true rfl) (Nat.le_of_ble_eq_true rfl) (mayR k160 rfl) (m160 (hS.fix hw hF) hn hq hqn (c := 158) (w := w_hears) sh158 (wa158 (hW.sb hS rfl)) (by decide)) (Nat.le_of_ble_eq_true rfl) (fun x158 M2 hr => ?_)
      obtain ⟨hx158, hr0, hr1⟩ := hr; have hS := hS.then hr0 rfl; have hq := hq.lk hr0 hr1
      refine g12n hC rfl (fun h81 => ?_) (fun h81 => ?_)
      ·
        refine g0 hC rfl ?_
        refine g14 hC rfl ?_
        refine s1 hC rfl rfl rfl ?_
        exact one106 _ w_hears (by decide) (yW hx158 (by omega)) hS hr1
      ·
        refine g3 hC rfl rfl ?_
        refine g3 hC rfl rfl ?_
        refine g19 hC rfl sh142 (flt12 rfl) ft12_24 ((hS.fix hw hF).g fx_142_24) ?_
        refine c1 hC rfl rfl rfl (Nat.le_of_ble_eq_true rfl) (Nat.le_of_ble_eq_true rfl) (mayR k160 rfl) (m160 (hS.fix hw hF) hn hq hqn (c := 159) (w := w_signs) sh159 (wa159 (hW.sb hS rfl)) (by decide)) (Nat.le_of_ble_eq_true rfl) (fun x159 M2 hr => ?_)
        obtain ⟨hx159, hr0, hr1⟩ := hr; have hS := hS.then hr0 rfl; have hq := hq.lk hr0 hr1
        refine g12n hC rfl (fun h86 => ?_) (fun h86 => ?_)
        ·
          refine g0 hC rfl ?_
          refine g14 hC rfl ?_
          refine s1 hC rfl rfl rfl ?_
          exact one106 _ w_signs (by decide) (yW hx159 (by omega)) hS hr1
        ·
          refine g3 hC rfl rfl ?_
          refine g3 hC rfl rfl ?_
          refine g19 hC rfl sh142 (flt12 rfl) ft12_25 ((hS.fix hw hF).g fx_142_25) ?_
          refine c1 hC rfl rfl rfl (Nat.le_of_ble_eq_true rfl) (Nat.le_of_ble_eq_true rfl) (mayR k160 rfl) (m160 (hS.fix hw hF) hn hq hqn (c := 160) (w := w_smoke) sh160 (wa160 (hW.sb hS rfl)) (by decide)) (Nat.le_of_ble_eq_true rfl) (fun x160 M2 hr => ?_)
          obtain ⟨hx160, hr0, hr1⟩ := hr; have hS := hS.then hr0 rfl; have hq := hq.lk hr0 hr1
          refine g12n hC rfl (fun h91 => ?_) (fun h91 => ?_)
          ·
            refine g0 hC rfl ?_
            refine g14 hC rfl ?_
            refine s1 hC rfl rfl rfl ?_
            exact one106 _ w_smoke (by decide) (yW hx160 (by omega)) hS hr1
          ·
            refine g3 hC rfl rfl ?_
            refine g3 hC rfl rfl ?_
            refine g19 hC rfl sh142 (flt12 rfl) ft12_26 ((hS.fix hw hF).g fx_142_26) ?_
            refine c1 hC rfl rfl rfl (Nat.le_of_ble_eq_true rfl) (Nat.le_of_ble_eq_true rfl) (mayR k160 rfl) (m160 (hS.fix hw hF) hn hq hqn (c := 161) (w := w_drill) sh161 (wa161 (hW.sb hS rfl)) (by decide)) (Nat.le_of_ble_eq_true rfl) (fun x161 M2 hr => ?_)
            obtain ⟨hx161, hr0, hr1⟩ := hr; have hS := hS.then hr0 rfl; have hq := hq.lk hr0 hr1
            refine g12n hC rfl (fun h96 => ?_) (fun h96 => ?_)
            ·
              refine g0 hC rfl ?_
              refine g14 hC rfl ?_
              refine s1 hC rfl rfl rfl ?_
              exact one106 _ w_drill (by decide) (yW hx161 (by omega)) hS hr1
            ·
              refine g3 hC rfl rfl ?_
              refine g3 hC rfl rfl ?_
              refine g19 hC rfl sh142 (flt12 rfl) ft12_27 ((hS.fix hw hF).g fx_142_27) ?_
              refine c1 hC rfl rfl rfl (Nat.le_of_ble_eq_true rfl) (Nat.le_of_ble_eq_true rfl) (mayR k160 rfl) (m160 (hS.fix hw hF) hn hq hqn (c := 162) (w := w_minute) sh162 (wa162 (hW.sb hS rfl)) (by decide)) (Nat.le_of_ble_eq_true rfl) (fun x162 M2 hr => ?_)
              obtain ⟨hx162, hr0, hr1⟩ := hr; have hS := hS.then hr0 rfl; have hq := hq.lk hr0 hr1
              refine g12e hC rfl (fun h101 => ?_) (fun h101 => ?_)
              ·
                refine g0 hC rfl ?_
                refine s1 hC rfl rfl rfl ?_
                exact nxt106 _ hS hq hr1 k_room k_stair k_to k_wide k_part k_post k_clerk k_in k_of k_pace k_bag k_turns (nW hx157 (by omega)) (nW hx158 (by omega)) (nW hx159 (by omega)) (nW hx160 (by omega)) (nW hx161 (by omega)) (nW hx162 (by omega))
              ·
                refine g0 hC rfl ?_
                refine g14 hC rfl ?_
                refine s1 hC rfl rfl rfl ?_
                exact one106 _ w_minute (by decide) (yW hx162 (by omega)) hS hr1
  have nxt34 : ∀ M1, Sb XLK M M1 → RT T n q M1 → M1 142 2 = (q.1 : Int) → isW T n q w_room = false → isW T n q w_stair = false → isW T n q w_to = false → isW T n q w_wide = false → isW T n q w_part = false → isW T n q w_post = false → ax_G L X SH 2 166 34 [(2, 142), (0, 0)] [] M1 (R1 0 P) := by
    intro M1 hS hq hr1 k_room k_stair k_to k_wide k_part k_post
    refine g3 hC rfl rfl ?_
    refine g12n hC rfl (fun h35 => (by omega)) (fun h35 => ?_)
    refine g3 hC rfl rfl ?_
    refine g3 hC rfl rfl ?_
    refine g19 hC rfl sh142 (flt12 rfl) ft12_16 ((hS.fix hw hF).g fx_142_16) ?_
    refine c1 hC rfl rfl rfl (Nat.le_of_ble_eq_true rfl) (Nat.le_of_ble_eq_true rfl) (mayR k160 rfl) (m160 (hS.fix hw hF) hn hq hqn (c := 151) (w := w_clerk) sh151 (wa151 (hW.sb hS rfl)) (by decide)) (Nat.le_of_ble_eq_true rfl) (fun x151 M2 hr => ?_)
    obtain ⟨hx151, hr0, hr1⟩ := hr; have hS := hS.then hr0 rfl; have hq := hq.lk hr0 hr1
    refine g12n hC rfl (fun h40 => ?_) (fun h40 => ?_)
    ·
      refine g0 hC rfl ?_
      refine g14 hC rfl ?_
      refine s1 hC rfl rfl rfl ?_
      exact one70 _ w_clerk (by decide) (yW hx151 (by omega)) hS hr1
    ·
      refine g3 hC rfl rfl ?_
      refine g3 hC rfl rfl ?_
      refine g19 hC rfl sh142 (flt12 rfl) ft12_17 ((hS.fix hw hF).g fx_142_17) ?_
      refine c1 hC rfl rfl rfl (Nat.le_of_ble_eq_true rfl) (Nat.le_of_ble_eq_true rfl) (mayR k160 rfl) (m160 (hS.fix hw hF) hn hq hqn (c := 152) (w := w_in) sh152 (wa152 (hW.sb hS rfl)) (by decide)) (Nat.le_of_ble_eq_true rfl) (fun x152 M2 hr => ?_)
      obtain ⟨hx152, hr0, hr1⟩ := hr; have hS := hS.then hr0 rfl; have hq := hq.lk hr0 hr1
      refine g12n hC rfl (fun h45 => ?_) (fun h45 => ?_)
      ·
        refine g0 hC rfl ?_
        refine g14 hC rfl ?_
        refine s1 hC rfl rfl rfl ?_
        exact one70 _ w_in (by decide) (yW hx152 (by omega)) hS hr1
      ·
        refine g3 hC rfl rfl ?_
        refine g3 hC rfl rfl ?_
        refine g19 hC rfl sh142 (flt12 rfl) ft12_18 ((hS.fix hw hF).g fx_142_18) ?_
        refine c1 hC rfl rfl rfl (Nat.le_of_ble_eq_true rfl) (Nat.le_of_ble_eq_true rfl) (mayR k160 rfl) (m160 (hS.fix hw hF) hn hq hqn (c := 153) (w := w_of) sh153 (wa153 (hW.sb hS rfl)) (by decide)) (Nat.le_of_ble_eq_true rfl) (fun x153 M2 hr => ?_)
        obtain ⟨hx153, hr0, hr1⟩ := hr; have hS := hS.then hr0 rfl; have hq := hq.lk hr0 hr1
        refine g12n hC rfl (fun h50 => ?_) (fun h50 => ?_)
        ·
          refine g0 hC rfl ?_
          refine g14 hC rfl ?_
          refine s1 hC rfl rfl rfl ?_
          exact one70 _ w_of (by decide) (yW hx153 (by omega)) hS hr1
        ·
          refine g3 hC rfl rfl ?_
          refine g3 hC rfl rfl ?_
          refine g19 hC rfl sh142 (flt12 rfl) ft12_19 ((hS.fix hw hF).g fx_142_19) ?_
          refine c1 hC rfl rfl rfl (Nat.le_of_ble_eq_true rfl) (Nat.le_of_ble_eq_true rfl) (mayR k160 rfl) (m160 (hS.fix hw hF) hn hq hqn (c := 154) (w := w_pace) sh154 (wa154 (hW.sb hS rfl)) (by decide)) (Nat.le_of_ble_eq_true rfl) (fun x154 M2 hr => ?_)
          obtain ⟨hx154, hr0, hr1⟩ := hr; have hS := hS.then hr0 rfl; have hq := hq.lk hr0 hr1
          refine g12n hC rfl (fun h55 => ?_) (fun h55 => ?_)
          ·
            refine g0 hC rfl ?_
            refine g14 hC rfl ?_
            refine s1 hC rfl rfl rfl ?_
            exact one70 _ w_pace (by decide) (yW hx154 (by omega)) hS hr1
          ·
            refine g3 hC rfl rfl ?_
            refine g3 hC rfl rfl ?_
            refine g19 hC rfl sh142 (flt12 rfl) ft12_20 ((hS.fix hw hF).g fx_142_20) ?_
            refine c1 hC rfl rfl rfl (Nat.le_of_ble_eq_true rfl) (Nat.le_of_ble_eq_true rfl) (mayR k160 rfl) (m160 (hS.fix hw hF) hn hq hqn (c := 155) (w := w_bag) sh155 (wa155 (hW.sb hS rfl)) (by decide)) (Nat.le_of_ble_eq_true rfl) (fun x155 M2 hr => ?_)
            obtain ⟨hx155, hr0, hr1⟩ := hr; have hS := hS.then hr0 rfl; have hq := hq.lk hr0 hr1
            refine g12n hC rfl (fun h60 => ?_) (fun h60 => ?_)
            ·
              refine g0 hC rfl ?_
              refine g14 hC rfl ?_
              refine s1 hC rfl rfl rfl ?_
              exact one70 _ w_bag (by decide) (yW hx155 (by omega)) hS hr1
            ·
              refine g3 hC rfl rfl ?_
              refine g3 hC rfl rfl ?_
              refine g19 hC rfl sh142 (flt12 rfl) ft12_21 ((hS.fix hw hF).g fx_142_21) ?_
              refine c1 hC rfl rfl rfl (Nat.le_of_ble_eq_true rfl) (Nat.le_of_ble_eq_true rfl) (mayR k160 rfl) (m160 (hS.fix hw hF) hn hq hqn (c := 156) (w := w_turns) sh156 (wa156 (hW.sb hS rfl)) (by decide)) (Nat.le_of_ble_eq_true rfl) (fun x156 M2 hr => ?_)
              obtain ⟨hx156, hr0, hr1⟩ := hr; have hS := hS.then hr0 rfl; have hq := hq.lk hr0 hr1
              refine g12e hC rfl (fun h65 => ?_) (fun h65 => ?_)
              ·
                refine g0 hC rfl ?_
                refine s1 hC rfl rfl rfl ?_
                exact nxt70 _ hS hq hr1 k_room k_stair k_to k_wide k_part k_post (nW hx151 (by omega)) (nW hx152 (by omega)) (nW hx153 (by omega)) (nW hx154 (by omega)) (nW hx155 (by omega)) (nW hx156 (by omega))
              ·
                refine g0 hC rfl ?_
                refine g14 hC rfl ?_
                refine s1 hC rfl rfl rfl ?_
                exact one70 _ w_turns (by decide) (yW hx156 (by omega)) hS hr1
  refine g3 hC rfl rfl ?_
  refine g3 hC rfl rfl ?_
  refine g19 hC rfl sh142 (flt12 rfl) ft12_10 ((hS.fix hw hF).g fx_142_10) ?_
  refine c1 hC rfl rfl rfl (Nat.le_of_ble_eq_true rfl) (Nat.le_of_ble_eq_true rfl) (mayR k160 rfl) (m160 (hS.fix hw hF) hn hq hqn (c := 145) (w := w_room) sh145 (wa145 (hW.sb hS rfl)) (by decide)) (Nat.le_of_ble_eq_true rfl) (fun x145 M2 hr => ?_)
  obtain ⟨hx145, hr0, hr1⟩ := hr; have hS := hS.then hr0 rfl; have hq := hq.lk hr0 hr1
  refine g12n hC rfl (fun h4 => ?_) (fun h4 => ?_)
  ·
    refine g0 hC rfl ?_
    refine g14 hC rfl ?_
    refine s1 hC rfl rfl rfl ?_
    exact one34 _ w_room (by decide) (yW hx145 (by omega)) hS hr1
  ·
    refine g3 hC rfl rfl ?_
    refine g3 hC rfl rfl ?_
    refine g19 hC rfl sh142 (flt12 rfl) ft12_11 ((hS.fix hw hF).g fx_142_11) ?_
    refine c1 hC rfl rfl rfl (Nat.le_of_ble_eq_true rfl) (Nat.le_of_ble_eq_true rfl) (mayR k160 rfl) (m160 (hS.fix hw hF) hn hq hqn (c := 146) (w := w_stair) sh146 (wa146 (hW.sb hS rfl)) (by decide)) (Nat.le_of_ble_eq_true rfl) (fun x146 M2 hr => ?_)
    obtain ⟨hx146, hr0, hr1⟩ := hr; have hS := hS.then hr0 rfl; have hq := hq.lk hr0 hr1
    refine g12n hC rfl (fun h9 => ?_) (fun h9 => ?_)
    ·
      refine g0 hC rfl ?_
      refine g14 hC rfl ?_
      refine s1 hC rfl rfl rfl ?_
      exact one34 _ w_stair (by decide) (yW hx146 (by omega)) hS hr1
    ·
      refine g3 hC rfl rfl ?_
      refine g3 hC rfl rfl ?_
      refine g19 hC rfl sh142 (flt12 rfl) ft12_12 ((hS.fix hw hF).g fx_142_12) ?_
      refine c1 hC rfl rfl rfl (Nat.le_of_ble_eq_true rfl) (Nat.le_of_ble_eq_true rfl) (mayR k160 rfl) (m160 (hS.fix hw hF) hn hq hqn (c := 147) (w := w_to) sh147 (wa147 (hW.sb hS rfl)) (by decide)) (Nat.le_of_ble_eq_true rfl) (fun x147 M2 hr => ?_)
      obtain ⟨hx147, hr0, hr1⟩ := hr; have hS := hS.then hr0 rfl; have hq := hq.lk hr0 hr1
      refine g12n hC rfl (fun h14 => ?_) (fun h14 => ?_)
      ·
        refine g0 hC rfl ?_
        refine g14 hC rfl ?_
        refine s1 hC rfl rfl rfl ?_
        exact one34 _ w_to (by decide) (yW hx147 (by omega)) hS hr1
      ·
        refine g3 hC rfl rfl ?_
        refine g3 hC rfl rfl ?_
        refine g19 hC rfl sh142 (flt12 rfl) ft12_13 ((hS.fix hw hF).g fx_142_13) ?_
        refine c1 hC rfl rfl rfl (Nat.le_of_ble_eq_true rfl) (Nat.le_of_ble_eq_true rfl) (mayR k160 rfl) (m160 (hS.fix hw hF) hn hq hqn (c := 148) (w := w_wide) sh148 (wa148 (hW.sb hS rfl)) (by decide)) (Nat.le_of_ble_eq_true rfl) (fun x148 M2 hr => ?_)
        obtain ⟨hx148, hr0, hr1⟩ := hr; have hS := hS.then hr0 rfl; have hq := hq.lk hr0 hr1
        refine g12n hC rfl (fun h19 => ?_) (fun h19 => ?_)
        ·
          refine g0 hC rfl ?_
          refine g14 hC rfl ?_
          refine s1 hC rfl rfl rfl ?_
          exact one34 _ w_wide (by decide) (yW hx148 (by omega)) hS hr1
        ·
          refine g3 hC rfl rfl ?_
          refine g3 hC rfl rfl ?_
          refine g19 hC rfl sh142 (flt12 rfl) ft12_14 ((hS.fix hw hF).g fx_142_14) ?_
          refine c1 hC rfl rfl rfl (Nat.le_of_ble_eq_true rfl) (Nat.le_of_ble_eq_true rfl) (mayR k160 rfl) (m160 (hS.fix hw hF) hn hq hqn (c := 149) (w := w_part) sh149 (wa149 (hW.sb hS rfl)) (by decide)) (Nat.le_of_ble_eq_true rfl) (fun x149 M2 hr => ?_)
          obtain ⟨hx149, hr0, hr1⟩ := hr; have hS := hS.then hr0 rfl; have hq := hq.lk hr0 hr1
          refine g12n hC rfl (fun h24 => ?_) (fun h24 => ?_)
          ·
            refine g0 hC rfl ?_
            refine g14 hC rfl ?_
            refine s1 hC rfl rfl rfl ?_
            exact one34 _ w_part (by decide) (yW hx149 (by omega)) hS hr1
          ·
            refine g3 hC rfl rfl ?_
            refine g3 hC rfl rfl ?_
            refine g19 hC rfl sh142 (flt12 rfl) ft12_15 ((hS.fix hw hF).g fx_142_15) ?_
            refine c1 hC rfl rfl rfl (Nat.le_of_ble_eq_true rfl) (Nat.le_of_ble_eq_true rfl) (mayR k160 rfl) (m160 (hS.fix hw hF) hn hq hqn (c := 150) (w := w_post) sh150 (wa150 (hW.sb hS rfl)) (by decide)) (Nat.le_of_ble_eq_true rfl) (fun x150 M2 hr => ?_)
            obtain ⟨hx150, hr0, hr1⟩ := hr; have hS := hS.then hr0 rfl; have hq := hq.lk hr0 hr1
            refine g12e hC rfl (fun h29 => ?_) (fun h29 => ?_)
            ·
              refine g0 hC rfl ?_
              refine s1 hC rfl rfl rfl ?_
              exact nxt34 _ hS hq hr1 (nW hx145 (by omega)) (nW hx146 (by omega)) (nW hx147 (by omega)) (nW hx148 (by omega)) (nW hx149 (by omega)) (nW hx150 (by omega))
            ·
              refine g0 hC rfl ?_
              refine g14 hC rfl ?_
              refine s1 hC rfl rfl rfl ?_
              exact one34 _ w_post (by decide) (yW hx150 (by omega)) hS hr1
theorem own_len : ∀ w ∈ ownW, w.length ≤ 6 := by decide
theorem nr_lt {f : Nat → Nat} : ∀ m, (∀ i, i < m → 1 ≤ f i ∧ f i ≤ 26) → nr f m < 27 ^ m := by
  intro m
  induction m with
  | zero => intro _; exact Nat.one_pos
  | succ m ih =>
    intro h
    have e : nr f (m + 1) = 27 * nr f m + f m := rfl
    have h1 := ih (fun i hi => h i (by omega))
    have h2 := h m (by omega)
    rw [e, Nat.pow_succ]; omega
theorem m167b (h : ¬ M 142 5 = 0) : ax_Ev L X SH 3 167 [(2, 142)] M (R1 1 (fun x M' => x = 0 ∧ M' = M)) := by
  show ax_G L X SH 3 167 0 [(2, 142), (3, 0), (3, 0)] [] M _
  have hC := at167
  refine g3 hC rfl rfl ?_
  refine g19 hC rfl sh142 (flt12 rfl) ft12_5 (Eq.refl (M 142 5)) ?_
  refine g12e hC rfl (fun h2 => (by omega)) (fun h2 => ?_)
  refine g1 hC rfl ?_
  refine ret1 hC rfl rfl ?_
  exact ⟨rfl, rfl⟩
theorem m167 (hF : Fix M) (hn : n ≤ 1600) (hq : RT T n q M) (hqn : q.1 ≤ n) (hW : Wd M) : ax_Ev L X SH 3 167 [(2, 142)] M (R1 1 (fun x M' => Sb XNM M M' ∧ RR T n (naR T n q) (nx T n q) (fun M' => x = (nr (naL T q) (af T n q - q.1) : Int) ∧ M' 142 41 = (q.1 : Int)) M')) := by
  show ax_G L X SH 3 167 0 [(2, 142), (3, 0), (3, 0)] [] M _
  obtain ⟨P, hP⟩ : ∃ P, P = fun (x : Int) (M' : ax_M) => Sb XNM M M' ∧ RR T n (naR T n q) (nx T n q) (fun M' => x = (nr (naL T q) (af T n q - q.1) : Int) ∧ M' 142 41 = (q.1 : Int)) M' := ⟨_, rfl⟩
  rw [← hP]
  have hC := at167
  have hw : wok XNM = true := by decide +kernel
  have hS : Sb XNM M M := Sb.refl
  have hab := af_b (T := T) hqn
  have hL := lkL (T := T) (n := n) (q := q)
  obtain ⟨h1, h2, h5, h6, h7, hh8⟩ := id hq
  have e0 : naR T n q = if ¬ kd T n q = 1 then some (1, (q.1 : Int)) else if 6 < af T n q - q.1 then some (1, ((q.1 + 6 : Nat) : Int)) else if fnd T n q 0 ownW = -1 then none else some (1, (q.1 : Int)) := rfl
  by_cases hkd : kd T n q = 1
  · obtain ⟨k0, k1, k2, k3, k4⟩ := kd_1 hkd
    have hlk := hL.2 k0
    have hlt := naL_b (T := T) (n := n) (q := q) hkd
    obtain ⟨m, hm⟩ : ∃ m, m = af T n q - q.1 := ⟨_, rfl⟩
    have hne : ¬ M 142 4 = (q.1 : Int) := fun z => by have := h5.2.1 z; rw [k3] at this; cases this
    have hlong : ¬ fnd T n q 0 ownW = -1 → m ≤ 6 := by
      intro z
      rcases Nat.lt_or_ge 6 m with y | y
      · refine absurd (fnd_no.2 (fun w hw1 => ?_)) z
        cases e : isW T n q w with
        | false => rfl
        | true => have := (of_decide_eq_true e).2.1; have := own_len w hw1; omega
      · exact y
    rw [← hm] at hlt e0 hP
    have p6 : ∀ i, i ≤ 6 → (27 : Nat) ^ i ≤ 387420489 := by
      intro i hi
      have : i = 0 ∨ i = 1 ∨ i = 2 ∨ i = 3 ∨ i = 4 ∨ i = 5 ∨ i = 6 := by omega
      rcases this with rfl | rfl | rfl | rfl | rfl | rfl | rfl <;> decide
    have l1 : fnd T n q 0 ownW = -1 → ∀ (k : Nat), k = min m 6 → ∀ (mm i : Nat), i + mm = k → ∀ ll M3, (ll = [(2, 142), (1, (nr (naL T q) i : Int)), (3, 0)] ∧ Sb XNM M M3 ∧ M3 142 2 = ((q.1 + i : Nat) : Int) ∧ M3 142 41 = (q.1 : Int) ∧ M3 142 4 = M 142 4 ∧ M3 142 5 = 0 ∧ M3 142 6 = -1) → ax_G L X SH 3 167 30 ll [] M3 (R1 1 P) := by
      intro hno k hk
      refine lp ?_ ?_
      · rintro ll M3 ⟨rfl, hS, e, e41, e4, e5, e6⟩
        by_cases z : m ≤ 6
        · have hkm : k = m := by omega
          subst hkm
          have hend : ¬ (af T n q < n ∧ 97 ≤ T (af T n q) ∧ T (af T n q) ≤ 122) := by
            rintro ⟨z1, z2⟩
            have := rn_out (p := isLb) (T := T) (n := n) (i := q.1) (by rw [← k4]; exact z1)
            rw [← k4, show isLb (T (af T n q)) = true from decide_eq_true z2] at this; cases this
          rw [show q.1 + k = af T n q by omega] at e
          have hRT : RT T n (nx T n q) (ax_up M3 142 4 (af T n q : Int)) := by
            have hge : af T n q ≤ rn isBb T n (af T n q) := rn_ge
            refine ⟨(ax_up_of (by decide)).trans ((hS _ _ rfl).trans h1), ⟨af T n q, (ax_up_of (by decide)).trans e, hge, rfl⟩, ⟨?_, ?_⟩, fun i hi => (ax_up2n (by decide)).trans ((hS _ _ rfl).trans (h6 i hi)), (ax_up_of (by decide)).trans e5, (ax_up_of (by decide)).trans e6⟩
            · show ax_up M3 142 4 (af T n q : Int) 142 4 ≤ ((rn isBb T n (af T n q) : Nat) : Int); rw [ax_up_at]; omega
            · show ax_up M3 142 4 (af T n q : Int) 142 4 = ((rn isBb T n (af T n q) : Nat) : Int) ↔ decide ((kd T n q = 1 ∨ kd T n q = 2) ∧ rn isBb T n (af T n q) = af T n q) = true
              rw [ax_up_at]
              constructor
              · intro z; exact decide_eq_true ⟨Or.inl hkd, by omega⟩
              · intro z; have := of_decide_eq_true z; omega
          refine g3 hC rfl rfl ?_
          refine g19 hC rfl sh142 (flt12 rfl) ft12_2 e ?_
          refine g3 hC rfl rfl ?_
          refine g19 hC rfl sh142 (flt12 rfl) ft12_3 ((hS 142 3 rfl).trans h1) ?_
          refine g13g hC rfl (fun h34 => ?_) (fun h34 => ?_)
          ·
            refine g3 hC rfl rfl ?_
            refine g3 hC rfl rfl ?_
            refine g19 hC rfl sh142 (flt12 rfl) ft12_2 e ?_
            refine g20s hC rfl sh142 (flt12 rfl) (by rw [fy12_4]; rfl) hS rfl (fun hS => ?_)
            refine g3 hC rfl rfl ?_
            refine ret1 hC rfl rfl ?_
            rw [hP]
            refine ⟨hS, Or.inr ⟨?_, hRT, rfl, (ax_up_of (by decide)).trans e41⟩⟩
            rw [e0, if_neg (fun z => z hkd), if_neg (by omega), if_pos hno]
          ·
            refine g3 hC rfl rfl ?_
            refine g19 hC rfl sh142 (flt12 rfl) ft12_0 ((hS.fix hw hF).g fx_142_0) ?_
            refine g3 hC rfl rfl ?_
            refine g19 hC rfl sh142 (flt12 rfl) ft12_2 e ?_
            refine r21 ((af T n q)) hC rfl (by omega) sh143 (Or.inl rfl) (by omega) ((hS 143 _ rfl).trans (h6 _ (by omega))) ?_
            refine c1 hC rfl rfl rfl (Nat.le_of_ble_eq_true rfl) (Nat.le_of_ble_eq_true rfl) (mayS k157 rfl) (m157) (Nat.le_of_ble_eq_true rfl) (fun x M2 hr => ?_)
            obtain ⟨hx, hr⟩ := hr; replace hr := hr.symm; subst hr; have hx := ite01 hx
            refine g12e hC rfl (fun h41 => ?_) (fun h41 => ?_)
            ·
              refine g3 hC rfl rfl ?_
              refine g3 hC rfl rfl ?_
              refine g19 hC rfl sh142 (flt12 rfl) ft12_2 e ?_
              refine g20s hC rfl sh142 (flt12 rfl) (by rw [fy12_4]; rfl) hS rfl (fun hS => ?_)
              refine g3 hC rfl rfl ?_
              refine ret1 hC rfl rfl ?_
              rw [hP]
              refine ⟨hS, Or.inr ⟨?_, hRT, rfl, (ax_up_of (by decide)).trans e41⟩⟩
              rw [e0, if_neg (fun z => z hkd), if_neg (by omega), if_pos hno]
            ·
              exfalso; omega
        · have hkm : k = 6 := by omega
          subst hkm
          have hl6 := hlt 6 (by omega)
          refine g3 hC rfl rfl ?_
          refine g19 hC rfl sh142 (flt12 rfl) ft12_2 e ?_
          refine g3 hC rfl rfl ?_
          refine g19 hC rfl sh142 (flt12 rfl) ft12_3 ((hS 142 3 rfl).trans h1) ?_
          refine g13g hC rfl (fun h34 => (by omega)) (fun h34 => ?_)
          refine g3 hC rfl rfl ?_
          refine g19 hC rfl sh142 (flt12 rfl) ft12_0 ((hS.fix hw hF).g fx_142_0) ?_
          refine g3 hC rfl rfl ?_
          refine g19 hC rfl sh142 (flt12 rfl) ft12_2 e ?_
          refine r21 ((q.1+6)) hC rfl (by omega) sh143 (Or.inl rfl) (by omega) ((hS 143 _ rfl).trans (h6 _ (by omega))) ?_
          refine c1 hC rfl rfl rfl (Nat.le_of_ble_eq_true rfl) (Nat.le_of_ble_eq_true rfl) (mayS k157 rfl) (m157) (Nat.le_of_ble_eq_true rfl) (fun x M2 hr => ?_)
          obtain ⟨hx, hr⟩ := hr; replace hr := hr.symm; subst hr; have hx := ite01 hx
          refine g12e hC rfl (fun h41 => (by omega)) (fun h41 => ?_)
          refine g3 hC rfl rfl ?_
          refine g19 hC rfl sh142 (flt12 rfl) ft12_2 e ?_
          refine g3 hC rfl rfl ?_
          refine g19 hC rfl sh142 (flt12 rfl) ft12_41 e41 ?_
          refine g6s hC rfl ⟨by omega, by omega⟩ ?_
          refine g0 hC rfl ?_
          refine g13n hC rfl (fun h48 => (by omega)) (fun h48 => ?_)
          refine g3 hC rfl rfl ?_
          refine g0 hC rfl ?_
          refine g3 hC rfl rfl ?_
          refine g19 hC rfl sh142 (flt12 rfl) ft12_2 e ?_
          refine c0 hC rfl rfl rfl (Nat.le_of_ble_eq_true rfl) (Nat.le_of_ble_eq_true rfl) (mayR k156 rfl) (m156 e5) (Nat.le_of_ble_eq_true rfl) (fun M2 hr => ?_)
          replace hr := hr.symm; subst hr
          refine g1 hC rfl ?_
          refine ret1 hC rfl rfl ?_
          rw [hP]
          refine ⟨(hS.up rfl).up rfl, Or.inl ⟨1, _, ?_, by decide, BF.up⟩⟩
          rw [e0, if_neg (fun z => z hkd), if_pos (by omega)]
      · rintro i hi ll M3 ⟨rfl, hS, e, e41, e4, e5, e6⟩ hnext
        have hb := nr_lt (f := naL T q) i (fun j hj => ⟨(hlt j (by omega)).1, (hlt j (by omega)).2.1⟩)
        have hb2 := p6 i (by omega)
        have hl := hlt i (by omega)
        refine g3 hC rfl rfl ?_
        refine g19 hC rfl sh142 (flt12 rfl) ft12_2 e ?_
        refine g3 hC rfl rfl ?_
        refine g19 hC rfl sh142 (flt12 rfl) ft12_3 ((hS 142 3 rfl).trans h1) ?_
        refine g13g hC rfl (fun h34 => (by omega)) (fun h34 => ?_)
        refine g3 hC rfl rfl ?_
        refine g19 hC rfl sh142 (flt12 rfl) ft12_0 ((hS.fix hw hF).g fx_142_0) ?_
        refine g3 hC rfl rfl ?_
        refine g19 hC rfl sh142 (flt12 rfl) ft12_2 e ?_
        refine r21 ((q.1+i)) hC rfl (by omega) sh143 (Or.inl rfl) (by omega) ((hS 143 _ rfl).trans (h6 _ (by omega))) ?_
        refine c1 hC rfl rfl rfl (Nat.le_of_ble_eq_true rfl) (Nat.le_of_ble_eq_true rfl) (mayS k157 rfl) (m157) (Nat.le_of_ble_eq_true rfl) (fun x M2 hr => ?_)
        obtain ⟨hx, hr⟩ := hr; replace hr := hr.symm; subst hr; have hx := ite01 hx
        refine g12e hC rfl (fun h41 => (by omega)) (fun h41 => ?_)
        refine g3 hC rfl rfl ?_
        refine g19 hC rfl sh142 (flt12 rfl) ft12_2 e ?_
        refine g3 hC rfl rfl ?_
        refine g19 hC rfl sh142 (flt12 rfl) ft12_41 e41 ?_
        refine g6s hC rfl ⟨by omega, by omega⟩ ?_
        refine g0 hC rfl ?_
        refine g13n hC rfl (fun h48 => ?_) (fun h48 => (by omega))
        refine g1 hC rfl ?_
        refine g3 hC rfl rfl ?_
        refine g7m hC rfl ⟨by omega, by omega⟩ ?_
        refine g3 hC rfl rfl ?_
        refine g19 hC rfl sh142 (flt12 rfl) ft12_0 ((hS.fix hw hF).g fx_142_0) ?_
        refine g3 hC rfl rfl ?_
        refine g19 hC rfl sh142 (flt12 rfl) ft12_2 e ?_
        refine r21 ((q.1+i)) hC rfl (by omega) sh143 (Or.inl rfl) (by omega) ((hS 143 _ rfl).trans (h6 _ (by omega))) ?_
        refine g9 hC rfl ?_
        refine g7a hC rfl ⟨by omega, by omega⟩ ?_
        refine g1 hC rfl ?_
        refine g7s hC rfl ⟨by omega, by omega⟩ ?_
        refine g1 hC rfl ?_
        refine g7a hC rfl ⟨by omega, by omega⟩ ?_
        refine sl1 hC rfl rfl ?_
        refine g3 hC rfl rfl ?_
        refine g16 hC rfl (by decide) ?_
        refine g19 hC rfl sh142 (flt12 rfl) ft12_2 e ?_
        refine g0 hC rfl ?_
        refine g6a hC rfl ⟨by omega, by omega⟩ ?_
        refine g20s hC rfl sh142 (flt12 rfl) (by rw [fy12_2]; rfl) hS rfl (fun hS => ?_)
        refine g14 hC rfl ?_
        refine hnext _ _ ⟨?_, hS, ?_, (ax_up_of (by decide)).trans e41, (ax_up_of (by decide)).trans e4, (ax_up_of (by decide)).trans e5, (ax_up_of (by decide)).trans e6⟩
        · have en : nr (naL T q) (i + 1) = 27 * nr (naL T q) i + naL T q i := rfl
          rw [en, show (27 : Int) * (nr (naL T q) i : Int) + T (q.1 + i) - 97 + 1 = ((27 * nr (naL T q) i + naL T q i : Nat) : Int) by omega]
        · rw [ax_up_at]; omega
    refine g3 hC rfl rfl ?_
    refine g19 hC rfl sh142 (flt12 rfl) ft12_5 h7 ?_
    refine g12e hC rfl (fun h2 => ?_) (fun h2 => (by omega))
    refine g3 hC rfl rfl ?_
    refine c1 hC rfl rfl rfl (Nat.le_of_ble_eq_true rfl) (Nat.le_of_ble_eq_true rfl) (mayR k159 rfl) (m159 hF hn hq hqn) (Nat.le_of_ble_eq_true rfl) (fun x M2 hr => ?_)
    obtain ⟨rfl, hr0, hr1⟩ := hr; have hS := hS.then hr0 rfl
    refine c1 hC rfl rfl rfl (Nat.le_of_ble_eq_true rfl) (Nat.le_of_ble_eq_true rfl) (mayS k157 rfl) (m157) (Nat.le_of_ble_eq_true rfl) (fun x M2 hr => ?_)
    obtain ⟨hx, hr⟩ := hr; replace hr := hr.symm; subst hr; have hx := ite01 hx
    refine g12e hC rfl (fun h8 => (by omega)) (fun h8 => ?_)
    refine g3 hC rfl rfl ?_
    refine g19 hC rfl sh142 (flt12 rfl) ft12_2 hr1 ?_
    refine g3 hC rfl rfl ?_
    refine g19 hC rfl sh142 (flt12 rfl) ft12_4 (hr0 142 4 rfl) ?_
    refine g13e hC rfl (fun h13 => (by omega)) (fun h13 => ?_)
    refine g3 hC rfl rfl ?_
    refine c1 hC rfl rfl rfl (Nat.le_of_ble_eq_true rfl) (Nat.le_of_ble_eq_true rfl) (mayR k166 rfl) (m166 (hS.fix hw hF) hn (hq.lk hr0 hr1) hqn (hW.sb hr0 rfl)) (Nat.le_of_ble_eq_true rfl) (fun y M3 hy => ?_)
    obtain ⟨hy, hy0, hy1⟩ := hy; have hS := hS.then hy0 rfl; have hy := ite10 hy
    refine g12e hC rfl (fun h16 => ?_) (fun h16 => ?_)
    ·
      refine g3 hC rfl rfl ?_
      refine g3 hC rfl rfl ?_
      refine g19 hC rfl sh142 (flt12 rfl) ft12_2 hy1 ?_
      refine g20s hC rfl sh142 (flt12 rfl) (by rw [fy12_41]; rfl) hS rfl (fun hS => ?_)
      refine g1 hC rfl ?_
      refine sl1 hC rfl rfl ?_
      refine l1 (by rcases hy with y1 | y1; exact y1.1; omega) _ rfl (min m 6) 0 (Nat.zero_add _) _ _ ⟨rfl, hS, (ax_up_of (by decide)).trans hy1, ax_up_at, (ax_up_of (by decide)).trans ((hy0 142 4 rfl).trans (hr0 142 4 rfl)), (ax_up_of (by decide)).trans ((hy0 142 5 rfl).trans ((hr0 142 5 rfl).trans h7)), (ax_up_of (by decide)).trans ((hy0 142 6 rfl).trans ((hr0 142 6 rfl).trans hh8))⟩
    ·
      refine g3 hC rfl rfl ?_
      refine g0 hC rfl ?_
      refine g3 hC rfl rfl ?_
      refine g19 hC rfl sh142 (flt12 rfl) ft12_2 hy1 ?_
      refine c0 hC rfl rfl rfl (Nat.le_of_ble_eq_true rfl) (Nat.le_of_ble_eq_true rfl) (mayR k156 rfl) (m156 ((hy0 142 5 rfl).trans ((hr0 142 5 rfl).trans h7))) (Nat.le_of_ble_eq_true rfl) (fun M2 hr => ?_)
      replace hr := hr.symm; subst hr
      refine g1 hC rfl ?_
      refine ret1 hC rfl rfl ?_
      rw [hP]
      have hno : ¬ fnd T n q 0 ownW = -1 := by rcases hy with y1 | y1; omega; exact y1.1
      have := hlong hno
      refine ⟨(hS.up rfl).up rfl, Or.inl ⟨1, _, ?_, by decide, BF.up⟩⟩
      rw [e0, if_neg (fun z => z hkd), if_neg (by omega), if_neg hno]
  · rw [if_pos hkd] at e0
    refine g3 hC rfl rfl ?_
    refine g19 hC rfl sh142 (flt12 rfl) ft12_5 h7 ?_
    refine g12e hC rfl (fun h2 => ?_) (fun h2 => (by omega))
    refine g3 hC rfl rfl ?_
    refine c1 hC rfl rfl rfl (Nat.le_of_ble_eq_true rfl) (Nat.le_of_ble_eq_true rfl) (mayR k159 rfl) (m159 hF hn hq hqn) (Nat.le_of_ble_eq_true rfl) (fun x M2 hr => ?_)
    obtain ⟨rfl, hr0, hr1⟩ := hr; have hS := hS.then hr0 rfl
    refine c1 hC rfl rfl rfl (Nat.le_of_ble_eq_true rfl) (Nat.le_of_ble_eq_true rfl) (mayS k157 rfl) (m157) (Nat.le_of_ble_eq_true rfl) (fun x M2 hr => ?_)
    obtain ⟨hx, hr⟩ := hr; replace hr := hr.symm; subst hr; have hx := ite01 hx
    refine g12e hC rfl (fun h8 => ?_) (fun h8 => ?_)
    ·
      refine g3 hC rfl rfl ?_
      refine g0 hC rfl ?_
      refine g3 hC rfl rfl ?_
      refine g19 hC rfl sh142 (flt12 rfl) ft12_2 hr1 ?_
      refine c0 hC rfl rfl rfl (Nat.le_of_ble_eq_true rfl) (Nat.le_of_ble_eq_true rfl) (mayR k156 rfl) (m156 ((hr0 142 5 rfl).trans h7)) (Nat.le_of_ble_eq_true rfl) (fun M2 hr => ?_)
      replace hr := hr.symm; subst hr
      refine g1 hC rfl ?_
      refine ret1 hC rfl rfl ?_
      rw [hP]
      exact ⟨(hS.up rfl).up rfl, Or.inl ⟨1, _, e0, by decide, BF.up⟩⟩
    ·
      refine g3 hC rfl rfl ?_
      refine g19 hC rfl sh142 (flt12 rfl) ft12_2 hr1 ?_
      refine g3 hC rfl rfl ?_
      refine g19 hC rfl sh142 (flt12 rfl) ft12_4 (hr0 142 4 rfl) ?_
      refine g13e hC rfl (fun h13 => ?_) (fun h13 => ?_)
      ·
        refine g3 hC rfl rfl ?_
        refine g0 hC rfl ?_
        refine g3 hC rfl rfl ?_
        refine g19 hC rfl sh142 (flt12 rfl) ft12_2 hr1 ?_
        refine c0 hC rfl rfl rfl (Nat.le_of_ble_eq_true rfl) (Nat.le_of_ble_eq_true rfl) (mayR k156 rfl) (m156 ((hr0 142 5 rfl).trans h7)) (Nat.le_of_ble_eq_true rfl) (fun M2 hr => ?_)
        replace hr := hr.symm; subst hr
        refine g1 hC rfl ?_
        refine ret1 hC rfl rfl ?_
        rw [hP]
        exact ⟨(hS.up rfl).up rfl, Or.inl ⟨1, _, e0, by decide, BF.up⟩⟩
      ·
        exfalso
        have k0 := hL.1 (by omega)
        have hf : q.2 = false := by
          cases e : q.2 with
          | false => rfl
          | true => have := h5.2.2 e; omega
        have := (glu (Or.inl k0)).2.1 hf
        omega
end RTX
