def nR (V : ax_M) (h : Nat) : Nat := (V h 0).toNat
def nS (V : ax_M) (h : Nat) : Nat := (V h 1).toNat
def nQ (V : ax_M) (h : Nat) : Nat := (V h 2).toNat
def nC (V : ax_M) (h : Nat) : Nat := (V h 3).toNat
def sa (V : ax_M) (h s : Nat) : Nat := (V (h + 4) s).toNat
def sb (V : ax_M) (h s : Nat) : Nat := (V (h + 5) s).toNat
def ch (V : ax_M) (h c : Nat) : Nat := (V (h + 8) c).toNat
def ckq (V : ax_M) (h c : Nat) : Nat := (V (h + 9) c).toNat
def cp (V : ax_M) (h c : Nat) : Nat := (V (h + 10) c).toNat
def HW (V : ax_M) (h : Nat) : Prop :=
  ((V h 0 = (nR V h : Int) ∧ nR V h ≤ 8) ∧ (V h 1 = (nS V h : Int) ∧ nS V h ≤ 10) ∧ (V h 2 = (nQ V h : Int) ∧ nQ V h ≤ 5) ∧ (V h 3 = (nC V h : Int) ∧ nC V h ≤ 8)) ∧
  (∀ s, s < nS V h → (V (h + 4) s = (sa V h s : Int) ∧ sa V h s < nR V h) ∧ (V (h + 5) s = (sb V h s : Int) ∧ sb V h s < nR V h) ∧ sa V h s ≠ sb V h s ∧ 1 ≤ V (h + 6) s ∧ V (h + 6) s ≤ 4) ∧
  (∀ s s', s < nS V h → s' < nS V h → s ≠ s' → ¬ (sa V h s = sa V h s' ∧ sb V h s = sb V h s') ∧ ¬ (sa V h s = sb V h s' ∧ sb V h s = sa V h s')) ∧
  (∀ c, c < nC V h → (V (h + 8) c = (ch V h c : Int) ∧ ch V h c < nR V h) ∧ (V (h + 9) c = (ckq V h c : Int) ∧ ckq V h c < nQ V h) ∧ (V (h + 10) c = (cp V h c : Int) ∧ 1 ≤ cp V h c ∧ cp V h c ≤ 3) ∧ 0 ≤ V (h + 11) c ∧ V (h + 11) c ≤ 9) ∧
  (0 ≤ V h 17 ∧ V h 17 ≤ 20) ∧ (1 ≤ V h 18 ∧ V h 18 ≤ 9) ∧ (0 ≤ V h 19 ∧ V h 19 ≤ 100)
def SW (V : ax_M) : Prop := (0 ≤ V 45 0 ∧ V 45 0 ≤ 999) ∧ (∀ q, q < 5 → 0 ≤ V 46 q ∧ V 46 q ≤ 20) ∧ (∀ s, s < 10 → V 47 s = 0 ∨ V 47 s = 1) ∧ (∀ i, i < 28 → 0 ≤ V 48 i ∧ V 48 i ≤ 9999)
def HV (V : ax_M) (h : Nat) (M : ax_M) : Prop := (∀ i k, i < 18 → i ≠ 14 → i ≠ 17 → M (h + i) k = V (h + i) k) ∧ ∀ k, M 45 k = V 45 k ∧ M 46 k = V 46 k ∧ M 47 k = V 47 k ∧ M 48 k = V 48 k
theorem HV.refl {V : ax_M} {h : Nat} : HV V h V := ⟨fun _ _ _ _ _ => rfl, fun _ => ⟨rfl, rfl, rfl, rfl⟩⟩
def hok (W : ax_W) (h : Nat) : Prop := ∀ i k, i < 18 → i ≠ 14 → i ≠ 17 → wb W (h + i) k = false
theorem hokI {W : ax_W} {h : Nat} (hh : h = 9 ∨ h = 27) (h9 : ∀ i k, i < 18 → i ≠ 14 → i ≠ 17 → wb W (9 + i) k = false) (h27 : ∀ i k, i < 18 → i ≠ 14 → i ≠ 17 → wb W (27 + i) k = false) : hok W h := by
  rcases hh with rfl | rfl
  · exact h9
  · exact h27
def hokb (W : ax_W) : Bool := W.1.all (fun e => (Nat.ble e.2 9 || Nat.ble 45 e.1) || (Nat.beq e.1 23 && Nat.beq e.2 24) || (Nat.beq e.1 26 && Nat.beq e.2 27) || (Nat.beq e.1 41 && Nat.beq e.2 42) || (Nat.beq e.1 44 && Nat.beq e.2 45)) && W.2.all (fun e => Nat.ble (e.1 + 1) 9 || Nat.ble 45 e.1)
theorem hokB {W : ax_W} {h : Nat} (hb : hokb W = true) (hh : h = 9 ∨ h = 27) : hok W h := by
  intro i k hi h1 h2
  unfold hokb at hb
  rw [Bool.and_eq_true] at hb
  cases e : wb W (h + i) k with
  | false => rfl
  | true =>
    unfold wb at e
    rw [Bool.or_eq_true] at e
    rcases e with e | e
    · obtain ⟨x, hx, e⟩ := List.any_eq_true.mp e
      have := List.all_eq_true.mp hb.1 x hx
      simp only [Bool.and_eq_true, Bool.or_eq_true] at this e
      have e1 := Nat.le_of_ble_eq_true e.1
      have e2 := Nat.le_of_ble_eq_true e.2
      rcases this with (((((t | t) | t) | t) | t) | t)
      · have := Nat.le_of_ble_eq_true t; omega
      · have := Nat.le_of_ble_eq_true t; omega
      all_goals (have t1 := Nat.eq_of_beq_eq_true t.1; have t2 := Nat.eq_of_beq_eq_true t.2; omega)
    · obtain ⟨x, hx, e⟩ := List.any_eq_true.mp e
      have := List.all_eq_true.mp hb.2 x hx
      simp only [Bool.and_eq_true, Bool.or_eq_true] at this e
      have e1 := Nat.eq_of_beq_eq_true e.1
      rcases this with t | t
      · have := Nat.le_of_ble_eq_true t; omega
      · have := Nat.le_of_ble_eq_true t; omega
def sok (W : ax_W) : Prop := ∀ k, wb W 45 k = false ∧ wb W 46 k = false ∧ wb W 47 k = false ∧ wb W 48 k = false
section RD
variable {V M M1 : ax_M} {h : Nat} {W : ax_W}
theorem HV.sb (hV : HV V h M) (hS : Sb W M M1) (hwh : hok W h) (hs : sok W) : HV V h M1 := ⟨fun i k h1 h2 h3 => (hS _ _ (hwh i k h1 h2 h3)).trans (hV.1 i k h1 h2 h3), fun k => ⟨(hS _ _ (hs k).1).trans (hV.2 k).1, (hS _ _ (hs k).2.1).trans (hV.2 k).2.1, (hS _ _ (hs k).2.2.1).trans (hV.2 k).2.2.1, (hS _ _ (hs k).2.2.2).trans (hV.2 k).2.2.2⟩⟩
theorem rdi (hS : Sb W M M1) (hwh : hok W h) (hV : HV V h M) (i k : Nat) (h1 : i < 18) (h2 : i ≠ 14) (h3 : i ≠ 17) : M1 (h + i) k = V (h + i) k := (hS _ _ (hwh i k h1 h2 h3)).trans (hV.1 i k h1 h2 h3)
theorem rdi0 (hS : Sb W M M1) (hwh : hok W h) (hV : HV V h M) (k : Nat) : M1 h k = V h k := rdi hS hwh hV 0 k (by decide) (by decide) (by decide)
theorem rd0 (hS : Sb W M M1) (hwh : hok W h) (hV : HV V h M) (hW : HW V h) : M1 h 0 = (nR V h : Int) := (rdi0 hS hwh hV 0).trans hW.1.1.1
theorem rd1 (hS : Sb W M M1) (hwh : hok W h) (hV : HV V h M) (hW : HW V h) : M1 h 1 = (nS V h : Int) := (rdi0 hS hwh hV 1).trans hW.1.2.1.1
theorem rd2 (hS : Sb W M M1) (hwh : hok W h) (hV : HV V h M) (hW : HW V h) : M1 h 2 = (nQ V h : Int) := (rdi0 hS hwh hV 2).trans hW.1.2.2.1.1
theorem rd3 (hS : Sb W M M1) (hwh : hok W h) (hV : HV V h M) (hW : HW V h) : M1 h 3 = (nC V h : Int) := (rdi0 hS hwh hV 3).trans hW.1.2.2.2.1
theorem rdA (hS : Sb W M M1) (hwh : hok W h) (hV : HV V h M) (hW : HW V h) {s : Nat} (hs : s < nS V h) : M1 (h + 4) s = (sa V h s : Int) := (rdi hS hwh hV 4 s (by decide) (by decide) (by decide)).trans (hW.2.1 s hs).1.1
theorem rdB (hS : Sb W M M1) (hwh : hok W h) (hV : HV V h M) (hW : HW V h) {s : Nat} (hs : s < nS V h) : M1 (h + 5) s = (sb V h s : Int) := (rdi hS hwh hV 5 s (by decide) (by decide) (by decide)).trans (hW.2.1 s hs).2.1.1
theorem rdH (hS : Sb W M M1) (hwh : hok W h) (hV : HV V h M) (hW : HW V h) {c : Nat} (hs : c < nC V h) : M1 (h + 8) c = (ch V h c : Int) := (rdi hS hwh hV 8 c (by decide) (by decide) (by decide)).trans (hW.2.2.2.1 c hs).1.1
theorem rdQ (hS : Sb W M M1) (hwh : hok W h) (hV : HV V h M) (hW : HW V h) {c : Nat} (hs : c < nC V h) : M1 (h + 9) c = (ckq V h c : Int) := (rdi hS hwh hV 9 c (by decide) (by decide) (by decide)).trans (hW.2.2.2.1 c hs).2.1.1
theorem rdP (hS : Sb W M M1) (hwh : hok W h) (hV : HV V h M) (hW : HW V h) {c : Nat} (hs : c < nC V h) : M1 (h + 10) c = (cp V h c : Int) := (rdi hS hwh hV 10 c (by decide) (by decide) (by decide)).trans (hW.2.2.2.1 c hs).2.2.1.1
end RD
theorem it_ind {α : Type} {f : Nat → α → α} {x : α} {P : α → Prop} {n : Nat} (h0 : P x) (hs : ∀ k y, k < n → P y → P (f k y)) : P (it f n x) := by
  have : ∀ m, m ≤ n → P (it f m x) := by
    intro m
    induction m with
    | zero => intro _; exact h0
    | succ m ih => intro hm; exact hs m _ (by omega) (ih (by omega))
  exact this n (Nat.le_refl n)
def W5 : ax_W := ([(72, 73), (104, 105)], [])
def W6 : ax_W := ([(72, 73)], [])
def W7 : ax_W := ([(73, 75), (86, 94), (103, 104)], [])
def W12 : ax_W := ([(73, 74), (103, 104), (105, 106)], [])
def W11 : ax_W := ([(106, 107), (5, 6), (23, 24), (26, 27), (41, 42), (44, 45)], [])
def W10 : ax_W := ([(73, 75), (76, 85), (86, 94), (103, 104), (105, 107), (5, 6), (23, 24), (26, 27), (41, 42), (44, 45)], [])
def W14 : ax_W := ([(95, 103)], [])
def WD : ax_W := ([(72, 75), (76, 85), (86, 94), (95, 107), (5, 6), (23, 24), (26, 27), (41, 42), (44, 45)], [(71, 6)])
def wid (V : ax_M) (h : Nat) (sm wd : Int) (s : Nat) : Int := if V 47 s = 1 ∨ (s : Int) = sm then 0 else V (h + 6) s + (if (s : Int) = wd then 1 else 0)
def rch (f : Nat → Int) (a b : Nat) (n : Int) : Nat → Int := if f a = n ∧ f b = -1 then up f b (n + 1) else f
def fs1 (V : ax_M) (h : Nat) (sm wd : Int) (n s : Nat) (f : Nat → Int) : Nat → Int := if 0 < wid V h sm wd s then rch (rch f (sa V h s) (sb V h s) n) (sb V h s) (sa V h s) n else f
def far0 : Nat → Int := fun r => if r = 0 then 0 else -1
def farI (V : ax_M) (h : Nat) (sm wd : Int) (n k : Nat) (f : Nat → Int) : Nat → Int := it (fun s f => fs1 V h sm wd n s f) k f
def farN (V : ax_M) (h : Nat) (sm wd : Int) (n : Nat) : Nat → Int := it (fun n f => farI V h sm wd n (nS V h) f) n far0
def far (V : ax_M) (h : Nat) (sm wd : Int) : Nat → Int := farN V h sm wd 8
def on8 (f g : Nat → Int) : Prop := ∀ q, q < 8 → f q = g q
theorem on8.rch {f g : Nat → Int} (h : on8 f g) {a b : Nat} {n : Int} (ha : a < 8) (hb : b < 8) : on8 (rch f a b n) (rch g a b n) := by
  intro q hq
  unfold _root_.Jvm.Pilot.CFireDrillLaw_law_r2865_e29a64.rch
  rw [h a ha, h b hb]
  split
  · unfold up; split
    · rfl
    · exact h q hq
  · exact h q hq
theorem wid_b {V : ax_M} {h s : Nat} {sm wd : Int} (hW : HW V h) (hs : s < nS V h) : 0 ≤ wid V h sm wd s ∧ wid V h sm wd s ≤ 5 := by
  have := (hW.2.1 s hs).2.2.2
  unfold wid
  repeat' split
  all_goals omega
theorem far_b {V : ax_M} {h : Nat} {sm wd : Int} (n : Nat) (hn : n ≤ 8) : ∀ q, -1 ≤ farN V h sm wd n q ∧ farN V h sm wd n q ≤ 8 := by
  unfold farN
  refine it_ind (P := fun (f : Nat → Int) => ∀ q, -1 ≤ f q ∧ f q ≤ 8) ?_ ?_
  · intro q; unfold far0; split <;> omega
  · intro k f hk hf
    unfold farI
    refine it_ind (P := fun (f : Nat → Int) => ∀ q, -1 ≤ f q ∧ f q ≤ 8) hf ?_
    intro s g hs hg
    have hr : ∀ (g : Nat → Int) a b, (∀ q, -1 ≤ g q ∧ g q ≤ 8) → ∀ q, -1 ≤ rch g a b k q ∧ rch g a b k q ≤ 8 := by
      intro g a b hg q
      unfold rch up
      split
      · dsimp only; split
        · omega
        · exact hg q
      · exact hg q
    unfold fs1
    split
    · exact hr _ _ _ (hr _ _ _ hg)
    · exact hg
