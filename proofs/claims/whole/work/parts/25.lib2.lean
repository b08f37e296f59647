def R1 (t : Nat) (Q : Int → ax_M → Prop) : List ax_V → ax_M → Prop := fun r M => ∃ x, r = [(t, x)] ∧ Q x M
def R0 (Q : ax_M → Prop) : List ax_V → ax_M → Prop := fun r M => r = [] ∧ Q M
section AXL2
variable {L : Nat} {X : Nat → Int} {S : List ax_H} {d j i : Nat} {ll st : List ax_V} {M : ax_M} {P : List ax_V → ax_M → Prop} {C : List ax_O}
theorem c1 {f g d0 t : Nat} {w : Int} {as rest : List ax_V} {Q : Int → ax_M → Prop} (hC : ∀ i, ax_at j i = C[i]?) (h : C[i]? = some (27, f, g, w)) (ha : st.take g = as) (hrest : st.drop g = rest) (hg : g ≤ st.length) (hc : ax_cat rest ≤ 8) (hm : ax_may f S as.reverse = true) (hE : ax_Ev L X S d0 f as.reverse M (R1 t Q)) (hd : d0 + 1 ≤ d) (k : ∀ x M1, Q x M1 → ax_G L X S d j (i + 1) ll ((t, x) :: rest) M1 P) : ax_G L X S d j i ll st M P :=
  g27 hC h ha hrest hg hc hm hE hd (fun r M1 hr => by
    obtain ⟨x, rfl, hq⟩ := hr
    exact k x M1 hq)
theorem c0 {f g d0 : Nat} {w : Int} {as rest : List ax_V} {Q : ax_M → Prop} (hC : ∀ i, ax_at j i = C[i]?) (h : C[i]? = some (27, f, g, w)) (ha : st.take g = as) (hrest : st.drop g = rest) (hg : g ≤ st.length) (hc : ax_cat rest ≤ 8) (hm : ax_may f S as.reverse = true) (hE : ax_Ev L X S d0 f as.reverse M (R0 Q)) (hd : d0 + 1 ≤ d) (k : ∀ M1, Q M1 → ax_G L X S d j (i + 1) ll rest M1 P) : ax_G L X S d j i ll st M P :=
  g27 hC h ha hrest hg hc hm hE hd (fun r M1 hr => by
    obtain ⟨rfl, hq⟩ := hr
    exact k M1 hq)
theorem ret1 {f g t : Nat} {w x : Int} {Q : Int → ax_M → Prop} (hC : ∀ i, ax_at j i = C[i]?) (h : C[i]? = some (28, f, g, w)) (hr : ax_ret f [(t, x)] = some [(t, x)]) (hq : Q x M) : ax_G L X S d j i ll [(t, x)] M (R1 t Q) := g28 hC h hr ⟨x, rfl, hq⟩
theorem ret3 {g : Nat} {w x : Int} {Q : Int → ax_M → Prop} (hC : ∀ i, ax_at j i = C[i]?) (h : C[i]? = some (28, 3, g, w)) (hx : 0 ≤ x ∧ x < 2) (hq : Q x M) : ax_G L X S d j i ll [(0, x)] M (R1 0 Q) := g28 hC h (if_pos hx) ⟨x, rfl, hq⟩
theorem ret0 {g : Nat} {w : Int} {Q : ax_M → Prop} (hC : ∀ i, ax_at j i = C[i]?) (h : C[i]? = some (28, 2, g, w)) (hq : Q M) : ax_G L X S d j i ll [] M (R0 Q) := g28 hC h rfl ⟨rfl, hq⟩
theorem g7a {b : Nat} {w x y : Int} (hC : ∀ i, ax_at j i = C[i]?) (h : C[i]? = some (7, 0, b, w)) (hi : ax_l (x + y)) (k : ax_G L X S d j (i + 1) ll ((1, x + y) :: st) M P) : ax_G L X S d j i ll ((1, y) :: (1, x) :: st) M P := g7 hC h (if_pos hi) k
theorem g7s {b : Nat} {w x y : Int} (hC : ∀ i, ax_at j i = C[i]?) (h : C[i]? = some (7, 1, b, w)) (hi : ax_l (x - y)) (k : ax_G L X S d j (i + 1) ll ((1, x - y) :: st) M P) : ax_G L X S d j i ll ((1, y) :: (1, x) :: st) M P := g7 hC h (if_pos hi) k
theorem g7m {b : Nat} {w x y : Int} (hC : ∀ i, ax_at j i = C[i]?) (h : C[i]? = some (7, 2, b, w)) (hi : ax_l (x * y)) (k : ax_G L X S d j (i + 1) ll ((1, x * y) :: st) M P) : ax_G L X S d j i ll ((1, y) :: (1, x) :: st) M P := g7 hC h (if_pos hi) k
theorem g7d {b : Nat} {w x y : Int} (hC : ∀ i, ax_at j i = C[i]?) (h : C[i]? = some (7, 3, b, w)) (hi : y ≠ 0 ∧ ax_l (x.tdiv y)) (k : ax_G L X S d j (i + 1) ll ((1, x.tdiv y) :: st) M P) : ax_G L X S d j i ll ((1, y) :: (1, x) :: st) M P := g7 hC h (if_pos hi) k
theorem g7r {b : Nat} {w x y : Int} (hC : ∀ i, ax_at j i = C[i]?) (h : C[i]? = some (7, 4, b, w)) (hi : y ≠ 0 ∧ ax_l (x.tdiv y)) (k : ax_G L X S d j (i + 1) ll ((1, x.tmod y) :: st) M P) : ax_G L X S d j i ll ((1, y) :: (1, x) :: st) M P := g7 hC h (if_pos hi) k
theorem g6d {b : Nat} {w x y : Int} (hC : ∀ i, ax_at j i = C[i]?) (h : C[i]? = some (6, 3, b, w)) (hi : y ≠ 0 ∧ ax_i (x.tdiv y)) (k : ax_G L X S d j (i + 1) ll ((0, x.tdiv y) :: st) M P) : ax_G L X S d j i ll ((0, y) :: (0, x) :: st) M P := g6 hC h (if_pos hi) k
theorem g6r {b : Nat} {w x y : Int} (hC : ∀ i, ax_at j i = C[i]?) (h : C[i]? = some (6, 4, b, w)) (hi : y ≠ 0 ∧ ax_i (x.tdiv y)) (k : ax_G L X S d j (i + 1) ll ((0, x.tmod y) :: st) M P) : ax_G L X S d j i ll ((0, y) :: (0, x) :: st) M P := g6 hC h (if_pos hi) k
theorem tdivN {a b : Nat} : ((a : Int)).tdiv (b : Int) = ((a / b : Nat) : Int) := Int.ofNat_tdiv a b |>.symm
theorem tmodN {a b : Nat} : ((a : Int)).tmod (b : Int) = ((a % b : Nat) : Int) := Int.ofNat_tmod a b |>.symm
theorem g6dN {a b n : Nat} {w x y : Int} (hC : ∀ i, ax_at j i = C[i]?) (h : C[i]? = some (6, 3, n, w)) (hx : x = (a : Int)) (hy : y = (b : Int)) (hb : 0 < b) (ha : a < 2147483648) (k : ax_G L X S d j (i + 1) ll ((0, ((a / b : Nat) : Int)) :: st) M P) : ax_G L X S d j i ll ((0, y) :: (0, x) :: st) M P := by
  subst hx; subst hy
  have := Nat.div_le_self a b
  have hi : (b : Int) ≠ 0 ∧ ax_i ((a : Int).tdiv b) := ⟨by omega, by rw [tdivN]; generalize a / b = c at this; constructor <;> omega⟩
  exact g6d hC h hi (by rw [tdivN]; exact k)
theorem g6rN {a b n : Nat} {w x y : Int} (hC : ∀ i, ax_at j i = C[i]?) (h : C[i]? = some (6, 4, n, w)) (hx : x = (a : Int)) (hy : y = (b : Int)) (hb : 0 < b) (ha : a < 2147483648) (k : ax_G L X S d j (i + 1) ll ((0, ((a % b : Nat) : Int)) :: st) M P) : ax_G L X S d j i ll ((0, y) :: (0, x) :: st) M P := by
  subst hx; subst hy
  have := Nat.div_le_self a b
  have hi : (b : Int) ≠ 0 ∧ ax_i ((a : Int).tdiv b) := ⟨by omega, by rw [tdivN]; generalize a / b = c at this; constructor <;> omega⟩
  exact g6r hC h hi (by rw [tmodN]; exact k)
theorem g15k {f g : Nat} {w x key : Int} {i' : Nat} {q : Nat × Int × Int × List Nat × Nat × Nat} (hC : ∀ i, ax_at j i = C[i]?) (h : C[i]? = some (15, f, g, w)) (hq : ax_sw[f]? = some q) (hk : x = key) (hi : (if q.2.1 ≤ key ∧ key ≤ q.2.2.1 then q.2.2.2.1.getD (key - q.2.1).toNat 0 else q.2.2.2.2.1) = i') (k : ax_G L X S d j i' ll st M P) : ax_G L X S d j i ll ((0, x) :: st) M P := by
  subst hk
  exact g15 hC h hq hi k
theorem g15d {f g : Nat} {w x : Int} {i' : Nat} {q : Nat × Int × Int × List Nat × Nat × Nat} (hC : ∀ i, ax_at j i = C[i]?) (h : C[i]? = some (15, f, g, w)) (hq : ax_sw[f]? = some q) (hk : ¬ (q.2.1 ≤ x ∧ x ≤ q.2.2.1)) (hi : q.2.2.2.2.1 = i') (k : ax_G L X S d j i' ll st M P) : ax_G L X S d j i ll ((0, x) :: st) M P :=
  g15 hC h hq (by rw [if_neg hk]; exact hi) k
theorem r29 (sp dp n : Nat) {f g a b la lb : Nat} {w x y z : Int} (hC : ∀ i, ax_at j i = C[i]?) (h : C[i]? = some (29, f, g, w)) (hx : x = (sp : Int)) (hy : y = (dp : Int)) (hz : z = (n : Int)) (ha : S[a]? = some (1, 0, la)) (hb : S[b]? = some (1, 0, lb)) (h1 : sp + n ≤ la) (h2 : dp + n ≤ lb) (hc : ax_cat st ≤ 8) (k : ax_G L X S d j (i + 1) ll st (ax_cpy M a sp b dp n) P) : ax_G L X S d j i ll ((0, z) :: (0, y) :: (2, (b : Int)) :: (0, x) :: (2, (a : Int)) :: st) M P := by
  subst hx; subst hy; subst hz
  exact g29 hC h ha hb h1 h2 hc k
theorem g20s {f g a : Nat} {w y : Int} {t : Nat} {W : ax_W} {V : ax_M} (hC : ∀ i, ax_at j i = C[i]?) (h : C[i]? = some (20, f, g, w)) (ha : S[a]? = some (0, f, ax_fl f)) (hg : g < ax_fl f) (hs : ax_fs (ax_fty f g) (t, y) = true) (hS : Sb W V M) (hw : wb W a g = true) (k : Sb W V (ax_up M a g y) → ax_G L X S d j (i + 1) ll st (ax_up M a g y) P) : ax_G L X S d j i ll ((t, y) :: (2, (a : Int)) :: st) M P := g20 hC h ha hg hs (k (hS.up hw))
theorem r22s (q : Nat) {f g a n : Nat} {w x y : Int} {t : Nat} {W : ax_W} {V : ax_M} (hC : ∀ i, ax_at j i = C[i]?) (h : C[i]? = some (22, f, g, w)) (hx : x = (q : Int)) (ha : S[a]? = some (1, f, n)) (hq : q < n) (hs : ax_es f (t, y) = true) (hS : Sb W V M) (hw : wb W a q = true) (k : Sb W V (ax_up M a q y) → ax_G L X S d j (i + 1) ll st (ax_up M a q y) P) : ax_G L X S d j i ll ((t, y) :: (0, x) :: (2, (a : Int)) :: st) M P := r22 q hC h hx ha hq hs (k (hS.up hw))
theorem r29s (sp dp n : Nat) {f g a b la lb : Nat} {w x y z : Int} {W : ax_W} {V : ax_M} (hC : ∀ i, ax_at j i = C[i]?) (h : C[i]? = some (29, f, g, w)) (hx : x = (sp : Int)) (hy : y = (dp : Int)) (hz : z = (n : Int)) (ha : S[a]? = some (1, 0, la)) (hb : S[b]? = some (1, 0, lb)) (h1 : sp + n ≤ la) (h2 : dp + n ≤ lb) (hc : ax_cat st ≤ 8) (hS : Sb W V M) (hw : ∀ k, wb W b k = true) (k : Sb W V (ax_cpy M a sp b dp n) → ax_G L X S d j (i + 1) ll st (ax_cpy M a sp b dp n) P) : ax_G L X S d j i ll ((0, z) :: (0, y) :: (2, (b : Int)) :: (0, x) :: (2, (a : Int)) :: st) M P := r29 sp dp n hC h hx hy hz ha hb h1 h2 hc (k (hS.cpy hw))
end AXL2
def isP (p : Nat) : Prop := p = 3 ∨ p = 21 ∨ p = 24 ∨ p = 39 ∨ p = 42
theorem isP12 {h : Nat} (hh : h = 9 ∨ h = 27) : isP (h + 12) := by rcases hh with rfl | rfl <;> simp [isP]
theorem isP15 {h : Nat} (hh : h = 9 ∨ h = 27) : isP (h + 15) := by rcases hh with rfl | rfl <;> simp [isP]
theorem shPg {p : Nat} (hp : isP p) : SH[p]? = some (0, 7, ax_fl 7) := by rcases hp with rfl | rfl | rfl | rfl | rfl <;> rfl
theorem shPa0 {p : Nat} (hp : isP p) : SH[p + 1]? = some (1, 0, 1600) := by rcases hp with rfl | rfl | rfl | rfl | rfl <;> rfl
theorem shPa2 {p : Nat} (hp : isP p) : SH[p + 2]? = some (1, 0, 64) := by rcases hp with rfl | rfl | rfl | rfl | rfl <;> rfl
theorem prog0 {M : ax_M} {p : Nat} (hF : Fix M) (hp : isP p) : M p 0 = ((p + 1 : Nat) : Int) := by rcases hp with rfl | rfl | rfl | rfl | rfl <;> exact hF.g rfl
theorem prog2 {M : ax_M} {p : Nat} (hF : Fix M) (hp : isP p) : M p 2 = ((p + 2 : Nat) : Int) := by rcases hp with rfl | rfl | rfl | rfl | rfl <;> exact hF.g rfl
theorem mayH {h j : Nat} {as : List ax_V} (hh : h = 9 ∨ h = 27) (h1 : ax_may j SH ((2, 9) :: as) = true) (h2 : ax_may j SH ((2, 27) :: as) = true) : ax_may j SH ((2, (h : Int)) :: as) = true := by
  rcases hh with rfl | rfl
  · exact h1
  · exact h2
theorem mayP {p j : Nat} {as : List ax_V} (hp : isP p) (h1 : ax_may j SH ((2, 3) :: as) = true) (h2 : ax_may j SH ((2, 21) :: as) = true) (h3 : ax_may j SH ((2, 24) :: as) = true) (h4 : ax_may j SH ((2, 39) :: as) = true) (h5 : ax_may j SH ((2, 42) :: as) = true) : ax_may j SH ((2, (p : Int)) :: as) = true := by
  rcases hp with rfl | rfl | rfl | rfl | rfl
  · exact h1
  · exact h2
  · exact h3
  · exact h4
  · exact h5
theorem shR51 {m : Nat} (hm : m < 20) : SH[51 + m]? = some (1, 0, 44) := by
  have h : ∀ m, m < 20 → SH[51 + m]? = some (1, 0, 44) := by decide +kernel
  exact h m hm
theorem shR76 {m : Nat} (hm : m < 9) : SH[76 + m]? = some (1, 0, 8) := by
  have h : ∀ m, m < 9 → SH[76 + m]? = some (1, 0, 8) := by decide +kernel
  exact h m hm
theorem shR86 {m : Nat} (hm : m < 8) : SH[86 + m]? = some (1, 0, 8) := by
  have h : ∀ m, m < 8 → SH[86 + m]? = some (1, 0, 8) := by decide +kernel
  exact h m hm
theorem shR95 {m : Nat} (hm : m < 8) : SH[95 + m]? = some (1, 0, 8) := by
  have h : ∀ m, m < 8 → SH[95 + m]? = some (1, 0, 8) := by decide +kernel
  exact h m hm
theorem shR114 {m : Nat} (hm : m < 8) : SH[114 + m]? = some (1, 1, 8) := by
  have h : ∀ m, m < 8 → SH[114 + m]? = some (1, 1, 8) := by decide +kernel
  exact h m hm
theorem shR127 {m : Nat} (hm : m < 11) : SH[127 + m]? = some (1, 0, 8) := by
  have h : ∀ m, m < 11 → SH[127 + m]? = some (1, 0, 8) := by decide +kernel
  exact h m hm
theorem wbr {W : ax_W} {a k lo hi : Nat} (h : W.1.any (fun e => Nat.beq e.1 lo && Nat.beq e.2 hi) = true) (h1 : lo ≤ a) (h2 : a < hi) : wb W a k = true := by
  obtain ⟨e, he, h3⟩ := List.any_eq_true.mp h
  rw [Bool.and_eq_true] at h3
  have a1 := Nat.eq_of_beq_eq_true h3.1
  have a2 := Nat.eq_of_beq_eq_true h3.2
  unfold wb
  rw [Bool.or_eq_true]
  refine Or.inl (List.any_eq_true.mpr ⟨e, he, ?_⟩)
  rw [Bool.and_eq_true]
  exact ⟨Nat.ble_eq_true_of_le (by omega), Nat.ble_eq_true_of_le (by omega)⟩
def it {α : Type} (f : Nat → α → α) : Nat → α → α
  | 0, x => x
  | n + 1, x => f n (it f n x)
def up (f : Nat → Int) (k : Nat) (x : Int) : Nat → Int := fun q => if q = k then x else f q
theorem up_at {f : Nat → Int} {k : Nat} {x : Int} : up f k x k = x := if_pos rfl
theorem up_ne {f : Nat → Int} {k q : Nat} {x : Int} (h : q ≠ k) : up f k x q = f q := if_neg h
theorem ax_upf {M : ax_M} {a k : Nat} {x : Int} : ax_up M a k x a = up (M a) k x := by
  funext q
  unfold ax_up up
  by_cases h : q = k
  · rw [if_pos ⟨rfl, h⟩, if_pos h]
  · rw [if_neg (fun z => h z.2), if_neg h]
theorem ax_up2n {M : ax_M} {a k b q : Nat} {x : Int} (h : b ≠ a) : ax_up M a k x b q = M b q := by
  unfold ax_up
  rw [if_neg (fun z => h z.1)]
theorem wbo {W : ax_W} {a k : Nat} (lo hi : Nat) (hW : (W.1.all (fun e => Nat.ble e.2 lo || Nat.ble hi e.1) && W.2.all (fun e => Nat.ble (e.1 + 1) lo || Nat.ble hi e.1)) = true) (h1 : lo ≤ a) (h2 : a < hi) : wb W a k = false := by
  rw [Bool.and_eq_true] at hW
  cases e : wb W a k with
  | false => rfl
  | true =>
    unfold wb at e
    rw [Bool.or_eq_true] at e
    rcases e with e | e
    · obtain ⟨x, hx, e⟩ := List.any_eq_true.mp e
      have := List.all_eq_true.mp hW.1 x hx
      simp only [Bool.and_eq_true, Bool.or_eq_true] at this e
      have e1 := Nat.le_of_ble_eq_true e.1
      have e2 := Nat.le_of_ble_eq_true e.2
      rcases this with t | t <;> (have := Nat.le_of_ble_eq_true t; omega)
    · obtain ⟨x, hx, e⟩ := List.any_eq_true.mp e
      have := List.all_eq_true.mp hW.2 x hx
      simp only [Bool.and_eq_true, Bool.or_eq_true] at this e
      have e1 := Nat.eq_of_beq_eq_true e.1
      rcases this with t | t <;> (have := Nat.le_of_ble_eq_true t; omega)
theorem up_c {f g : Nat → Int} {k c : Nat} {x : Int} (h : f c = g c) : up f k x c = up g k x c := by
  unfold up; split
  · rfl
  · exact h
