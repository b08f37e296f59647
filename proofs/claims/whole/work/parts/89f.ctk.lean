def cnk (W : ax_W) : Bool := (W.1.all (fun e => Nat.ble e.2 9 || Nat.ble 13 e.1) && W.2.all (fun e => Nat.ble (e.1 + 1) 9 || Nat.ble 13 e.1)) && (W.1.all (fun e => Nat.ble e.2 27 || Nat.ble 31 e.1) && W.2.all (fun e => Nat.ble (e.1 + 1) 27 || Nat.ble 31 e.1))
theorem cnkU {W : ax_W} {h i k : Nat} (hc : cnk W = true) (hh : h = 9 ∨ h = 27) (hi : i < 4) : wb W (h + i) k = false := by
  unfold cnk at hc
  rw [Bool.and_eq_true] at hc
  rcases hh with rfl | rfl
  · exact wbo 9 13 hc.1 (by omega) (by omega)
  · exact wbo 27 31 hc.2 (by omega) (by omega)
theorem CHn.sb {W : ax_W} {M M1 : ax_M} {h : Nat} {s : HS} (hN : CHn h s M) (hh : h = 9 ∨ h = 27) (hS : Sb W M M1) (hc : cnk W = true) : CHn h s M1 := by
  have e : ∀ k, M1 h k = M h k := fun k => hS h k (cnkU (i := 0) hc hh (by decide))
  obtain ⟨⟨a, b, c, d⟩, r1, r2, r3⟩ := hN
  refine ⟨⟨⟨(e 0).trans a.1, a.2⟩, ⟨(e 1).trans b.1, b.2⟩, ⟨(e 2).trans c.1, c.2⟩, ⟨(e 3).trans d.1, d.2⟩⟩, fun k hk => ?_, fun k hk => ?_, fun k hk => ?_⟩
  · rw [hS _ _ (cnkU hc hh (by decide))]; exact r1 k hk
  · rw [hS _ _ (cnkU hc hh (by decide))]; exact r2 k hk
  · rw [hS _ _ (cnkU hc hh (by decide))]; exact r3 k hk
section CTK
variable {L : Nat} {X : Nat → Int} {M : ax_M} {h n : Nat} {s : HS} {T : Nat → Int} {q : PS}
theorem m43 (hF : Fix M) (hh : h = 9 ∨ h = 27) (hn : n ≤ 1600) (hN : CHn h s M) (hq : CT T n q M) (hqn : q.1 ≤ n) : ax_Ev L X SH 6 43 [(2, 7), (2, (h : Int))] M (R1 0 (fun x M' => Sb WNA M M' ∧ ((∃ f p, x = 0 ∧ CF f p M' ∧ ∀ k, newN T n s q k = .inl (f, p)) ∨ (x = 1 ∧ CT T n (nx T n q) M' ∧ (M' 1 7 = (ncm (nmQ T n q) : Int) ∧ M' 1 5 = (q.1 : Int)) ∧ ∀ k, newN T n s q k = k (nmQ T n q) (nx T n q))))) := by
  show ax_G L X SH 6 43 0 [(2, 7), (2, (h : Int))] [] M _
  have hC := at43
  have hw : wok WNA = true := by decide +kernel
  have hS : Sb WNA M M := Sb.refl
  have hck : cnk WNA = true := by decide +kernel
  have c98 := m98 (L := L) (X := X) hF hn hq hqn
  cases r : naR T n q with
  | some e =>
    rw [r] at c98
    have eN : ∀ k, newN T n s q k = .inl (e.1, e.2) := fun k => by unfold newN tryR; rw [r]
    refine g3 hC rfl rfl ?_
    refine g19 hC rfl rfl (Nat.le_of_ble_eq_true rfl) rfl ((hS.fix hw hF).g rfl) ?_
    refine c1 hC rfl rfl rfl (Nat.le_of_ble_eq_true rfl) (Nat.le_of_ble_eq_true rfl) rfl c98 (Nat.le_of_ble_eq_true rfl) (fun x M2 hr => ?_)
    obtain ⟨hr0, hcr⟩ := hr; have hS := hS.then hr0 rfl; have hx : x = 0 ∧ CF e.1 e.2 M2 := by rcases hcr with ⟨f, p, w1, w2, w3⟩ | ⟨w1, -⟩; cases w1; exact ⟨w2, w3⟩; cases w1
    refine g12n hC rfl (fun h3 => (by have := hx.1; omega)) (fun h3 => ?_)
    refine g0 hC rfl ?_
    refine ret3 hC rfl ⟨by omega, by omega⟩ ?_
    exact ⟨hS, Or.inl ⟨e.1, e.2, rfl, hx.2, eN⟩⟩
  | none =>
    rw [r] at c98
    cases z : nmd s (nmQ T n q) with
    | true =>
      have eN : ∀ k, newN T n s q k = .inl (3, (q.1 : Int)) := fun k => by unfold newN tryR; rw [r]; dsimp only; rw [z, if_pos rfl]
      refine g3 hC rfl rfl ?_
      refine g19 hC rfl rfl (Nat.le_of_ble_eq_true rfl) rfl ((hS.fix hw hF).g rfl) ?_
      refine c1 hC rfl rfl rfl (Nat.le_of_ble_eq_true rfl) (Nat.le_of_ble_eq_true rfl) rfl c98 (Nat.le_of_ble_eq_true rfl) (fun x M2 hr => ?_)
      obtain ⟨hr0, hcr⟩ := hr; have hS := hS.then hr0 rfl; have hx : x = 1 ∧ CT T n (nx T n q) M2 ∧ M2 1 7 = (ncm (nmQ T n q) : Int) ∧ M2 1 5 = (q.1 : Int) := by rcases hcr with ⟨f, p, w1, -⟩ | ⟨-, w2, w3, w4⟩; cases w1; exact ⟨w2, w3, w4⟩
      refine g12n hC rfl (fun h3 => ?_) (fun h3 => (by have := hx.1; omega))
      refine g3 hC rfl rfl ?_
      refine g3 hC rfl rfl ?_
      refine g19 hC rfl rfl (Nat.le_of_ble_eq_true rfl) rfl ((hS.fix hw hF).g rfl) ?_
      refine g19 hC rfl rfl (Nat.le_of_ble_eq_true rfl) rfl hx.2.2.1 ?_
      refine c1 hC rfl rfl rfl (Nat.le_of_ble_eq_true rfl) (Nat.le_of_ble_eq_true rfl) (mayH hh rfl rfl) (m36 (hS.fix hw hF) hh (hN.sb hh hS hck)) (Nat.le_of_ble_eq_true rfl) (fun y M3 hr => ?_)
      obtain ⟨hr, hy⟩ := hr; replace hr := hr.symm; subst hr; rw [z] at hy; replace hy : y = 1 := hy; subst hy
      refine g12e hC rfl (fun h11 => (by omega)) (fun h11 => ?_)
      refine g3 hC rfl rfl ?_
      refine g19 hC rfl rfl (Nat.le_of_ble_eq_true rfl) rfl ((hS.fix hw hF).g rfl) ?_
      refine g0 hC rfl ?_
      refine g3 hC rfl rfl ?_
      refine g19 hC rfl rfl (Nat.le_of_ble_eq_true rfl) rfl ((hS.fix hw hF).g rfl) ?_
      refine g19 hC rfl rfl (Nat.le_of_ble_eq_true rfl) rfl hx.2.2.2 ?_
      refine c1 hC rfl rfl rfl (Nat.le_of_ble_eq_true rfl) (Nat.le_of_ble_eq_true rfl) rfl m89 (Nat.le_of_ble_eq_true rfl) (fun y M4 hr => ?_)
      obtain ⟨rfl, hr⟩ := hr; replace hr := hr.symm; subst hr
      refine g12e hC rfl (fun h19 => ?_) (fun h19 => (by omega))
      refine g0 hC rfl ?_
      refine ret3 hC rfl ⟨by omega, by omega⟩ ?_
      exact ⟨(hS.up rfl).up rfl, Or.inl ⟨3, _, rfl, CF.up, eN⟩⟩
    | false =>
      have eN : ∀ k, newN T n s q k = k (nmQ T n q) (nx T n q) := fun k => by unfold newN tryR; rw [r]; dsimp only; rw [z]; rfl
      refine g3 hC rfl rfl ?_
      refine g19 hC rfl rfl (Nat.le_of_ble_eq_true rfl) rfl ((hS.fix hw hF).g rfl) ?_
      refine c1 hC rfl rfl rfl (Nat.le_of_ble_eq_true rfl) (Nat.le_of_ble_eq_true rfl) rfl c98 (Nat.le_of_ble_eq_true rfl) (fun x M2 hr => ?_)
      obtain ⟨hr0, hcr⟩ := hr; have hS := hS.then hr0 rfl; have hx : x = 1 ∧ CT T n (nx T n q) M2 ∧ M2 1 7 = (ncm (nmQ T n q) : Int) ∧ M2 1 5 = (q.1 : Int) := by rcases hcr with ⟨f, p, w1, -⟩ | ⟨-, w2, w3, w4⟩; cases w1; exact ⟨w2, w3, w4⟩
      refine g12n hC rfl (fun h3 => ?_) (fun h3 => (by have := hx.1; omega))
      refine g3 hC rfl rfl ?_
      refine g3 hC rfl rfl ?_
      refine g19 hC rfl rfl (Nat.le_of_ble_eq_true rfl) rfl ((hS.fix hw hF).g rfl) ?_
      refine g19 hC rfl rfl (Nat.le_of_ble_eq_true rfl) rfl hx.2.2.1 ?_
      refine c1 hC rfl rfl rfl (Nat.le_of_ble_eq_true rfl) (Nat.le_of_ble_eq_true rfl) (mayH hh rfl rfl) (m36 (hS.fix hw hF) hh (hN.sb hh hS hck)) (Nat.le_of_ble_eq_true rfl) (fun y M3 hr => ?_)
      obtain ⟨hr, hy⟩ := hr; replace hr := hr.symm; subst hr; rw [z] at hy; replace hy : y = 0 := hy; subst hy
      refine g12e hC rfl (fun h11 => ?_) (fun h11 => (by omega))
      refine g0 hC rfl ?_
      refine g14 hC rfl ?_
      refine ret3 hC rfl ⟨by omega, by omega⟩ ?_
      exact ⟨hS, Or.inr ⟨rfl, hx.2.1, hx.2.2, eN⟩⟩
end CTK
