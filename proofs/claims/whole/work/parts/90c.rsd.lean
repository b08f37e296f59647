def XST : ax_W := ([(176, 179), (180, 186)], [(142, 82), (142, 76)])
def Cp (a H k : Nat) (M M1 : ax_M) : Prop := Sb ([(a, a + 1)], []) M M1 ∧ (∀ j, j < H → M1 a j = M a j) ∧ ∀ j, j < k → M1 a (H + j) = M a j
theorem Cp.z {a H : Nat} {M : ax_M} : Cp a H 0 M M := ⟨Sb.refl, fun _ _ => rfl, fun j hj => absurd hj (Nat.not_lt_zero j)⟩
theorem wbs {a k : Nat} : wb ([(a, a + 1)], []) a k = true := by
  unfold wb
  simp only [List.any_cons, List.any_nil, Bool.or_false, Bool.and_eq_true]
  exact ⟨Nat.ble_eq_true_of_le (Nat.le_refl a), Nat.ble_eq_true_of_le (Nat.le_refl (a + 1))⟩
theorem Cp.s {a H k : Nat} {M M1 : ax_M} (h : Cp a H k M M1) : Cp a H (k + 1) M (ax_up M1 a (H + k) (M a k)) := by
  refine ⟨h.1.up wbs, fun j hj => ?_, fun j hj => ?_⟩
  · rw [ax_up_of (by omega)]; exact h.2.1 j hj
  · by_cases z : j = k
    · rw [z, ax_up_at]
    · rw [ax_up_of (by omega)]; exact h.2.2 j (by omega)
def SDp (d c : Nat) (M M' : ax_M) : Prop := Sb XST M M' ∧ (∀ k, k < 4 → M' 176 (4 + k) = M 176 k) ∧ (∀ k, k < 24 → M' 177 (24 + k) = M 177 k) ∧ (∀ k, k < 30 → M' 178 (30 + k) = M 178 k) ∧ (∀ k, k < 32 → M' 180 (32 + k) = M 180 k) ∧ (∀ k, k < 3 → M' 181 (3 + k) = M 181 k) ∧ (∀ k, k < 2 → M' 182 (2 + k) = M 182 k ∧ M' 183 (2 + k) = M 183 k) ∧ (∀ k, k < d → M' 184 (1600 + k) = M 184 k) ∧ (∀ k, k < 44 → M' 185 k = if 1 ≤ k ∧ k < 1 + c then M 179 (k - 1) else 0) ∧ M' 142 82 = 0 ∧ M' 142 76 = 0
section RSD
variable {L : Nat} {X : Nat → Int} {M : ax_M} {d c : Nat}
theorem m181 (hF : Fix M) (hd : M 142 51 = (d : Int)) (hd6 : d ≤ 1600) (hc : M 176 1 = (c : Int)) (hc5 : c ≤ 5) : ax_Ev L X SH 0 181 [(2, 142)] M (R0 (SDp d c M)) := by
  show ax_G L X SH 0 181 0 [(2, 142), (3, 0)] [] M _
  obtain ⟨P, hP⟩ : ∃ P, P = SDp d c M := ⟨_, rfl⟩
  rw [← hP]
  have hC := at181
  have hw : wok XST = true := by decide +kernel
  have cp176 : ∀ (Mx : ax_M), Sb XST M Mx → (∀ M1, Cp 176 4 4 Mx M1 → ax_G L X SH 0 181 17 [(2, 142), (0, 4)] [] M1 (R0 P)) → ∀ (m k : Nat), k + m = 4 → ∀ ll M1, (ll = [(2, 142), (0, (k : Int))] ∧ Cp 176 4 k Mx M1) → ax_G L X SH 0 181 2 ll [] M1 (R0 P) := by
    intro Mx hSx kont
    refine lp ?_ ?_
    · rintro ll M1 ⟨rfl, hc⟩
      have hS := hSx.then hc.1 rfl
      refine g3 hC rfl rfl ?_
      refine g0 hC rfl ?_
      refine g13g hC rfl (fun h4 => ?_) (fun h4 => (by omega))
      exact kont M1 hc
    · rintro k hk ll M1 ⟨rfl, hc⟩ hnext
      have hS := hSx.then hc.1 rfl
      refine g3 hC rfl rfl ?_
      refine g0 hC rfl ?_
      refine g13g hC rfl (fun h4 => (by omega)) (fun h4 => ?_)
      refine g3 hC rfl rfl ?_
      refine g19 hC rfl sh142 (flt12 rfl) ft12_42 ((hS.fix hw hF).g fx_142_42) ?_
      refine g0 hC rfl ?_
      refine g3 hC rfl rfl ?_
      refine g6a hC rfl ⟨by omega, by omega⟩ ?_
      refine g3 hC rfl rfl ?_
      refine g19 hC rfl sh142 (flt12 rfl) ft12_42 ((hS.fix hw hF).g fx_142_42) ?_
      refine g3 hC rfl rfl ?_
      refine r21 (k) hC rfl rfl sh176 (Or.inl rfl) (by omega) (hc.2.1 k (by omega)) ?_
      refine r22 (4 + k) hC rfl (by omega) sh176 (by omega) rfl ?_
      refine n1 hC rfl rfl ⟨by omega, by omega⟩ ?_
      refine g14 hC rfl ?_
      exact hnext _ _ ⟨rfl, hc.s⟩
  have cp177 : ∀ (Mx : ax_M), Sb XST M Mx → (∀ M1, Cp 177 24 24 Mx M1 → ax_G L X SH 0 181 34 [(2, 142), (0, 24)] [] M1 (R0 P)) → ∀ (m k : Nat), k + m = 24 → ∀ ll M1, (ll = [(2, 142), (0, (k : Int))] ∧ Cp 177 24 k Mx M1) → ax_G L X SH 0 181 19 ll [] M1 (R0 P) := by
    intro Mx hSx kont
    refine lp ?_ ?_
    · rintro ll M1 ⟨rfl, hc⟩
      have hS := hSx.then hc.1 rfl
      refine g3 hC rfl rfl ?_
      refine g0 hC rfl ?_
      refine g13g hC rfl (fun h21 => ?_) (fun h21 => (by omega))
      exact kont M1 hc
    · rintro k hk ll M1 ⟨rfl, hc⟩ hnext
      have hS := hSx.then hc.1 rfl
      refine g3 hC rfl rfl ?_
      refine g0 hC rfl ?_
      refine g13g hC rfl (fun h21 => (by omega)) (fun h21 => ?_)
      refine g3 hC rfl rfl ?_
      refine g19 hC rfl sh142 (flt12 rfl) ft12_43 ((hS.fix hw hF).g fx_142_43) ?_
      refine g0 hC rfl ?_
      refine g3 hC rfl rfl ?_
      refine g6a hC rfl ⟨by omega, by omega⟩ ?_
      refine g3 hC rfl rfl ?_
      refine g19 hC rfl sh142 (flt12 rfl) ft12_43 ((hS.fix hw hF).g fx_142_43) ?_
      refine g3 hC rfl rfl ?_
      refine r21 (k) hC rfl rfl sh177 (Or.inl rfl) (by omega) (hc.2.1 k (by omega)) ?_
      refine r22 (24 + k) hC rfl (by omega) sh177 (by omega) rfl ?_
      refine n1 hC rfl rfl ⟨by omega, by omega⟩ ?_
      refine g14 hC rfl ?_
      exact hnext _ _ ⟨rfl, hc.s⟩
  have cp178 : ∀ (Mx : ax_M), Sb XST M Mx → (∀ M1, Cp 178 30 30 Mx M1 → ax_G L X SH 0 181 51 [(2, 142), (0, 30)] [] M1 (R0 P)) → ∀ (m k : Nat), k + m = 30 → ∀ ll M1, (ll = [(2, 142), (0, (k : Int))] ∧ Cp 178 30 k Mx M1) → ax_G L X SH 0 181 36 ll [] M1 (R0 P) := by
    intro Mx hSx kont
    refine lp ?_ ?_
    · rintro ll M1 ⟨rfl, hc⟩
      have hS := hSx.then hc.1 rfl
      refine g3 hC rfl rfl ?_
      refine g0 hC rfl ?_
      refine g13g hC rfl (fun h38 => ?_) (fun h38 => (by omega))
      exact kont M1 hc
    · rintro k hk ll M1 ⟨rfl, hc⟩ hnext
      have hS := hSx.then hc.1 rfl
      refine g3 hC rfl rfl ?_
      refine g0 hC rfl ?_
      refine g13g hC rfl (fun h38 => (by omega)) (fun h38 => ?_)
      refine g3 hC rfl rfl ?_
      refine g19 hC rfl sh142 (flt12 rfl) ft12_44 ((hS.fix hw hF).g fx_142_44) ?_
      refine g0 hC rfl ?_
      refine g3 hC rfl rfl ?_
      refine g6a hC rfl ⟨by omega, by omega⟩ ?_
      refine g3 hC rfl rfl ?_
      refine g19 hC rfl sh142 (flt12 rfl) ft12_44 ((hS.fix hw hF).g fx_142_44) ?_
      refine g3 hC rfl rfl ?_
      refine r21 (k) hC rfl rfl sh178 (Or.inl rfl) (by omega) (hc.2.1 k (by omega)) ?_
      refine r22 (30 + k) hC rfl (by omega) sh178 (by omega) rfl ?_
      refine n1 hC rfl rfl ⟨by omega, by omega⟩ ?_
      refine g14 hC rfl ?_
      exact hnext _ _ ⟨rfl, hc.s⟩
  have cp180 : ∀ (Mx : ax_M), Sb XST M Mx → (∀ M1, Cp 180 32 32 Mx M1 → ax_G L X SH 0 181 68 [(2, 142), (0, 32)] [] M1 (R0 P)) → ∀ (m k : Nat), k + m = 32 → ∀ ll M1, (ll = [(2, 142), (0, (k : Int))] ∧ Cp 180 32 k Mx M1) → ax_G L X SH 0 181 53 ll [] M1 (R0 P) := by
    intro Mx hSx kont
    refine lp ?_ ?_
    · rintro ll M1 ⟨rfl, hc⟩
      have hS := hSx.then hc.1 rfl
      refine g3 hC rfl rfl ?_
      refine g0 hC rfl ?_
      refine g13g hC rfl (fun h55 => ?_) (fun h55 => (by omega))
      exact kont M1 hc
    · rintro k hk ll M1 ⟨rfl, hc⟩ hnext
      have hS := hSx.then hc.1 rfl
      refine g3 hC rfl rfl ?_
      refine g0 hC rfl ?_
      refine g13g hC rfl (fun h55 => (by omega)) (fun h55 => ?_)
      refine g3 hC rfl rfl ?_
      refine g19 hC rfl sh142 (flt12 rfl) ft12_46 ((hS.fix hw hF).g fx_142_46) ?_
      refine g0 hC rfl ?_
      refine g3 hC rfl rfl ?_
      refine g6a hC rfl ⟨by omega, by omega⟩ ?_
      refine g3 hC rfl rfl ?_
      refine g19 hC rfl sh142 (flt12 rfl) ft12_46 ((hS.fix hw hF).g fx_142_46) ?_
      refine g3 hC rfl rfl ?_
      refine r21 (k) hC rfl rfl sh180 (Or.inl rfl) (by omega) (hc.2.1 k (by omega)) ?_
      refine r22 (32 + k) hC rfl (by omega) sh180 (by omega) rfl ?_
      refine n1 hC rfl rfl ⟨by omega, by omega⟩ ?_
      refine g14 hC rfl ?_
      exact hnext _ _ ⟨rfl, hc.s⟩
  have cp181 : ∀ (Mx : ax_M), Sb XST M Mx → (∀ M1, Cp 181 3 3 Mx M1 → ax_G L X SH 0 181 85 [(2, 142), (0, 3)] [] M1 (R0 P)) → ∀ (m k : Nat), k + m = 3 → ∀ ll M1, (ll = [(2, 142), (0, (k : Int))] ∧ Cp 181 3 k Mx M1) → ax_G L X SH 0 181 70 ll [] M1 (R0 P) := by
    intro Mx hSx kont
    refine lp ?_ ?_
    · rintro ll M1 ⟨rfl, hc⟩
      have hS := hSx.then hc.1 rfl
      refine g3 hC rfl rfl ?_
      refine g0 hC rfl ?_
      refine g13g hC rfl (fun h72 => ?_) (fun h72 => (by omega))
      exact kont M1 hc
    · rintro k hk ll M1 ⟨rfl, hc⟩ hnext
      have hS := hSx.then hc.1 rfl
      refine g3 hC rfl rfl ?_
      refine g0 hC rfl ?_
      refine g13g hC rfl (fun h72 => (by omega)) (fun h72 => ?_)
      refine g3 hC rfl rfl ?_
      refine g19 hC rfl sh142 (flt12 rfl) ft12_47 ((hS.fix hw hF).g fx_142_47) ?_
      refine g0 hC rfl ?_
      refine g3 hC rfl rfl ?_
      refine g6a hC rfl ⟨by omega, by omega⟩ ?_
      refine g3 hC rfl rfl ?_
      refine g19 hC rfl sh142 (flt12 rfl) ft12_47 ((hS.fix hw hF).g fx_142_47) ?_
      refine g3 hC rfl rfl ?_
      refine r21 (k) hC rfl rfl sh181 (Or.inl rfl) (by omega) (hc.2.1 k (by omega)) ?_
      refine r22 (3 + k) hC rfl (by omega) sh181 (by omega) rfl ?_
      refine n1 hC rfl rfl ⟨by omega, by omega⟩ ?_
      refine g14 hC rfl ?_
      exact hnext _ _ ⟨rfl, hc.s⟩
  have cp182 : ∀ (Mx : ax_M), Sb XST M Mx → (∀ My M1, Cp 182 2 2 Mx My → Cp 183 2 2 My M1 → ax_G L X SH 0 181 112 [(2, 142), (0, 2)] [] M1 (R0 P)) → ax_G L X SH 0 181 87 [(2, 142), (0, 0)] [] Mx (R0 P) := by
    intro Mx hSx kont
    have key : ∀ (m k : Nat), k + m = 2 → ∀ ll M1, (ll = [(2, 142), (0, (k : Int))] ∧ Sb ([(182, 184)], []) Mx M1 ∧ (∀ j, j < 2 → M1 182 j = Mx 182 j ∧ M1 183 j = Mx 183 j) ∧ ∀ j, j < k → M1 182 (2 + j) = Mx 182 j ∧ M1 183 (2 + j) = Mx 183 j) → ax_G L X SH 0 181 87 ll [] M1 (R0 P) := by
      refine lp ?_ ?_
      · rintro ll M1 ⟨rfl, h1, h2, h3⟩
        have hS := hSx.then h1 rfl
        obtain ⟨My, hMy⟩ : ∃ My : ax_M, My = fun a k => if a = 182 then M1 a k else Mx a k := ⟨_, rfl⟩
        have y1 : ∀ k, My 182 k = M1 182 k := fun k => by rw [hMy]; rfl
        have y2 : ∀ a k, a ≠ 182 → My a k = Mx a k := fun a k z => by rw [hMy]; exact if_neg z
        refine g3 hC rfl rfl ?_
        refine g0 hC rfl ?_
        refine g13g hC rfl (fun h89 => ?_) (fun h89 => (by omega))
        refine kont My M1 ⟨fun a k z => ?_, fun j hj => (y1 j).trans (h2 j hj).1, fun j hj => (y1 _).trans (h3 j hj).1⟩ ⟨fun a k z => ?_, fun j hj => (h2 j hj).2.trans (y2 183 j (by decide)).symm, fun j hj => (h3 j hj).2.trans (y2 183 j (by decide)).symm⟩
        · refine y2 a k (fun e => ?_)
          subst e; rw [wbs] at z; cases z
        · by_cases e : a = 182
          · subst e; exact (y1 k).symm
          · rw [y2 a k e]
            have e3 : a ≠ 183 := fun e3 => by subst e3; rw [wbs] at z; cases z
            exact h1 a k (by
              unfold wb
              simp only [List.any_cons, List.any_nil, Bool.or_false, Bool.and_eq_false_iff]
              rcases Nat.lt_or_ge a 182 with y | y
              · exact Or.inl (Bool.eq_false_iff.mpr (fun x => by have := Nat.le_of_ble_eq_true x; omega))
              · exact Or.inr (Bool.eq_false_iff.mpr (fun x => by have := Nat.le_of_ble_eq_true x; omega)))
      · rintro k hk ll M1 ⟨rfl, h1, h2, h3⟩ hnext
        have hS := hSx.then h1 rfl
        refine g3 hC rfl rfl ?_
        refine g0 hC rfl ?_
        refine g13g hC rfl (fun h89 => (by omega)) (fun h89 => ?_)
        refine g3 hC rfl rfl ?_
        refine g19 hC rfl sh142 (flt12 rfl) ft12_48 ((hS.fix hw hF).g fx_142_48) ?_
        refine g0 hC rfl ?_
        refine g3 hC rfl rfl ?_
        refine g6a hC rfl ⟨by omega, by omega⟩ ?_
        refine g3 hC rfl rfl ?_
        refine g19 hC rfl sh142 (flt12 rfl) ft12_48 ((hS.fix hw hF).g fx_142_48) ?_
        refine g3 hC rfl rfl ?_
        refine r21 (k) hC rfl rfl sh182 (Or.inl rfl) (by omega) (h2 k (by omega)).1 ?_
        refine r22s (2 + k) hC rfl (by omega) sh182 (by omega) rfl hS rfl (fun hS => ?_)
        refine g3 hC rfl rfl ?_
        refine g19 hC rfl sh142 (flt12 rfl) ft12_49 ((hS.fix hw hF).g fx_142_49) ?_
        refine g0 hC rfl ?_
        refine g3 hC rfl rfl ?_
        refine g6a hC rfl ⟨by omega, by omega⟩ ?_
        refine g3 hC rfl rfl ?_
        refine g19 hC rfl sh142 (flt12 rfl) ft12_49 ((hS.fix hw hF).g fx_142_49) ?_
        refine g3 hC rfl rfl ?_
        refine r21 (k) hC rfl rfl sh183 (Or.inl rfl) (by omega) ((ax_up2n (by decide)).trans (h2 k (by omega)).2) ?_
        refine r22 (2 + k) hC rfl (by omega) sh183 (by omega) rfl ?_
        refine n1 hC rfl rfl ⟨by omega, by omega⟩ ?_
        refine g14 hC rfl ?_
        refine hnext _ _ ⟨rfl, (h1.up rfl).up rfl, fun j hj => ⟨?_, ?_⟩, fun j hj => ⟨?_, ?_⟩⟩
        · rw [ax_up2n (by decide), ax_up_of (by omega)]; exact (h2 j hj).1
        · rw [ax_up_of (by omega), ax_up2n (by decide)]; exact (h2 j hj).2
        · rw [ax_up2n (by decide)]
          by_cases z : j = k
          · rw [z, ax_up_at]
          · rw [ax_up_of (by omega)]; exact (h3 j (by omega)).1
        · by_cases z : j = k
          · rw [z, ax_up_at]
          · rw [ax_up_of (by omega), ax_up2n (by decide)]; exact (h3 j (by omega)).2
    exact key 2 0 rfl _ _ ⟨rfl, Sb.refl, fun j _ => ⟨rfl, rfl⟩, fun j hj => absurd hj (Nat.not_lt_zero j)⟩
  have cp184 : ∀ (Mx : ax_M), Sb XST M Mx → (∀ M1, Cp 184 1600 d Mx M1 → ax_G L X SH 0 181 130 [(2, 142), (0, (d : Int))] [] M1 (R0 P)) → ∀ (m k : Nat), k + m = d → ∀ ll M1, (ll = [(2, 142), (0, (k : Int))] ∧ Cp 184 1600 k Mx M1) → ax_G L X SH 0 181 114 ll [] M1 (R0 P) := by
    intro Mx hSx kont
    refine lp ?_ ?_
    · rintro ll M1 ⟨rfl, hc⟩
      have hS := hSx.then hc.1 rfl
      have e51 := (hS 142 51 rfl).trans hd
      refine g3 hC rfl rfl ?_
      refine g3 hC rfl rfl ?_
      refine g19 hC rfl sh142 (flt12 rfl) ft12_51 e51 ?_
      refine g13g hC rfl (fun h117 => ?_) (fun h117 => (by omega))
      exact kont M1 hc
    · rintro k hk ll M1 ⟨rfl, hc⟩ hnext
      have hS := hSx.then hc.1 rfl
      have e51 := (hS 142 51 rfl).trans hd
      refine g3 hC rfl rfl ?_
      refine g3 hC rfl rfl ?_
      refine g19 hC rfl sh142 (flt12 rfl) ft12_51 e51 ?_
      refine g13g hC rfl (fun h117 => (by omega)) (fun h117 => ?_)
      refine g3 hC rfl rfl ?_
      refine g19 hC rfl sh142 (flt12 rfl) ft12_50 ((hS.fix hw hF).g fx_142_50) ?_
      refine g0 hC rfl ?_
      refine g3 hC rfl rfl ?_
      refine g6a hC rfl ⟨by omega, by omega⟩ ?_
      refine g3 hC rfl rfl ?_
      refine g19 hC rfl sh142 (flt12 rfl) ft12_50 ((hS.fix hw hF).g fx_142_50) ?_
      refine g3 hC rfl rfl ?_
      refine r21 (k) hC rfl rfl sh184 (Or.inl rfl) (by omega) (hc.2.1 k (by omega)) ?_
      refine r22 (1600 + k) hC rfl (by omega) sh184 (by omega) rfl ?_
      refine n1 hC rfl rfl ⟨by omega, by omega⟩ ?_
      refine g14 hC rfl ?_
      exact hnext _ _ ⟨rfl, hc.s⟩
  have z185 : ∀ (Mx : ax_M), Sb XST M Mx → (∀ M1, Sb ([(185, 186)], []) Mx M1 → (∀ j, j < 44 → M1 185 j = 0) → ax_G L X SH 0 181 142 [(2, 142), (0, 44)] [] M1 (R0 P)) → ∀ (m k : Nat), k + m = 44 → ∀ ll M1, (ll = [(2, 142), (0, (k : Int))] ∧ Sb ([(185, 186)], []) Mx M1 ∧ ∀ j, j < k → M1 185 j = 0) → ax_G L X SH 0 181 132 ll [] M1 (R0 P) := by
    intro Mx hSx kont
    refine lp ?_ ?_
    · rintro ll M1 ⟨rfl, h1, h2⟩
      have hS := hSx.then h1 rfl
      refine g3 hC rfl rfl ?_
      refine g0 hC rfl ?_
      refine g13g hC rfl (fun h134 => ?_) (fun h134 => (by omega))
      exact kont M1 h1 h2
    · rintro k hk ll M1 ⟨rfl, h1, h2⟩ hnext
      have hS := hSx.then h1 rfl
      refine g3 hC rfl rfl ?_
      refine g0 hC rfl ?_
      refine g13g hC rfl (fun h134 => (by omega)) (fun h134 => ?_)
      refine g3 hC rfl rfl ?_
      refine g19 hC rfl sh142 (flt12 rfl) ft12_54 ((hS.fix hw hF).g fx_142_54) ?_
      refine g3 hC rfl rfl ?_
      refine g0 hC rfl ?_
      refine r22 (k) hC rfl rfl sh185 (by omega) rfl ?_
      refine n1 hC rfl rfl ⟨by omega, by omega⟩ ?_
      refine g14 hC rfl ?_
      refine hnext _ _ ⟨rfl, h1.up rfl, fun j hj => ?_⟩
      by_cases z : j = k
      · rw [z, ax_up_at]
      · rw [ax_up_of z]; exact h2 j (by omega)
  have p185 : ∀ (Mx : ax_M), Sb XST M Mx → Mx 176 1 = (c : Int) → (∀ j, Mx 179 j = M 179 j) → (∀ j, j < 44 → Mx 185 j = 0) → (∀ M1, Sb ([(185, 186)], []) Mx M1 → (∀ k, k < 44 → M1 185 k = if 1 ≤ k ∧ k < 1 + c then M 179 (k - 1) else 0) → ax_G L X SH 0 181 162 [(2, 142), (0, (c : Int))] [] M1 (R0 P)) → ∀ (m k : Nat), k + m = c → ∀ ll M1, (ll = [(2, 142), (0, (k : Int))] ∧ Sb ([(185, 186)], []) Mx M1 ∧ ∀ j, j < 44 → M1 185 j = if 1 ≤ j ∧ j < 1 + k then M 179 (j - 1) else 0) → ax_G L X SH 0 181 144 ll [] M1 (R0 P) := by
    intro Mx hSx e1 e9 e0 kont
    refine lp ?_ ?_
    · rintro ll M1 ⟨rfl, h1, h2⟩
      have hS := hSx.then h1 rfl
      have e1' := (h1 176 1 rfl).trans e1
      refine g3 hC rfl rfl ?_
      refine g3 hC rfl rfl ?_
      refine g19 hC rfl sh142 (flt12 rfl) ft12_42 ((hS.fix hw hF).g fx_142_42) ?_
      refine g0 hC rfl ?_
      refine r21 (1) hC rfl rfl sh176 (Or.inl rfl) (by decide) e1' ?_
      refine g13g hC rfl (fun h149 => ?_) (fun h149 => (by omega))
      exact kont M1 h1 h2
    · rintro k hk ll M1 ⟨rfl, h1, h2⟩ hnext
      have hS := hSx.then h1 rfl
      have e1' := (h1 176 1 rfl).trans e1
      have e9' : M1 179 k = M 179 k := (h1 179 k rfl).trans (e9 k)
      refine g3 hC rfl rfl ?_
      refine g3 hC rfl rfl ?_
      refine g19 hC rfl sh142 (flt12 rfl) ft12_42 ((hS.fix hw hF).g fx_142_42) ?_
      refine g0 hC rfl ?_
      refine r21 (1) hC rfl rfl sh176 (Or.inl rfl) (by decide) e1' ?_
      refine g13g hC rfl (fun h149 => (by omega)) (fun h149 => ?_)
      refine g3 hC rfl rfl ?_
      refine g19 hC rfl sh142 (flt12 rfl) ft12_54 ((hS.fix hw hF).g fx_142_54) ?_
      refine g0 hC rfl ?_
      refine g3 hC rfl rfl ?_
      refine g6a hC rfl ⟨by omega, by omega⟩ ?_
      refine g3 hC rfl rfl ?_
      refine g19 hC rfl sh142 (flt12 rfl) ft12_45 ((hS.fix hw hF).g fx_142_45) ?_
      refine g3 hC rfl rfl ?_
      refine r21 (k) hC rfl rfl sh179 (Or.inl rfl) (by omega) e9' ?_
      refine r22 (1 + k) hC rfl (by omega) sh185 (by omega) rfl ?_
      refine n1 hC rfl rfl ⟨by omega, by omega⟩ ?_
      refine g14 hC rfl ?_
      refine hnext _ _ ⟨rfl, h1.up rfl, fun j hj => ?_⟩
      by_cases z : j = 1 + k
      · rw [z, ax_up_at, if_pos (by omega)]
        congr 1; omega
      · rw [ax_up_of z, h2 j hj]
        by_cases y : 1 ≤ j ∧ j < 1 + k
        · rw [if_pos y, if_pos (by omega)]
        · rw [if_neg y, if_neg (by omega)]
  have hS0 : Sb XST M M := Sb.refl
  refine g0 hC rfl ?_
  refine s1 hC rfl rfl rfl ?_
  refine cp176 M hS0 (fun A1 k1 => ?_) 4 0 rfl _ _ ⟨rfl, Cp.z⟩
  have hS1 := hS0.then k1.1 rfl
  refine g0 hC rfl ?_
  refine s1 hC rfl rfl rfl ?_
  refine cp177 A1 hS1 (fun A2 k2 => ?_) 24 0 rfl _ _ ⟨rfl, Cp.z⟩
  have hS2 := hS1.then k2.1 rfl
  refine g0 hC rfl ?_
  refine s1 hC rfl rfl rfl ?_
  refine cp178 A2 hS2 (fun A3 k3 => ?_) 30 0 rfl _ _ ⟨rfl, Cp.z⟩
  have hS3 := hS2.then k3.1 rfl
  refine g0 hC rfl ?_
  refine s1 hC rfl rfl rfl ?_
  refine cp180 A3 hS3 (fun A4 k4 => ?_) 32 0 rfl _ _ ⟨rfl, Cp.z⟩
  have hS4 := hS3.then k4.1 rfl
  refine g0 hC rfl ?_
  refine s1 hC rfl rfl rfl ?_
  refine cp181 A4 hS4 (fun A5 k5 => ?_) 3 0 rfl _ _ ⟨rfl, Cp.z⟩
  have hS5 := hS4.then k5.1 rfl
  refine g0 hC rfl ?_
  refine s1 hC rfl rfl rfl ?_
  refine cp182 A5 hS5 (fun A6 A7 k6 k7 => ?_)
  have hS6 := hS5.then k6.1 rfl
  have hS7 := hS6.then k7.1 rfl
  refine g0 hC rfl ?_
  refine s1 hC rfl rfl rfl ?_
  refine cp184 A7 hS7 (fun A8 k8 => ?_) d 0 (Nat.zero_add _) _ _ ⟨rfl, Cp.z⟩
  have hS8 := hS7.then k8.1 rfl
  refine g0 hC rfl ?_
  refine s1 hC rfl rfl rfl ?_
  refine z185 A8 hS8 (fun A9 k9 z9 => ?_) 44 0 rfl _ _ ⟨rfl, Sb.refl, fun j hj => absurd hj (Nat.not_lt_zero j)⟩
  have hS9 := hS8.then k9 rfl
  refine g0 hC rfl ?_
  refine s1 hC rfl rfl rfl ?_
  have q1 : Sb ([(177, 179), (180, 186)], []) A1 A9 := ((((((((Sb.refl.then k2.1 rfl).then k3.1 rfl).then k4.1 rfl).then k5.1 rfl).then k6.1 rfl).then k7.1 rfl).then k8.1 rfl).then k9 rfl)
  have e61 : A9 176 1 = (c : Int) := (q1 176 1 rfl).trans ((k1.2.1 1 (by decide)).trans hc)
  refine p185 A9 hS9 e61 (fun j => hS9 179 j rfl) z9 (fun B k10 z10 => ?_) c 0 (Nat.zero_add _) _ _ ⟨rfl, Sb.refl, fun j hj => by rw [z9 j hj, if_neg (by omega)]⟩
  have hS10 := hS9.then k10 rfl
  refine g3 hC rfl rfl ?_
  refine g0 hC rfl ?_
  refine g20 hC rfl sh142 (flt12 rfl) (by rw [fy12_82]; rfl) ?_
  refine g3 hC rfl rfl ?_
  refine g0 hC rfl ?_
  refine g20 hC rfl sh142 (flt12 rfl) (by rw [fy12_76]; rfl) ?_
  refine ret0 hC rfl ?_
  rw [hP]
  obtain ⟨M', hM⟩ : ∃ M', M' = ax_up (ax_up B 142 82 0) 142 76 0 := ⟨_, rfl⟩
  rw [← hM]
  have k11 : Sb ([], [(142, 82), (142, 76)]) B M' := by rw [hM]; exact (Sb.refl.up rfl).up rfl
  have r8 : Sb ([(185, 186)], [(142, 82), (142, 76)]) A8 M' := ((Sb.refl.then k9 rfl).then k10 rfl).then k11 rfl
  have r7 : Sb ([(184, 186)], [(142, 82), (142, 76)]) A7 M' := (Sb.refl.then k8.1 rfl).then r8 rfl
  have r6 : Sb ([(183, 186)], [(142, 82), (142, 76)]) A6 M' := (Sb.refl.then k7.1 rfl).then r7 rfl
  have r5 : Sb ([(182, 186)], [(142, 82), (142, 76)]) A5 M' := (Sb.refl.then k6.1 rfl).then r6 rfl
  have r4 : Sb ([(181, 186)], [(142, 82), (142, 76)]) A4 M' := (Sb.refl.then k5.1 rfl).then r5 rfl
  have r3 : Sb ([(180, 186)], [(142, 82), (142, 76)]) A3 M' := (Sb.refl.then k4.1 rfl).then r4 rfl
  have r2 : Sb ([(178, 179), (180, 186)], [(142, 82), (142, 76)]) A2 M' := (Sb.refl.then k3.1 rfl).then r3 rfl
  have r1 : Sb ([(177, 179), (180, 186)], [(142, 82), (142, 76)]) A1 M' := (Sb.refl.then k2.1 rfl).then r2 rfl
  have p1 : Sb ([(176, 177)], []) M A1 := k1.1
  have p2 : Sb ([(176, 178)], []) M A2 := (Sb.refl.then k1.1 rfl).then k2.1 rfl
  have p3 : Sb ([(176, 179)], []) M A3 := (Sb.refl.then p2 rfl).then k3.1 rfl
  have p4 : Sb ([(176, 179), (180, 181)], []) M A4 := (Sb.refl.then p3 rfl).then k4.1 rfl
  have p5 : Sb ([(176, 179), (180, 182)], []) M A5 := (Sb.refl.then p4 rfl).then k5.1 rfl
  have p6 : Sb ([(176, 179), (180, 183)], []) M A6 := (Sb.refl.then p5 rfl).then k6.1 rfl
  have p7 : Sb ([(176, 179), (180, 184)], []) M A7 := (Sb.refl.then p6 rfl).then k7.1 rfl
  refine ⟨hS10.then k11 rfl, fun k hk => ?_, fun k hk => ?_, fun k hk => ?_, fun k hk => ?_, fun k hk => ?_, fun k hk => ⟨?_, ?_⟩, fun k hk => ?_, fun k hk => ?_, ?_, ?_⟩
  · rw [r1 _ _ rfl]; exact k1.2.2 k hk
  · rw [r2 _ _ rfl, k2.2.2 k hk]; exact p1 _ _ rfl
  · rw [r3 _ _ rfl, k3.2.2 k hk]; exact p2 _ _ rfl
  · rw [r4 _ _ rfl, k4.2.2 k hk]; exact p3 _ _ rfl
  · rw [r5 _ _ rfl, k5.2.2 k hk]; exact p4 _ _ rfl
  · rw [r6 _ _ rfl, k6.2.2 k hk]; exact p5 _ _ rfl
  · rw [r7 _ _ rfl, k7.2.2 k hk]; exact p6 _ _ rfl
  · rw [r8 _ _ rfl, k8.2.2 k hk]; exact p7 _ _ rfl
  · rw [k11 _ _ rfl]; exact z10 k hk
  · rw [hM, ax_up_of (by decide), ax_up_at]
  · rw [hM, ax_up_at]
end RSD
