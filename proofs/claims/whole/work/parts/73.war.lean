def pcn (s : Nat) : Nat := s % 2 + s / 2 % 2 + s / 4 % 2 + s / 8 % 2 + s / 16 % 2 + s / 32 % 2 + s / 64 % 2 + s / 128 % 2
def i32a (x y : Int) : Int := (Int32.ofInt x &&& Int32.ofInt y).toInt
def i32u (x y : Int) : Int := ((Int32.ofInt x).toUInt32 >>> ((Int32.ofInt y).toUInt32 &&& Int32.toUInt32 31)).toInt32.toInt
def bc1 (x : Int) : Int := x - i32a (i32u x 1) 1431655765
def bc2 (x : Int) : Int := i32a (bc1 x) 858993459 + i32a (i32u (bc1 x) 2) 858993459
def bc3 (x : Int) : Int := bc2 x + i32u (bc2 x) 4
def bc4 (x : Int) : Int := i32a (bc3 x) 252645135 + i32u (i32a (bc3 x) 252645135) 8
def bc5 (x : Int) : Int := bc4 x + i32u (bc4 x) 16
theorem bc_all : ∀ s : Nat, s < 256 → (-1000 ≤ bc1 s ∧ bc1 s ≤ 1000) ∧ (-1000 ≤ bc2 s ∧ bc2 s ≤ 1000) ∧ (-1000 ≤ bc3 s ∧ bc3 s ≤ 1000) ∧ (-1000 ≤ bc4 s ∧ bc4 s ≤ 1000) ∧ (-1000 ≤ bc5 s ∧ bc5 s ≤ 1000) ∧ i32a (bc5 s) 63 = (pcn s : Int) := by decide +kernel
theorem pcn_s : ∀ s, s < 256 → s ≠ 0 → pcn s = pcn (s &&& (s - 1)) + 1 ∧ s &&& (s - 1) < s := by decide +kernel
theorem tch : ∀ a, a < 8 → ∀ b, b < 8 → ∀ r, r < 256 → ((r &&& (1 <<< a ||| 1 <<< b)) = 0 ↔ (r >>> a &&& 1 = 0 ∧ r >>> b &&& 1 = 0)) := by decide +kernel
theorem tfull : ∀ R, R < 9 → ∀ a, a < R → ((1 <<< R - 1) >>> a &&& 1) ≠ 0 := by decide +kernel
theorem shb : ∀ a, a < 8 → 1 <<< a < 256 := by decide +kernel
theorem shR : ∀ R, R < 9 → 1 ≤ 1 <<< R ∧ 1 <<< R ≤ 256 := by decide +kernel
abbrev Tch (V : ax_M) (h r : Nat) : Prop := ∀ s, s < nS V h → V 47 s = 0 → ¬ (r >>> sa V h s &&& 1 = 0 ∧ r >>> sb V h s &&& 1 = 0)
def lex (x s : Nat) : Prop := pcn x < pcn s ∨ (pcn x = pcn s ∧ x ≤ s)
def isWr (V : ax_M) (h x : Nat) : Prop := x < 1 <<< nR V h ∧ Tch V h x ∧ ∀ s, s < 1 <<< nR V h → Tch V h s → lex x s
theorem isW_u {V : ax_M} {h x y : Nat} (hx : isWr V h x) (hy : isWr V h y) : x = y := by
  have h1 := hx.2.2 y hy.1 hy.2.1
  have h2 := hy.2.2 x hx.1 hx.2.1
  unfold lex at h1 h2; omega
section WAR
variable {L : Nat} {X : Nat → Int} {M V : ax_M} {h n : Nat}
theorem m301 {s : Nat} (hs : s < 256) : ax_Ev L X SH 0 301 [(0, (s : Int))] M (R1 0 (fun x M' => x = (pcn s : Int) ∧ M' = M)) := by
  show ax_G L X SH 0 301 0 [(0, (s : Int))] [] M _
  have hC := at301
  obtain ⟨b1, b2, b3, b4, b5, b6⟩ := bc_all s hs
  have c1 : ax_i (bc1 s) := ⟨by omega, by omega⟩
  have c2 : ax_i (bc2 s) := ⟨by omega, by omega⟩
  have c3 : ax_i (bc3 s) := ⟨by omega, by omega⟩
  have c4 : ax_i (bc4 s) := ⟨by omega, by omega⟩
  have c5 : ax_i (bc5 s) := ⟨by omega, by omega⟩
  refine g3 hC rfl rfl ?_
  refine g3 hC rfl rfl ?_
  refine g0 hC rfl ?_
  refine g6 hC rfl rfl ?_
  refine g0 hC rfl ?_
  refine g6 hC rfl rfl ?_
  refine g6s hC rfl c1 ?_
  refine s0 hC rfl rfl ?_
  refine g3 hC rfl rfl ?_
  refine g0 hC rfl ?_
  refine g6 hC rfl rfl ?_
  refine g3 hC rfl rfl ?_
  refine g0 hC rfl ?_
  refine g6 hC rfl rfl ?_
  refine g0 hC rfl ?_
  refine g6 hC rfl rfl ?_
  refine g6a hC rfl c2 ?_
  refine s0 hC rfl rfl ?_
  refine g3 hC rfl rfl ?_
  refine g3 hC rfl rfl ?_
  refine g0 hC rfl ?_
  refine g6 hC rfl rfl ?_
  refine g6a hC rfl c3 ?_
  refine g0 hC rfl ?_
  refine g6 hC rfl rfl ?_
  refine s0 hC rfl rfl ?_
  refine g3 hC rfl rfl ?_
  refine g3 hC rfl rfl ?_
  refine g0 hC rfl ?_
  refine g6 hC rfl rfl ?_
  refine g6a hC rfl c4 ?_
  refine s0 hC rfl rfl ?_
  refine g3 hC rfl rfl ?_
  refine g3 hC rfl rfl ?_
  refine g0 hC rfl ?_
  refine g6 hC rfl rfl ?_
  refine g6a hC rfl c5 ?_
  refine s0 hC rfl rfl ?_
  refine g3 hC rfl rfl ?_
  refine g0 hC rfl ?_
  refine g6 hC rfl rfl ?_
  refine ret1 hC rfl rfl ?_
  exact ⟨b6, rfl⟩
theorem m144 (hF : Fix M) (hh : h = 9 ∨ h = 27) (hV : HV V h M) (hW : HW V h) (hH3 : M 0 3 = (h : Int)) {r : Nat} (hr0 : r < 256) : ax_Ev L X SH 0 144 [(2, 0), (0, (r : Int))] M (R1 0 (fun x M' => ((x = 1 ∧ Tch V h r) ∨ (x = 0 ∧ ¬ Tch V h r)) ∧ M' = M)) := by
  show ax_G L X SH 0 144 0 [(2, 0), (0, (r : Int)), (3, 0), (3, 0)] [] M _
  have hC := at144
  have hw := wX0
  have hwh : hok X0 h := hokB (by decide +kernel) hh
  have hb := hW.1.2.1.2
  have hbR := hW.1.1.2
  have l1 : ∀ (m k : Nat), k + m = nS V h → ∀ ll M1, (∃ v, ll = [(2, 0), (0, (r : Int)), (0, (k : Int)), v] ∧ M1 = M ∧ ∀ s, s < k → V 47 s = 0 → ¬ (r >>> sa V h s &&& 1 = 0 ∧ r >>> sb V h s &&& 1 = 0)) → ax_G L X SH 0 144 2 ll [] M1 (R1 0 (fun x M' => ((x = 1 ∧ Tch V h r) ∨ (x = 0 ∧ ¬ Tch V h r)) ∧ M' = M)) := by
    refine lp ?_ ?_
    · rintro ll M1 ⟨v, rfl, rfl, e1⟩
      have hS : Sb X0 M1 M1 := Sb.refl
      refine g3 hC rfl rfl ?_
      refine g3 hC rfl rfl ?_
      refine g19 hC rfl rfl (Nat.le_of_ble_eq_true rfl) rfl ((hS _ _ rfl).trans hH3) ?_
      refine g19 hC rfl (shH hh) (Nat.le_of_ble_eq_true rfl) rfl (rd1 hS hwh hV hW) ?_
      refine g13g hC rfl (fun h6 => ?_) (fun h6 => (by omega))
      refine g0 hC rfl ?_
      refine ret3 hC rfl ⟨by omega, by omega⟩ ?_
      exact ⟨Or.inl ⟨rfl, e1⟩, rfl⟩
    · rintro k hk ll M1 ⟨v, rfl, rfl, e1⟩ hnext
      have hS : Sb X0 M1 M1 := Sb.refl
      have hs := hW.2.1 k hk
      have t := tch (sa V h k) (by omega) (sb V h k) (by omega) r hr0
      have u1 := shb (sa V h k) (by omega)
      have u2 := shb (sb V h k) (by omega)
      have u3 : 1 <<< sa V h k ||| 1 <<< sb V h k < 256 := Nat.or_lt_two_pow (n := 8) u1 u2
      have nxD : ∀ v, (V 47 k = 0 → ¬ (r >>> sa V h k &&& 1 = 0 ∧ r >>> sb V h k &&& 1 = 0)) → ax_G L X SH 0 144 2 [(2, 0), (0, (r : Int)), (0, (k : Int) + 1), v] [] M1 (R1 0 (fun x M' => ((x = 1 ∧ Tch V h r) ∨ (x = 0 ∧ ¬ Tch V h r)) ∧ M' = M1)) := by
        intro v hv
        refine hnext _ _ ⟨v, rfl, rfl, fun s hs => ?_⟩
        by_cases z : s = k
        · rw [z]; exact hv
        · exact e1 s (by omega)
      refine g3 hC rfl rfl ?_
      refine g3 hC rfl rfl ?_
      refine g19 hC rfl rfl (Nat.le_of_ble_eq_true rfl) rfl ((hS _ _ rfl).trans hH3) ?_
      refine g19 hC rfl (shH hh) (Nat.le_of_ble_eq_true rfl) rfl (rd1 hS hwh hV hW) ?_
      refine g13g hC rfl (fun h6 => (by omega)) (fun h6 => ?_)
      refine g0 hC rfl ?_
      refine g3 hC rfl rfl ?_
      refine g19 hC rfl rfl (Nat.le_of_ble_eq_true rfl) rfl ((hS _ _ rfl).trans hH3) ?_
      refine g19 hC rfl (shH hh) (Nat.le_of_ble_eq_true rfl) rfl ((hS.fix hw hF).h (v := 4) hh rfl rfl) ?_
      refine g3 hC rfl rfl ?_
      refine r21 (k) hC rfl (by omega) (shA (v := 4) hh rfl rfl) (Or.inl rfl) (by omega) (rdA hS hwh hV hW (by omega)) ?_
      refine g6 hC rfl (congrArg some (shlN (a := 1) (k := sa V h k) (by omega) (by omega))) ?_
      refine g0 hC rfl ?_
      refine g3 hC rfl rfl ?_
      refine g19 hC rfl rfl (Nat.le_of_ble_eq_true rfl) rfl ((hS _ _ rfl).trans hH3) ?_
      refine g19 hC rfl (shH hh) (Nat.le_of_ble_eq_true rfl) rfl ((hS.fix hw hF).h (v := 5) hh rfl rfl) ?_
      refine g3 hC rfl rfl ?_
      refine r21 (k) hC rfl (by omega) (shA (v := 5) hh rfl rfl) (Or.inl rfl) (by omega) (rdB hS hwh hV hW (by omega)) ?_
      refine g6 hC rfl (congrArg some (shlN (a := 1) (k := sb V h k) (by omega) (by omega))) ?_
      refine g6 hC rfl (congrArg some (orN (by omega) (by omega))) ?_
      refine s3 hC rfl rfl rfl ?_
      refine g3 hC rfl rfl ?_
      refine g19 hC rfl rfl (Nat.le_of_ble_eq_true rfl) rfl ((hS.fix hw hF).g rfl) ?_
      refine g19 hC rfl rfl (Nat.le_of_ble_eq_true rfl) rfl ((hS.fix hw hF).g rfl) ?_
      refine g3 hC rfl rfl ?_
      refine r21 (k) hC rfl (by omega) rfl (Or.inl rfl) (by omega) ((hS _ _ rfl).trans (hV.2 _).2.2.1) ?_
      refine g12n hC rfl (fun h28 => ?_) (fun h28 => ?_)
      ·
        refine n2 hC rfl rfl ⟨by omega, by omega⟩ ?_
        refine g14 hC rfl ?_
        exact nxD _ (fun z => absurd z h28)
      ·
        refine g3 hC rfl rfl ?_
        refine g3 hC rfl rfl ?_
        refine g6 hC rfl (congrArg some (andN (a := r) (b := 1 <<< sa V h k ||| 1 <<< sb V h k) (by omega))) ?_
        refine g12n hC rfl (fun h32 => ?_) (fun h32 => ?_)
        ·
          refine n2 hC rfl rfl ⟨by omega, by omega⟩ ?_
          refine g14 hC rfl ?_
          exact nxD _ (fun _ w => h32 (by rw [t.2 w]; rfl))
        ·
          refine g0 hC rfl ?_
          refine ret3 hC rfl ⟨by omega, by omega⟩ ?_
          refine ⟨Or.inr ⟨rfl, fun w => w k hk (by omega) (t.1 ?_)⟩, rfl⟩
          exact Int.ofNat_eq_zero.mp (by omega)
  refine g0 hC rfl ?_
  refine s2 hC rfl rfl rfl ?_
  exact l1 (nS V h) 0 (Nat.zero_add _) _ _ ⟨_, rfl, rfl, fun s hs => absurd hs (Nat.not_lt_zero s)⟩
theorem m119 (hF : Fix M) (hh : h = 9 ∨ h = 27) (hG : GG n h M) : ax_Ev L X SH 1 119 [(2, 0)] M (R1 0 (fun x M' => (∃ r : Nat, x = (r : Int) ∧ isWr M h r) ∧ M' = M)) := by
  show ax_G L X SH 1 119 0 [(2, 0), (3, 0), (3, 0)] [] M _
  have hC := at119
  have hw := wX0
  have hwh : hok X0 h := hokB (by decide +kernel) hh
  have hS : Sb X0 M M := Sb.refl
  have hV : HV M h M := HV.refl
  have hW := hG.1
  have hH3 : M 0 3 = (h : Int) := hG.2.2.2.2.2.2.2.2.2.1.1
  have hbR := hW.1.1.2
  have hR := shR (nR M h) (by omega)
  have hfull : Tch M h (1 <<< nR M h - 1) := by
    intro s hs _ w
    exact tfull (nR M h) (by omega) (sa M h s) (hW.2.1 s hs).1.2 w.1
  obtain ⟨N, hN⟩ : ∃ N, N = 1 <<< nR M h := ⟨_, rfl⟩
  rw [← hN] at hR hfull
  have l1 : ∀ (m k : Nat), k + m = N → ∀ ll M1, (∃ b : Nat, ll = [(2, 0), (0, (b : Int)), (0, (N : Int) - 1 - (k : Int))] ∧ M1 = M ∧ b < N ∧ Tch M h b ∧ ∀ s, N - k ≤ s → s < N → Tch M h s → lex b s) → ax_G L X SH 1 119 10 ll [] M1 (R1 0 (fun x M' => (∃ r : Nat, x = (r : Int) ∧ isWr M h r) ∧ M' = M)) := by
    refine lp ?_ ?_
    · rintro ll M1 ⟨b, rfl, rfl, e1, e2, e3⟩
      refine g3 hC rfl rfl ?_
      refine g12l hC rfl (fun h11 => ?_) (fun h11 => (by omega))
      refine g3 hC rfl rfl ?_
      refine ret1 hC rfl rfl ?_
      exact ⟨⟨b, rfl, by rw [← hN]; exact e1, e2, fun s hs ht => e3 s (by omega) (by rw [← hN] at hs; exact hs) ht⟩, rfl⟩
    · rintro k hk ll M1 ⟨b, rfl, rfl, e1, e2, e3⟩ hnext
      have ek : (N : Int) - 1 - (k : Int) = ((N - 1 - k : Nat) : Int) := by omega
      rw [ek]
      obtain ⟨r, hr⟩ : ∃ r, r = N - 1 - k := ⟨_, rfl⟩
      rw [← hr]
      have ek2 : (r : Int) + -1 = (N : Int) - 1 - ((k + 1 : Nat) : Int) := by omega
      have keep : ¬ (pcn r ≤ pcn b ∧ Tch M1 h r) → ax_G L X SH 1 119 10 [(2, 0), (0, (b : Int)), (0, (r : Int) + -1)] [] M1 (R1 0 (fun x M' => (∃ r : Nat, x = (r : Int) ∧ isWr M1 h r) ∧ M' = M1)) := by
        intro hno
        refine hnext _ _ ⟨b, by rw [ek2], rfl, e1, e2, fun s h1 h2 ht => ?_⟩
        by_cases z : s = r
        · rw [z] at ht ⊢
          unfold lex
          by_cases y : pcn r ≤ pcn b
          · exact absurd ⟨y, ht⟩ hno
          · omega
        · exact e3 s (by omega) h2 ht
      refine g3 hC rfl rfl ?_
      refine g12l hC rfl (fun h11 => (by omega)) (fun h11 => ?_)
      refine g3 hC rfl rfl ?_
      refine c1 hC rfl rfl rfl (Nat.le_of_ble_eq_true rfl) (Nat.le_of_ble_eq_true rfl) rfl (m301 (by omega)) (Nat.le_of_ble_eq_true rfl) (fun x M2 hr => ?_)
      obtain ⟨rfl, hr⟩ := hr
      replace hr := hr.symm
      subst hr
      refine g3 hC rfl rfl ?_
      refine c1 hC rfl rfl rfl (Nat.le_of_ble_eq_true rfl) (Nat.le_of_ble_eq_true rfl) rfl (m301 (by omega)) (Nat.le_of_ble_eq_true rfl) (fun x M2 hr => ?_)
      obtain ⟨rfl, hr⟩ := hr
      replace hr := hr.symm
      subst hr
      refine g13t hC rfl (fun h16 => ?_) (fun h16 => ?_)
      ·
        refine n2 hC rfl rfl ⟨by omega, by omega⟩ ?_
        refine g14 hC rfl ?_
        exact keep (fun w => by omega)
      ·
        refine g3 hC rfl rfl ?_
        refine g3 hC rfl rfl ?_
        refine c1 hC rfl rfl rfl (Nat.le_of_ble_eq_true rfl) (Nat.le_of_ble_eq_true rfl) rfl (m144 hF hh hV hW hH3 (r := r) (by omega)) (Nat.le_of_ble_eq_true rfl) (fun x M2 hrr => ?_)
        obtain ⟨hx, hrr⟩ := hrr; replace hrr := hrr.symm; subst hrr
        refine g12e hC rfl (fun h20 => ?_) (fun h20 => ?_)
        ·
          refine n2 hC rfl rfl ⟨by omega, by omega⟩ ?_
          refine g14 hC rfl ?_
          refine keep (fun w => ?_)
          rcases hx with y | y
          · omega
          · exact y.2 w.2
        ·
          refine g3 hC rfl rfl ?_
          refine s1 hC rfl rfl rfl ?_
          refine n2 hC rfl rfl ⟨by omega, by omega⟩ ?_
          refine g14 hC rfl ?_
          have ht : Tch M1 h r := by
            rcases hx with y | y
            · exact y.2
            · omega
          refine hnext _ _ ⟨r, by rw [ek2], rfl, by omega, ht, fun s h1 h2 hs => ?_⟩
          by_cases z : s = r
          · rw [z]; exact Or.inr ⟨rfl, Nat.le_refl _⟩
          · have := e3 s (by omega) h2 hs
            unfold lex at this ⊢; omega
  refine g0 hC rfl ?_
  refine g3 hC rfl rfl ?_
  refine g19 hC rfl rfl (Nat.le_of_ble_eq_true rfl) rfl ((hS _ _ rfl).trans hH3) ?_
  refine g19 hC rfl (shH hh) (Nat.le_of_ble_eq_true rfl) rfl (rd0 hS hwh hV hW) ?_
  refine g6 hC rfl (congrArg some (shlN (a := 1) (k := nR M h) (by omega) (by omega))) ?_
  rw [← hN]
  refine g0 hC rfl ?_
  refine g6s hC rfl ⟨by omega, by omega⟩ ?_
  refine s1 hC rfl rfl rfl ?_
  refine g3 hC rfl rfl ?_
  refine s2 hC rfl rfl rfl ?_
  refine l1 N 0 (Nat.zero_add _) _ _ ⟨N - 1, ?_, rfl, by omega, hfull, fun s h1 h2 => by omega⟩
  rw [show (N : Int) - 1 = ((N - 1 : Nat) : Int) by omega, show ((N - 1 : Nat) : Int) - ((0 : Nat) : Int) = ((N - 1 : Nat) : Int) by omega]
end WAR
