def W75 : ax_W := ([(139, 140)], [])
def W134 : ax_W := ([(139, 140)], [(0, 14)])
def X293 : ax_W := ([(231, 232)], [(142, 120)])
def WXI : ax_W := ([(139, 140), (231, 232)], [(0, 14), (142, 120)])
def ap (v : Int) (x : (Nat → Int) × Nat) : (Nat → Int) × Nat := (up x.1 x.2 v, x.2 + 1)
def im2 (v : Nat) (x : (Nat → Int) × Nat) : (Nat → Int) × Nat := ap ((v % 256 : Nat) : Int) (ap ((v / 256 : Nat) : Int) x)
def imP (V : ax_M) (m : Nat) (x : (Nat → Int) × Nat) : (Nat → Int) × Nat := it (fun k x => ap (V 46 k) x) m x
def imS (V : ax_M) (m : Nat) (x : (Nat → Int) × Nat) : (Nat → Int) × Nat := it (fun k x => ap (V 47 k) x) m x
def imR (V : ax_M) (a m : Nat) (x : (Nat → Int) × Nat) : (Nat → Int) × Nat := it (fun k x => im2 (V 48 (pO a (a + 1 + k))).toNat x) m x
def imC (V : ax_M) (c m : Nat) (x : (Nat → Int) × Nat) : (Nat → Int) × Nat := it (fun a x => imR V a (c - 1 - a) x) m x
def imA (V : ax_M) (h : Nat) (f : Nat → Int) : (Nat → Int) × Nat := imC V (nC V h) (nC V h) (imS V (nS V h) (imP V (nQ V h) (im2 (V 45 0).toNat (f, 0))))
def chk (f : Nat → Int) (n : Nat) : Nat := it (fun k c => (3 * c + (f k).toNat) % 251) n 107
theorem chk_b {f : Nat → Int} : ∀ n, chk f n < 251 := by
  intro n
  cases n with
  | zero => show 107 < 251; decide
  | succ n => exact Nat.mod_lt _ (by decide)
theorem chk_c {f g : Nat → Int} : ∀ n, (∀ k, k < n → f k = g k) → chk f n = chk g n := by
  intro n
  induction n with
  | zero => intro _; rfl
  | succ n ih =>
    intro hf
    have e : ∀ f : Nat → Int, chk f (n + 1) = (3 * chk f n + (f n).toNat) % 251 := fun _ => rfl
    rw [e, e, ih (fun k hk => hf k (by omega)), hf n (by omega)]
def imA2 (V : ax_M) (h : Nat) (f : Nat → Int) : (Nat → Int) × Nat := ap (chk (imA V h f).1 (imA V h f).2 : Nat) (imA V h f)
def cntP (c a : Nat) : Nat := it (fun a' s => s + (c - 1 - a')) a 0
theorem cntP_b : ∀ c, c < 9 → ∀ a, a < c → cntP c a + (c - 1 - a) ≤ 28 := by decide +kernel
theorem cntP_c : ∀ c, c < 9 → 2 * cntP c c = c * (c - 1) ∧ cntP c c ≤ 28 := by decide +kernel
theorem imR_n {V : ax_M} {a : Nat} {x : (Nat → Int) × Nat} : ∀ m, (imR V a m x).2 = x.2 + 2 * m := by
  intro m
  induction m with
  | zero => rfl
  | succ m ih => show (imR V a m x).2 + 1 + 1 = _; rw [ih]; omega
theorem imP_n {V : ax_M} {x : (Nat → Int) × Nat} : ∀ m, (imP V m x).2 = x.2 + m := by
  intro m
  induction m with
  | zero => rfl
  | succ m ih => show (imP V m x).2 + 1 = _; rw [ih]; omega
theorem imS_n {V : ax_M} {x : (Nat → Int) × Nat} : ∀ m, (imS V m x).2 = x.2 + m := by
  intro m
  induction m with
  | zero => rfl
  | succ m ih => show (imS V m x).2 + 1 = _; rw [ih]; omega
theorem imC_n {V : ax_M} {c : Nat} {x : (Nat → Int) × Nat} : ∀ m, (imC V c m x).2 = x.2 + 2 * cntP c m := by
  intro m
  induction m with
  | zero => rfl
  | succ m ih => show (imR V m (c - 1 - m) (imC V c m x)).2 = _; rw [imR_n, ih]; show _ = x.2 + 2 * (cntP c m + (c - 1 - m)); omega
def agr (x y : (Nat → Int) × Nat) : Prop := x.2 = y.2 ∧ ∀ k, k < x.2 → x.1 k = y.1 k
theorem agr.ap {x y : (Nat → Int) × Nat} (h : agr x y) {v : Int} : agr (ap v x) (ap v y) := by
  refine ⟨?_, fun k hk => ?_⟩
  · show x.2 + 1 = y.2 + 1; rw [h.1]
  · show up x.1 x.2 v k = up y.1 y.2 v k
    unfold up
    rw [h.1]
    split
    · rfl
    · rename_i z; exact h.2 k (by have : k < x.2 + 1 := hk; rw [← h.1] at z; omega)
theorem agr.im2 {x y : (Nat → Int) × Nat} (h : agr x y) {v : Nat} : agr (im2 v x) (im2 v y) := h.ap.ap
theorem agr.it {x y : (Nat → Int) × Nat} (h : agr x y) {F : Nat → (Nat → Int) × Nat → (Nat → Int) × Nat} (hF : ∀ k x y, agr x y → agr (F k x) (F k y)) : ∀ m, agr (it F m x) (it F m y) := by
  intro m
  induction m with
  | zero => exact h
  | succ m ih => exact hF m _ _ ih
theorem imA_agr {V : ax_M} {h : Nat} {f g : Nat → Int} : agr (imA2 V h f) (imA2 V h g) := by
  have h0 : agr (imA V h f) (imA V h g) := by
    unfold imA imC imS imP
    refine agr.it (agr.it (agr.it (agr.im2 (x := (f, 0)) (y := (g, 0)) ⟨rfl, fun k (hk : k < 0) => absurd hk (Nat.not_lt_zero k)⟩) ?_ _) ?_ _) ?_ _
    · exact fun k x y h => h.ap
    · exact fun k x y h => h.ap
    · intro a x y h1
      exact agr.it (F := fun k x => im2 (V 48 (pO a (a + 1 + k))).toNat x) h1 (fun k x y h2 => h2.im2) (nC V h - 1 - a)
  unfold imA2
  rw [h0.1, chk_c _ (fun k hk => h0.2 k (by rw [h0.1]; exact hk))]
  exact h0.ap
theorem imA_len {V : ax_M} {h : Nat} {f : Nat → Int} (hW : HW V h) : (imA V h f).2 = 2 + nQ V h + nS V h + nC V h * (nC V h - 1) ∧ (imA V h f).2 ≤ 73 := by
  have h1 := hW.1.1.2; have h2 := hW.1.2.1.2; have h3 := hW.1.2.2.1.2; have h4 := hW.1.2.2.2.2
  have := cntP_c (nC V h) (by omega)
  have e : (imA V h f).2 = 2 + nQ V h + nS V h + 2 * cntP (nC V h) (nC V h) := by
    unfold imA; rw [imC_n, imS_n, imP_n]; rfl
  omega
def byteB (x : (Nat → Int) × Nat) : Prop := ∀ k, k < x.2 → 0 ≤ x.1 k ∧ x.1 k ≤ 255
theorem byteB.ap {x : (Nat → Int) × Nat} (h : byteB x) {v : Int} (hv : 0 ≤ v ∧ v ≤ 255) : byteB (ap v x) := by
  intro k hk
  show 0 ≤ up x.1 x.2 v k ∧ up x.1 x.2 v k ≤ 255
  unfold up; split
  · exact hv
  · exact h k (by have : k < x.2 + 1 := hk; omega)
theorem byteB.im2 {x : (Nat → Int) × Nat} (h : byteB x) {v : Nat} (hv : v < 65536) : byteB (im2 v x) := (h.ap (by omega)).ap (by omega)
theorem byteB.it {x : (Nat → Int) × Nat} (h : byteB x) {F : Nat → (Nat → Int) × Nat → (Nat → Int) × Nat} {m : Nat} (hF : ∀ k x, k < m → byteB x → byteB (F k x)) : byteB (it F m x) := it_ind h (fun k y hk hy => hF k y hk hy)
theorem imA_byte {V : ax_M} {h : Nat} {f : Nat → Int} (hW : HW V h) (hSW : SW V) : byteB (imA V h f) := by
  have h2 := hW.1.2.1.2; have h3 := hW.1.2.2.1.2; have h4 := hW.1.2.2.2.2
  have h5 := hSW.1
  unfold imA imC imS imP
  refine byteB.it (byteB.it (byteB.it (byteB.im2 (x := (f, 0)) (fun k (hk : k < 0) => absurd hk (Nat.not_lt_zero k)) (by omega)) ?_) ?_) ?_
  · intro k x hk hb; have := hSW.2.1 k (by omega); exact hb.ap (by omega)
  · intro k x hk hb; have := hSW.2.2.1 k (by omega); exact hb.ap (by omega)
  · intro a x ha hb
    refine byteB.it hb (fun k x hk hb => hb.im2 ?_)
    have := hSW.2.2.2 _ (pO_lt (a := a) (b := a + 1 + k) (by omega) (by omega))
    omega
theorem sh8 {v : Nat} : v >>> 8 = v / 256 := by rw [Nat.shiftRight_eq_div_pow]
theorem an8 {v : Nat} : v &&& 255 = v % 256 := by
  have := Nat.and_two_pow_sub_one_eq_mod v 8
  simp only [Nat.reducePow, Nat.reduceSub] at this
  exact this
section IMG
variable {L : Nat} {X : Nat → Int} {M V : ax_M} {h n : Nat}
theorem m74 {c len n : Nat} (hc : SH[c]? = some (1, 0, len)) (hn : n ≤ len) (hn2 : n ≤ 100) (hb : ∀ k, k < n → 0 ≤ M c k ∧ M c k ≤ 255) : ax_Ev L X SH 0 74 [(2, (c : Int)), (0, (n : Int))] M (R1 0 (fun x M' => x = (chk (M c) n : Int) ∧ M' = M)) := by
  show ax_G L X SH 0 74 0 [(2, (c : Int)), (0, (n : Int)), (3, 0), (3, 0)] [] M _
  have hC := at74
  have l1 : ∀ (m k : Nat), k + m = n → ∀ ll M1, (ll = [(2, (c : Int)), (0, (n : Int)), (0, (chk (M c) k : Int)), (0, (k : Int))] ∧ M1 = M) → ax_G L X SH 0 74 4 ll [] M1 (R1 0 (fun x M' => x = (chk (M c) n : Int) ∧ M' = M)) := by
    refine lp ?_ ?_
    · rintro ll M1 ⟨rfl, rfl⟩
      refine g3 hC rfl rfl ?_
      refine g3 hC rfl rfl ?_
      refine g13g hC rfl (fun h6 => ?_) (fun h6 => (by omega))
      refine g3 hC rfl rfl ?_
      refine ret1 hC rfl rfl ?_
      exact ⟨rfl, rfl⟩
    · rintro k hk ll M1 ⟨rfl, rfl⟩ hnext
      have b1 := chk_b (f := M1 c) k
      have b2 := hb k hk
      have e : chk (M1 c) (k + 1) = (3 * chk (M1 c) k + (M1 c k).toNat) % 251 := rfl
      refine g3 hC rfl rfl ?_
      refine g3 hC rfl rfl ?_
      refine g13g hC rfl (fun h6 => (by omega)) (fun h6 => ?_)
      refine g0 hC rfl ?_
      refine g3 hC rfl rfl ?_
      refine g6m hC rfl ⟨by omega, by omega⟩ ?_
      refine g3 hC rfl rfl ?_
      refine g3 hC rfl rfl ?_
      refine r21 (k) hC rfl rfl hc (Or.inl rfl) (by omega) rfl ?_
      refine g6a hC rfl ⟨by omega, by omega⟩ ?_
      refine g0 hC rfl ?_
      refine g6rN (a := 3 * chk (M1 c) k + (M1 c k).toNat) (b := 251) hC rfl (by omega) rfl (by decide) (by omega) ?_
      refine s2 hC rfl rfl rfl ?_
      refine n3 hC rfl rfl ⟨by omega, by omega⟩ ?_
      refine g14 hC rfl ?_
      exact hnext _ _ ⟨by rw [e]; rfl, rfl⟩
  refine g0 hC rfl ?_
  refine s2 hC rfl rfl rfl ?_
  refine g0 hC rfl ?_
  refine s3 hC rfl rfl rfl ?_
  exact l1 n 0 (Nat.zero_add _) _ _ ⟨rfl, rfl⟩
theorem m292 {c len n : Nat} (hc : SH[c]? = some (1, 0, len)) (hn : n ≤ len) (hn2 : n ≤ 100) (hb : ∀ k, k < n → 0 ≤ M c k ∧ M c k ≤ 255) : ax_Ev L X SH 0 292 [(2, (c : Int)), (0, (n : Int))] M (R1 0 (fun x M' => x = (chk (M c) n : Int) ∧ M' = M)) := by
  show ax_G L X SH 0 292 0 [(2, (c : Int)), (0, (n : Int)), (3, 0), (3, 0)] [] M _
  have hC := at292
  have l1 : ∀ (m k : Nat), k + m = n → ∀ ll M1, (ll = [(2, (c : Int)), (0, (n : Int)), (0, (chk (M c) k : Int)), (0, (k : Int))] ∧ M1 = M) → ax_G L X SH 0 292 4 ll [] M1 (R1 0 (fun x M' => x = (chk (M c) n : Int) ∧ M' = M)) := by
    refine lp ?_ ?_
    · rintro ll M1 ⟨rfl, rfl⟩
      refine g3 hC rfl rfl ?_
      refine g3 hC rfl rfl ?_
      refine g13g hC rfl (fun h6 => ?_) (fun h6 => (by omega))
      refine g3 hC rfl rfl ?_
      refine ret1 hC rfl rfl ?_
      exact ⟨rfl, rfl⟩
    · rintro k hk ll M1 ⟨rfl, rfl⟩ hnext
      have b1 := chk_b (f := M1 c) k
      have b2 := hb k hk
      have e : chk (M1 c) (k + 1) = (3 * chk (M1 c) k + (M1 c k).toNat) % 251 := rfl
      refine g3 hC rfl rfl ?_
      refine g3 hC rfl rfl ?_
      refine g13g hC rfl (fun h6 => (by omega)) (fun h6 => ?_)
      refine g0 hC rfl ?_
      refine g3 hC rfl rfl ?_
      refine g6m hC rfl ⟨by omega, by omega⟩ ?_
      refine g3 hC rfl rfl ?_
      refine g3 hC rfl rfl ?_
      refine r21 (k) hC rfl rfl hc (Or.inl rfl) (by omega) rfl ?_
      refine g6a hC rfl ⟨by omega, by omega⟩ ?_
      refine g0 hC rfl ?_
      refine g6rN (a := 3 * chk (M1 c) k + (M1 c k).toNat) (b := 251) hC rfl (by omega) rfl (by decide) (by omega) ?_
      refine s2 hC rfl rfl rfl ?_
      refine n3 hC rfl rfl ⟨by omega, by omega⟩ ?_
      refine g14 hC rfl ?_
      exact hnext _ _ ⟨by rw [e]; rfl, rfl⟩
  refine g0 hC rfl ?_
  refine s2 hC rfl rfl rfl ?_
  refine g0 hC rfl ?_
  refine s3 hC rfl rfl rfl ?_
  exact l1 n 0 (Nat.zero_add _) _ _ ⟨rfl, rfl⟩
theorem m75 (hF : Fix M) (hh : h = 9 ∨ h = 27) (hV : HV V h M) (hW : HW V h) (hSW : SW V) : ax_Ev L X SH 2 75 [(2, 45), (2, (h : Int)), (2, 139)] M (R1 0 (fun x M' => x = ((imA2 V h (M 139)).2 : Int) ∧ Sb W75 M M' ∧ M' 139 = (imA2 V h (M 139)).1)) := by
  show ax_G L X SH 2 75 0 [(2, 45), (2, (h : Int)), (2, 139), (3, 0), (3, 0), (3, 0)] [] M _
  obtain ⟨P, hP⟩ : ∃ P, P = fun (x : Int) M' => x = ((imA2 V h (M 139)).2 : Int) ∧ Sb W75 M M' ∧ M' 139 = (imA2 V h (M 139)).1 := ⟨_, rfl⟩
  rw [← hP]
  have hC := at75
  have hw : wok W75 = true := by decide +kernel
  have hwh : hok W75 h := hokB (by decide +kernel) hh
  have h2 := hW.1.2.1.2; have h3 := hW.1.2.2.1.2; have h4 := hW.1.2.2.2.2
  have hlen := imA_len (V := V) (h := h) (f := M 139) hW
  have h45 := hSW.1
  obtain ⟨dN, hdN⟩ : ∃ dN : Nat, V 45 0 = (dN : Int) := ⟨(V 45 0).toNat, by omega⟩
  have edN : (V 45 0).toNat = dN := by omega
  have lC : ∀ (m a : Nat), a + m = nC V h → ∀ ll M1, (∃ v, ll = [(2, 45), (2, (h : Int)), (2, 139), (0, ((imC V (nC V h) a (imS V (nS V h) (imP V (nQ V h) (im2 dN (M 139, 0))))).2 : Int)), (0, (a : Int)), v] ∧ Sb W75 M M1 ∧ M1 139 = (imC V (nC V h) a (imS V (nS V h) (imP V (nQ V h) (im2 dN (M 139, 0))))).1) → ax_G L X SH 2 75 50 ll [] M1 (R1 0 P) := by
    refine lp ?_ ?_
    · rintro ll M1 ⟨v, rfl, hS, h1⟩
      have eA : imC V (nC V h) (nC V h) (imS V (nS V h) (imP V (nQ V h) (im2 dN (M 139, 0)))) = imA V h (M 139) := by unfold imA; rw [edN]
      rw [eA] at h1 ⊢
      have hb := imA_byte (f := M 139) hW hSW
      refine g3 hC rfl rfl ?_
      refine g3 hC rfl rfl ?_
      refine g19 hC rfl (shH hh) (Nat.le_of_ble_eq_true rfl) rfl (rd3 hS hwh hV hW) ?_
      refine g13g hC rfl (fun h53 => ?_) (fun h53 => (by omega))
      refine g3 hC rfl rfl ?_
      refine g3 hC rfl rfl ?_
      refine g3 hC rfl rfl ?_
      refine g3 hC rfl rfl ?_
      refine c1 hC rfl rfl rfl (Nat.le_of_ble_eq_true rfl) (Nat.le_of_ble_eq_true rfl) rfl (m74 (c := 139) (len := 74) (n := (imA V h (M 139)).2) rfl (by omega) (by omega) (fun k hk => by rw [h1]; exact hb k hk)) (Nat.le_of_ble_eq_true rfl) (fun x M2 hr => ?_)
      obtain ⟨rfl, hr⟩ := hr; replace hr := hr.symm; subst hr
      refine r22s ((imA V h (M 139)).2) hC rfl rfl rfl (by omega) rfl hS rfl (fun hS => ?_)
      refine g3 hC rfl rfl ?_
      refine g0 hC rfl ?_
      refine g6a hC rfl ⟨by omega, by omega⟩ ?_
      refine ret1 hC rfl rfl ?_
      rw [hP]
      refine ⟨?_, hS, ?_⟩
      · show _ = (((imA V h (M 139)).2 + 1 : Nat) : Int); omega
      · rw [ax_upf, h1]; rfl
    · rintro a ha ll M1 ⟨v, rfl, hS, h1⟩ hnext
      have hcb := cntP_b (nC V h) (by omega) a ha
      have hx2 : (imC V (nC V h) a (imS V (nS V h) (imP V (nQ V h) (im2 dN (M 139, 0))))).2 = 2 + nQ V h + nS V h + 2 * cntP (nC V h) a := by rw [imC_n, imS_n, imP_n]; rfl
      have es : imC V (nC V h) (a + 1) (imS V (nS V h) (imP V (nQ V h) (im2 dN (M 139, 0)))) = imR V a (nC V h - 1 - a) (imC V (nC V h) a (imS V (nS V h) (imP V (nQ V h) (im2 dN (M 139, 0))))) := rfl
      rw [es] at hnext
      generalize imC V (nC V h) a (imS V (nS V h) (imP V (nQ V h) (im2 dN (M 139, 0)))) = x at *
      have l2 : ∀ (m k : Nat), k + m = nC V h - 1 - a → ∀ ll M1, (ll = [(2, 45), (2, (h : Int)), (2, 139), (0, ((imR V a k x).2 : Int)), (0, (a : Int)), (0, ((a + 1 + k : Nat) : Int))] ∧ Sb W75 M M1 ∧ M1 139 = (imR V a k x).1) → ax_G L X SH 2 75 58 ll [] M1 (R1 0 P) := by
        refine lp ?_ ?_
        · rintro ll M1 ⟨rfl, hS, h1⟩
          refine g3 hC rfl rfl ?_
          refine g3 hC rfl rfl ?_
          refine g19 hC rfl (shH hh) (Nat.le_of_ble_eq_true rfl) rfl (rd3 hS hwh hV hW) ?_
          refine g13g hC rfl (fun h61 => ?_) (fun h61 => (by omega))
          refine n4 hC rfl rfl ⟨by omega, by omega⟩ ?_
          refine g14 hC rfl ?_
          exact hnext _ _ ⟨_, rfl, hS, h1⟩
        · rintro k hk ll M1 ⟨rfl, hS, h1⟩ hnx
          have eb : pQ a (a + 1 + k) = pO a (a + 1 + k) := by unfold pQ; rw [if_pos (by omega)]
          have hlt := pO_lt (a := a) (b := a + 1 + k) (by omega) (by omega)
          have hv := hSW.2.2.2 _ hlt
          obtain ⟨sN, hsN⟩ : ∃ sN : Nat, V 48 (pO a (a + 1 + k)) = (sN : Int) := ⟨(V 48 (pO a (a + 1 + k))).toNat, by omega⟩
          have esN : (V 48 (pO a (a + 1 + k))).toNat = sN := by omega
          have hn := imR_n (V := V) (a := a) (x := x) k
          have er : imR V a (k + 1) x = im2 sN (imR V a k x) := by rw [← esN]; rfl
          rw [er] at hnx
          generalize imR V a k x = y at *
          have e48 : ∀ M1, Sb W75 M M1 → M1 48 (pO a (a + 1 + k)) = (sN : Int) := fun M1 hS => ((hS 48 _ rfl).trans (hV.2 _).2.2.2).trans hsN
          refine g3 hC rfl rfl ?_
          refine g3 hC rfl rfl ?_
          refine g19 hC rfl (shH hh) (Nat.le_of_ble_eq_true rfl) rfl (rd3 hS hwh hV hW) ?_
          refine g13g hC rfl (fun h61 => (by omega)) (fun h61 => ?_)
          refine g3 hC rfl rfl ?_
          refine g3 hC rfl rfl ?_
          refine g3 hC rfl rfl ?_
          refine g19 hC rfl rfl (Nat.le_of_ble_eq_true rfl) rfl ((hS.fix hw hF).g rfl) ?_
          refine g3 hC rfl rfl ?_
          refine g3 hC rfl rfl ?_
          refine c1 hC rfl rfl rfl (Nat.le_of_ble_eq_true rfl) (Nat.le_of_ble_eq_true rfl) rfl (m66 (by omega) (by omega)) (Nat.le_of_ble_eq_true rfl) (fun x M2 hr => ?_)
          obtain ⟨rfl, hr⟩ := hr; replace hr := hr.symm; subst hr; rw [eb]
          refine r21 (pO a (a + 1 + k)) hC rfl rfl rfl (Or.inl rfl) (by omega) (e48 _ hS) ?_
          refine g0 hC rfl ?_
          refine g6 hC rfl (congrArg some (shrN (a := sN) (k := 8) (by omega) (by decide))) ?_
          refine r22s (y.2) hC rfl rfl rfl (by omega) rfl hS rfl (fun hS => ?_)
          refine g3 hC rfl rfl ?_
          refine g3 hC rfl rfl ?_
          refine g0 hC rfl ?_
          refine g6a hC rfl ⟨by omega, by omega⟩ ?_
          refine g3 hC rfl rfl ?_
          refine g19 hC rfl rfl (Nat.le_of_ble_eq_true rfl) rfl ((hS.fix hw hF).g rfl) ?_
          refine g3 hC rfl rfl ?_
          refine g3 hC rfl rfl ?_
          refine c1 hC rfl rfl rfl (Nat.le_of_ble_eq_true rfl) (Nat.le_of_ble_eq_true rfl) rfl (m66 (by omega) (by omega)) (Nat.le_of_ble_eq_true rfl) (fun x M2 hr => ?_)
          obtain ⟨rfl, hr⟩ := hr; replace hr := hr.symm; subst hr; rw [eb]
          refine r21 (pO a (a + 1 + k)) hC rfl rfl rfl (Or.inl rfl) (by omega) (e48 _ hS) ?_
          refine g0 hC rfl ?_
          refine g6 hC rfl (congrArg some (andN (a := sN) (b := 255) (by omega))) ?_
          refine r22s (y.2 + 1) hC rfl rfl rfl (by omega) rfl hS rfl (fun hS => ?_)
          refine n5 hC rfl rfl ⟨by omega, by omega⟩ ?_
          refine n3 hC rfl rfl ⟨by omega, by omega⟩ ?_
          refine g14 hC rfl ?_
          refine hnx _ _ ⟨?_, hS, ?_⟩
          · rw [show (y.2 : Int) + 2 = ((im2 sN y).2 : Int) from (show (y.2 : Int) + 2 = ((y.2 + 1 + 1 : Nat) : Int) by omega)]; rfl
          · rw [ax_upf, ax_upf, h1, sh8, an8]; rfl
      refine g3 hC rfl rfl ?_
      refine g3 hC rfl rfl ?_
      refine g19 hC rfl (shH hh) (Nat.le_of_ble_eq_true rfl) rfl (rd3 hS hwh hV hW) ?_
      refine g13g hC rfl (fun h53 => (by omega)) (fun h53 => ?_)
      refine g3 hC rfl rfl ?_
      refine g0 hC rfl ?_
      refine g6a hC rfl ⟨by omega, by omega⟩ ?_
      refine s5 hC rfl rfl rfl ?_
      exact l2 (nC V h - 1 - a) 0 (Nat.zero_add _) _ _ ⟨rfl, hS, h1⟩
  have lS : ∀ (m k : Nat), k + m = nS V h → ∀ ll M1, (∃ v, ll = [(2, 45), (2, (h : Int)), (2, 139), (0, ((imS V k (imP V (nQ V h) (im2 dN (M 139, 0)))).2 : Int)), (0, (k : Int)), v] ∧ Sb W75 M M1 ∧ M1 139 = (imS V k (imP V (nQ V h) (im2 dN (M 139, 0)))).1) → ax_G L X SH 2 75 34 ll [] M1 (R1 0 P) := by
    refine lp ?_ ?_
    · rintro ll M1 ⟨v, rfl, hS, h1⟩
      refine g3 hC rfl rfl ?_
      refine g3 hC rfl rfl ?_
      refine g19 hC rfl (shH hh) (Nat.le_of_ble_eq_true rfl) rfl (rd1 hS hwh hV hW) ?_
      refine g13g hC rfl (fun h37 => ?_) (fun h37 => (by omega))
      refine g0 hC rfl ?_
      refine s4 hC rfl rfl rfl ?_
      exact lC (nC V h) 0 (Nat.zero_add _) _ _ ⟨_, rfl, hS, h1⟩
    · rintro k hk ll M1 ⟨v, rfl, hS, h1⟩ hnext
      have hx2 : (imS V k (imP V (nQ V h) (im2 dN (M 139, 0)))).2 = 2 + nQ V h + k := by rw [imS_n, imP_n]; rfl
      have es : imS V (k + 1) (imP V (nQ V h) (im2 dN (M 139, 0))) = ap (V 47 k) (imS V k (imP V (nQ V h) (im2 dN (M 139, 0)))) := rfl
      rw [es] at hnext
      generalize imS V k (imP V (nQ V h) (im2 dN (M 139, 0))) = y at *
      refine g3 hC rfl rfl ?_
      refine g3 hC rfl rfl ?_
      refine g19 hC rfl (shH hh) (Nat.le_of_ble_eq_true rfl) rfl (rd1 hS hwh hV hW) ?_
      refine g13g hC rfl (fun h37 => (by omega)) (fun h37 => ?_)
      refine g3 hC rfl rfl ?_
      refine g3 hC rfl rfl ?_
      refine g3 hC rfl rfl ?_
      refine g19 hC rfl rfl (Nat.le_of_ble_eq_true rfl) rfl ((hS.fix hw hF).g rfl) ?_
      refine g3 hC rfl rfl ?_
      refine r21 (k) hC rfl (by omega) rfl (Or.inl rfl) (by omega) ((hS _ _ rfl).trans (hV.2 _).2.2.1) ?_
      refine r22s ((y.2)) hC rfl (by omega) sh139 (by omega) rfl hS rfl (fun hS => ?_)
      refine n4 hC rfl rfl ⟨by omega, by omega⟩ ?_
      refine n3 hC rfl rfl ⟨by omega, by omega⟩ ?_
      refine g14 hC rfl ?_
      refine hnext _ _ ⟨v, ?_, hS, ?_⟩
      · rw [show (y.2 : Int) + 1 = ((ap (V 47 k) y).2 : Int) from rfl]; rfl
      · rw [ax_upf, h1]; rfl
  have lP : ∀ (m k : Nat), k + m = nQ V h → ∀ ll M1, (∃ v, ll = [(2, 45), (2, (h : Int)), (2, 139), (0, ((imP V k (im2 dN (M 139, 0))).2 : Int)), (0, (k : Int)), v] ∧ Sb W75 M M1 ∧ M1 139 = (imP V k (im2 dN (M 139, 0))).1) → ax_G L X SH 2 75 18 ll [] M1 (R1 0 P) := by
    refine lp ?_ ?_
    · rintro ll M1 ⟨v, rfl, hS, h1⟩
      refine g3 hC rfl rfl ?_
      refine g3 hC rfl rfl ?_
      refine g19 hC rfl (shH hh) (Nat.le_of_ble_eq_true rfl) rfl (rd2 hS hwh hV hW) ?_
      refine g13g hC rfl (fun h21 => ?_) (fun h21 => (by omega))
      refine g0 hC rfl ?_
      refine s4 hC rfl rfl rfl ?_
      exact lS (nS V h) 0 (Nat.zero_add _) _ _ ⟨_, rfl, hS, h1⟩
    · rintro k hk ll M1 ⟨v, rfl, hS, h1⟩ hnext
      have hx2 : (imP V k (im2 dN (M 139, 0))).2 = 2 + k := by rw [imP_n]; rfl
      have es : imP V (k + 1) (im2 dN (M 139, 0)) = ap (V 46 k) (imP V k (im2 dN (M 139, 0))) := rfl
      rw [es] at hnext
      generalize imP V k (im2 dN (M 139, 0)) = y at *
      refine g3 hC rfl rfl ?_
      refine g3 hC rfl rfl ?_
      refine g19 hC rfl (shH hh) (Nat.le_of_ble_eq_true rfl) rfl (rd2 hS hwh hV hW) ?_
      refine g13g hC rfl (fun h21 => (by omega)) (fun h21 => ?_)
      refine g3 hC rfl rfl ?_
      refine g3 hC rfl rfl ?_
      refine g3 hC rfl rfl ?_
      refine g19 hC rfl rfl (Nat.le_of_ble_eq_true rfl) rfl ((hS.fix hw hF).g rfl) ?_
      refine g3 hC rfl rfl ?_
      refine r21 (k) hC rfl (by omega) rfl (Or.inl rfl) (by omega) ((hS _ _ rfl).trans (hV.2 _).2.1) ?_
      refine r22s ((y.2)) hC rfl (by omega) sh139 (by omega) rfl hS rfl (fun hS => ?_)
      refine n4 hC rfl rfl ⟨by omega, by omega⟩ ?_
      refine n3 hC rfl rfl ⟨by omega, by omega⟩ ?_
      refine g14 hC rfl ?_
      refine hnext _ _ ⟨v, ?_, hS, ?_⟩
      · rw [show (y.2 : Int) + 1 = ((ap (V 46 k) y).2 : Int) from rfl]; rfl
      · rw [ax_upf, h1]; rfl
  have hS : Sb W75 M M := Sb.refl
  have e45 : ∀ M1, Sb W75 M M1 → M1 45 0 = (dN : Int) := fun M1 hS => ((hS 45 0 rfl).trans (hV.2 0).1).trans hdN
  refine g3 hC rfl rfl ?_
  refine g0 hC rfl ?_
  refine g3 hC rfl rfl ?_
  refine g19 hC rfl rfl (Nat.le_of_ble_eq_true rfl) rfl (e45 _ hS) ?_
  refine g0 hC rfl ?_
  refine g6 hC rfl (congrArg some (shrN (a := dN) (k := 8) (by omega) (by decide))) ?_
  refine r22s (0) hC rfl (by omega) sh139 (by omega) rfl hS rfl (fun hS => ?_)
  refine g3 hC rfl rfl ?_
  refine g0 hC rfl ?_
  refine g3 hC rfl rfl ?_
  refine g19 hC rfl rfl (Nat.le_of_ble_eq_true rfl) rfl (e45 _ hS) ?_
  refine g0 hC rfl ?_
  refine g6 hC rfl (congrArg some (andN (a := dN) (b := 255) (by omega))) ?_
  refine r22s (1) hC rfl (by omega) sh139 (by omega) rfl hS rfl (fun hS => ?_)
  refine g0 hC rfl ?_
  refine s3 hC rfl rfl rfl ?_
  refine g0 hC rfl ?_
  refine s4 hC rfl rfl rfl ?_
  refine lP (nQ V h) 0 (Nat.zero_add _) _ _ ⟨_, rfl, hS, ?_⟩
  rw [ax_upf, ax_upf, sh8, an8]; rfl
end IMG
