def DH (V : ax_M) (h : Nat) (D : DT) : Prop := ∀ c, c < nC V h → D.2.1 c ≠ -1 → D.1 c = (ch V h c : Int)
theorem DH_D1 {V : ax_M} {h : Nat} {fa : Nat → Int} {mi c : Nat} {D : DT} (hc : c < nC V h) (hK : DH V h D) : DH V h (D1 V h fa mi c D) := by
  unfold D1
  by_cases h1 : D.2.1 c ≠ -1
  · rw [if_pos h1]; exact hK
  rw [if_neg h1]
  by_cases h2 : D.1 c = 0
  · rw [if_pos h2]
    split
    · intro q hq
      dsimp only
      by_cases z : q = c
      · rw [z, up_at, up_at]; exact fun _ => rfl
      · rw [up_ne z, up_ne z]; exact hK q hq
    · exact hK
  · rw [if_neg h2]
    intro q hq
    dsimp only
    by_cases z : q = c
    · rw [z]; exact fun y => absurd y h1
    · rw [up_ne z]; exact hK q hq
def aprD (V : ax_M) (h : Nat) (pp : Nat → Int) (a b : Nat) : Int := if 0 ≤ pp (ckq V h a) - pp (ckq V h b) then pp (ckq V h a) - pp (ckq V h b) else -(pp (ckq V h a) - pp (ckq V h b))
theorem apr_s {V : ax_M} {h : Nat} {pp : Nat → Int} {a b : Nat} : aprD V h pp a b = aprD V h pp b a := by
  unfold aprD; split <;> split <;> omega
def mtk (V : ax_M) (h : Nat) (pp : Nat → Int) (sm wd : Int) (m a b : Nat) : Int := if a < nC V h ∧ b < nC V h ∧ aprD V h pp a b ≤ V h 17 then tg V h sm wd a b m else 0
abbrev mtp (V : ax_M) (h : Nat) (pp : Nat → Int) (sm wd : Int) (a b : Nat) : Int := mtk V h pp sm wd 9 a b
theorem mtk_b {V : ax_M} {h : Nat} {pp : Nat → Int} {sm wd : Int} {m a b : Nat} : 0 ≤ mtk V h pp sm wd m a b ∧ mtk V h pp sm wd m a b ≤ m := by
  unfold mtk; split
  · exact tg_b m
  · omega
def P5 (V : ax_M) (h : Nat) (pp : Nat → Int) : Prop := ∀ q, q < nQ V h → -100 ≤ pp q ∧ pp q ≤ 100
section RRN
variable {L : Nat} {X : Nat → Int} {M V : ax_M} {h : Nat}
theorem m205 (hF : Fix M) (hV : RV V h M) (hW : HW V h) : ax_Ev L X SH 1 205 [(2, 142)] M (R1 0 (fun x M' => ((x = 1 ∧ alo V h (M 189) (M 191)) ∨ (x = 0 ∧ ¬ alo V h (M 189) (M 191))) ∧ M' = M)) := by
  show ax_G L X SH 1 205 0 [(2, 142), (3, 0)] [] M _
  have hC := at205
  have hw := wX0
  have hwr := rX0
  have hb := hW.1.2.2.2.2
  have l1 : ∀ (m k : Nat), k + m = nC V h → ∀ ll M1, (ll = [(2, 142), (0, (k : Int))] ∧ M1 = M ∧ ∀ c, c < k → M 189 c = 0 ∧ M 191 c = -1) → ax_G L X SH 1 205 2 ll [] M1 (R1 0 (fun x M' => ((x = 1 ∧ alo V h (M 189) (M 191)) ∨ (x = 0 ∧ ¬ alo V h (M 189) (M 191))) ∧ M' = M)) := by
    refine lp ?_ ?_
    · rintro ll M1 ⟨rfl, rfl, h1⟩
      have hS : Sb X0 M1 M1 := Sb.refl
      refine g3 hC rfl rfl ?_
      refine g3 hC rfl rfl ?_
      refine c1 hC rfl rfl rfl (Nat.le_of_ble_eq_true rfl) (Nat.le_of_ble_eq_true rfl) (mayR k186 rfl) (m186 hF hV hW) (Nat.le_of_ble_eq_true rfl) (fun x M2 hr => ?_)
      obtain ⟨rfl, hr⟩ := hr
      replace hr := hr.symm
      subst hr
      refine g13g hC rfl (fun h5 => ?_) (fun h5 => (by omega))
      refine g0 hC rfl ?_
      refine ret3 hC rfl ⟨by omega, by omega⟩ ?_
      exact ⟨Or.inl ⟨rfl, h1⟩, rfl⟩
    · rintro k hk ll M1 ⟨rfl, rfl, h1⟩ hnext
      have hS : Sb X0 M1 M1 := Sb.refl
      refine g3 hC rfl rfl ?_
      refine g3 hC rfl rfl ?_
      refine c1 hC rfl rfl rfl (Nat.le_of_ble_eq_true rfl) (Nat.le_of_ble_eq_true rfl) (mayR k186 rfl) (m186 hF hV hW) (Nat.le_of_ble_eq_true rfl) (fun x M2 hr => ?_)
      obtain ⟨rfl, hr⟩ := hr
      replace hr := hr.symm
      subst hr
      refine g13g hC rfl (fun h5 => (by omega)) (fun h5 => ?_)
      refine g3 hC rfl rfl ?_
      refine g3 hC rfl rfl ?_
      refine c1 hC rfl rfl rfl (Nat.le_of_ble_eq_true rfl) (Nat.le_of_ble_eq_true rfl) (mayR k202 rfl) (m202 hF (by omega)) (Nat.le_of_ble_eq_true rfl) (fun x M2 hr => ?_)
      obtain ⟨rfl, hr⟩ := hr
      replace hr := hr.symm
      subst hr
      refine g12n hC rfl (fun h9 => ?_) (fun h9 => ?_)
      ·
        refine n1 hC rfl rfl ⟨by omega, by omega⟩ ?_
        refine g14 hC rfl ?_
        refine hnext _ _ ⟨rfl, rfl, fun c hc => ?_⟩
        by_cases z : c = k
        · rw [z]
          by_cases y : M1 189 k = 0 ∧ M1 191 k = -1
          · exact y
          · rw [if_neg y] at h9; omega
        · exact h1 c (by omega)
      ·
        refine g0 hC rfl ?_
        refine ret3 hC rfl ⟨by omega, by omega⟩ ?_
        refine ⟨Or.inr ⟨rfl, fun z => ?_⟩, rfl⟩
        rw [if_pos (z k hk)] at h9; omega
  refine g0 hC rfl ?_
  refine s1 hC rfl rfl rfl ?_
  exact l1 (nC V h) 0 (Nat.zero_add _) _ _ ⟨rfl, rfl, fun c hc => absurd hc (Nat.not_lt_zero c)⟩
abbrev cnd (V : ax_M) (h : Nat) (pp : Nat → Int) (D : DT) (a b : Nat) : Prop := a ≠ b ∧ a < nC V h ∧ b < nC V h ∧ ow D a ∧ ow D b ∧ aprD V h pp a b ≤ V h 17
theorem cnd_s {pp : Nat → Int} {D : DT} {a b : Nat} : cnd V h pp D a b ↔ cnd V h pp D b a := by
  unfold cnd; rw [apr_s (a := a)]
  constructor
  · rintro ⟨z1, z2, z3, z4, z5, z6⟩; exact ⟨fun e => z1 e.symm, z3, z2, z5, z4, z6⟩
  · rintro ⟨z1, z2, z3, z4, z5, z6⟩; exact ⟨fun e => z1 e.symm, z3, z2, z5, z4, z6⟩
def mG (V : ax_M) (h : Nat) (pp : Nat → Int) (D : DT) (a b x y : Nat) : Int := if cnd V h pp D x y ∧ (((x < y → y < a ∨ (y = a ∧ x < b)) ∧ (y < x → x < a ∨ (x = a ∧ y < b)))) then 1 else 0
theorem mG_b {pp : Nat → Int} {D : DT} {a b x y : Nat} : 0 ≤ mG V h pp D a b x y ∧ mG V h pp D a b x y ≤ 1 := by
  unfold mG; split <;> omega
theorem mG_s {pp : Nat → Int} {D : DT} {k q a b : Nat} (hqk : q < k) : mG V h pp D k (q + 1) a b = if ((a = k ∧ b = q) ∨ (a = q ∧ b = k)) ∧ cnd V h pp D k q then 1 else mG V h pp D k q a b := by
  by_cases z2 : (a = k ∧ b = q) ∨ (a = q ∧ b = k)
  · have e : cnd V h pp D a b ↔ cnd V h pp D k q := by
      rcases z2 with ⟨rfl, rfl⟩ | ⟨rfl, rfl⟩
      · exact Iff.rfl
      · exact cnd_s
    by_cases z : cnd V h pp D k q
    · rw [if_pos ⟨z2, z⟩]; unfold mG; rw [if_pos ⟨e.2 z, fun _ => by omega, fun _ => by omega⟩]
    · rw [if_neg (fun w => z w.2)]; unfold mG; rw [if_neg (fun w => z (e.1 w.1)), if_neg (fun w => z (e.1 w.1))]
  · rw [if_neg (fun w => z2 w.1)]
    unfold mG
    by_cases z : cnd V h pp D a b
    · by_cases y : ((a < b → b < k ∨ (b = k ∧ a < q)) ∧ (b < a → a < k ∨ (a = k ∧ b < q)))
      · rw [if_pos ⟨z, fun _ => by omega, fun _ => by omega⟩, if_pos ⟨z, y⟩]
      · rw [if_neg (fun w => y ⟨fun _ => by have := w.2.1; omega, fun _ => by have := w.2.2; omega⟩), if_neg (fun w => y w.2)]
    · rw [if_neg (fun w => z w.1), if_neg (fun w => z w.1)]
theorem mG_0 {pp : Nat → Int} {D : DT} {k q : Nat} (hqk : q < k) : mG V h pp D k q k q = 0 ∧ mG V h pp D k q q k = 0 := by
  unfold mG
  rw [if_neg (fun w => by have := w.2.2; omega), if_neg (fun w => by have := w.2.1; omega)]
  exact ⟨rfl, rfl⟩
theorem m206 (hF : Fix M) (hV : RV V h M) (hW : HW V h) {pp : Nat → Int} (hpp : P5 V h pp) (hp : ∀ q, q < nQ V h → M 194 q = pp q) {D : DT} (hR : RD V h D M) {T : Nat → Nat → Int} (hT : ∀ a b, a < 8 → b < 8 → M 193 (8 * a + b) = T a b ∧ 0 ≤ T a b ∧ T a b ≤ 100) : ax_Ev L X SH 1 206 [(2, 142)] M (R0 (fun M' => Sb X206 M M' ∧ ∀ a b, a < 8 → b < 8 → (cnd V h pp D a b → M' 193 (8 * a + b) = T a b + 1) ∧ (¬ cnd V h pp D a b → M' 193 (8 * a + b) = T a b))) := by
  show ax_G L X SH 1 206 0 [(2, 142), (3, 0), (3, 0), (3, 0)] [] M _
  have hC := at206
  have hw : wok X206 = true := by decide +kernel
  have hwr : rok X206 := rokI rfl
  have hS : Sb X206 M M := Sb.refl
  have hb := hW.1.2.2.2.2
  have l1 : ∀ (m k : Nat), k + m = nC V h → ∀ ll M1, (∃ v1 v2, ll = [(2, 142), (0, (k : Int)), v1, v2] ∧ Sb X206 M M1 ∧ ∀ a b, a < 8 → b < 8 → M1 193 (8 * a + b) = T a b + mG V h pp D k 0 a b) → ax_G L X SH 1 206 2 ll [] M1 (R0 (fun M' => Sb X206 M M' ∧ ∀ a b, a < 8 → b < 8 → (cnd V h pp D a b → M' 193 (8 * a + b) = T a b + 1) ∧ (¬ cnd V h pp D a b → M' 193 (8 * a + b) = T a b))) := by
    refine lp ?_ ?_
    · rintro ll M1 ⟨v1, v2, rfl, hS, h1⟩
      refine g3 hC rfl rfl ?_
      refine g3 hC rfl rfl ?_
      refine c1 hC rfl rfl rfl (Nat.le_of_ble_eq_true rfl) (Nat.le_of_ble_eq_true rfl) (mayR k186 rfl) (m186 (hS.fix hw hF) (hV.sb hS hwr) hW) (Nat.le_of_ble_eq_true rfl) (fun x M2 hr => ?_)
      obtain ⟨rfl, hr⟩ := hr
      replace hr := hr.symm
      subst hr
      refine g13g hC rfl (fun h5 => ?_) (fun h5 => (by omega))
      refine ret0 hC rfl ?_
      refine ⟨hS, fun a b ha hb => ⟨fun z => ?_, fun z => ?_⟩⟩
      · rw [h1 a b ha hb]; unfold mG; rw [if_pos ⟨z, fun _ => Or.inl z.2.2.1, fun _ => Or.inl z.2.1⟩]
      · rw [h1 a b ha hb]; unfold mG; rw [if_neg (fun y => z y.1)]; omega
    · rintro k hk ll M1 ⟨v1, v2, rfl, hS, h1⟩ hnext
      have l2 : ∀ (m q : Nat), q + m = k → ∀ ll M1, (∃ v2, ll = [(2, 142), (0, (k : Int)), (0, (q : Int)), v2] ∧ Sb X206 M M1 ∧ ∀ a b, a < 8 → b < 8 → M1 193 (8 * a + b) = T a b + mG V h pp D k q a b) → ax_G L X SH 1 206 8 ll [] M1 (R0 (fun M' => Sb X206 M M' ∧ ∀ a b, a < 8 → b < 8 → (cnd V h pp D a b → M' 193 (8 * a + b) = T a b + 1) ∧ (¬ cnd V h pp D a b → M' 193 (8 * a + b) = T a b))) := by
        refine lp ?_ ?_
        · rintro ll M1 ⟨v2, rfl, hS, h1⟩
          refine g3 hC rfl rfl ?_
          refine g3 hC rfl rfl ?_
          refine g13g hC rfl (fun h10 => ?_) (fun h10 => (by omega))
          refine n1 hC rfl rfl ⟨by omega, by omega⟩ ?_
          refine g14 hC rfl ?_
          refine hnext _ _ ⟨_, _, rfl, hS, fun a b ha hb => ?_⟩
          rw [h1 a b ha hb]
          have : mG V h pp D k k a b = mG V h pp D (k + 1) 0 a b := by
            unfold mG
            by_cases z : cnd V h pp D a b ∧ (((a < b → b < k ∨ (b = k ∧ a < k)) ∧ (b < a → a < k ∨ (a = k ∧ b < k))))
            · rw [if_pos z, if_pos ⟨z.1, fun _ => by omega, fun _ => by omega⟩]
            · rw [if_neg z, if_neg (fun y => z ⟨y.1, fun _ => by omega, fun _ => by omega⟩)]
          rw [this]
        · rintro q hq ll M1 ⟨v2, rfl, hS, h1⟩ hnext2
          have hq5 := (hW.2.2.2.1 k hk).2.1
          have hq6 := (hW.2.2.2.1 q (by omega)).2.1
          have hb2 := hW.1.2.2.1.2
          have e189 : ∀ c, M1 189 c = M 189 c := fun c => hS 189 c rfl
          have e191 : ∀ c, M1 191 c = M 191 c := fun c => hS 191 c rfl
          have ep : ∀ q, q < nQ V h → M1 194 q = pp q := fun q hq => (hS 194 q rfl).trans (hp q hq)
          have b1 := hpp (ckq V h k) (by omega)
          have b2 := hpp (ckq V h q) (by omega)
          have t1 := hT k q (by omega) (by omega)
          have t2 := hT q k (by omega) (by omega)
          have u1 := h1 k q (by omega) (by omega)
          have u2 := h1 q k (by omega) (by omega)
          rw [(mG_0 hq).1] at u1
          rw [(mG_0 hq).2] at u2
          have hok' := hR.ow hk
          have hoq := hR.ow (show q < nC V h by omega)
          have ea : aprD V h pp k q = if 0 ≤ pp (ckq V h k) - pp (ckq V h q) then pp (ckq V h k) - pp (ckq V h q) else -(pp (ckq V h k) - pp (ckq V h q)) := rfl
          have nxD : ∀ v, ¬ cnd V h pp D k q → ax_G L X SH 1 206 8 [(2, 142), (0, (k : Int)), (0, (q : Int) + 1), v] [] M1 (R0 (fun M' => Sb X206 M M' ∧ ∀ a b, a < 8 → b < 8 → (cnd V h pp D a b → M' 193 (8 * a + b) = T a b + 1) ∧ (¬ cnd V h pp D a b → M' 193 (8 * a + b) = T a b))) := by
            intro v hn
            refine hnext2 _ _ ⟨_, rfl, hS, fun a b ha hb => ?_⟩
            rw [mG_s hq, if_neg (fun z => hn z.2)]; exact h1 a b ha hb
          have ny : ∀ v M2, Sb X206 M M2 → M2 = ax_up (ax_up M1 193 (8 * k + q) (M1 193 (8 * k + q) + 1)) 193 (8 * q + k) (M1 193 (8 * q + k) + 1) → cnd V h pp D k q → ax_G L X SH 1 206 8 [(2, 142), (0, (k : Int)), (0, (q : Int) + 1), v] [] M2 (R0 (fun M' => Sb X206 M M' ∧ ∀ a b, a < 8 → b < 8 → (cnd V h pp D a b → M' 193 (8 * a + b) = T a b + 1) ∧ (¬ cnd V h pp D a b → M' 193 (8 * a + b) = T a b))) := by
            intro v M2 hS2 hM hn
            refine hnext2 _ _ ⟨_, rfl, hS2, fun a b ha hb => ?_⟩
            rw [mG_s hq]
            by_cases y1 : a = q ∧ b = k
            · rw [if_pos ⟨Or.inr y1, hn⟩, hM, y1.1, y1.2, ax_up_at]; omega
            by_cases y2 : a = k ∧ b = q
            · rw [if_pos ⟨Or.inl y2, hn⟩, hM, y2.1, y2.2, ax_up_of (by omega), ax_up_at]; omega
            · rw [if_neg (fun w => by rcases w.1 with w | w; exact y2 w; exact y1 w), hM, ax_up_of (by omega), ax_up_of (by omega)]; exact h1 a b ha hb
          refine g3 hC rfl rfl ?_
          refine g3 hC rfl rfl ?_
          refine g13g hC rfl (fun h10 => (by omega)) (fun h10 => ?_)
          refine g3 hC rfl rfl ?_
          refine g3 hC rfl rfl ?_
          refine c1 hC rfl rfl rfl (Nat.le_of_ble_eq_true rfl) (Nat.le_of_ble_eq_true rfl) (mayR k202 rfl) (m202 (hS.fix hw hF) (by omega)) (Nat.le_of_ble_eq_true rfl) (fun x M2 hr => ?_)
          obtain ⟨rfl, hr⟩ := hr
          replace hr := hr.symm
          subst hr
          refine g12e hC rfl (fun h14 => ?_) (fun h14 => ?_)
          ·
            refine n2 hC rfl rfl ⟨by omega, by omega⟩ ?_
            refine g14 hC rfl ?_
            refine nxD _ (fun z => ?_)
            rw [e189, e191, if_pos (hok'.2 z.2.2.2.1)] at h14; omega
          ·
            refine g3 hC rfl rfl ?_
            refine g3 hC rfl rfl ?_
            refine c1 hC rfl rfl rfl (Nat.le_of_ble_eq_true rfl) (Nat.le_of_ble_eq_true rfl) (mayR k202 rfl) (m202 (hS.fix hw hF) (by omega)) (Nat.le_of_ble_eq_true rfl) (fun x M2 hr => ?_)
            obtain ⟨rfl, hr⟩ := hr
            replace hr := hr.symm
            subst hr
            refine g12n hC rfl (fun h18 => ?_) (fun h18 => ?_)
            ·
              refine g3 hC rfl rfl ?_
              refine g19 hC rfl sh142 (flt12 rfl) ft12_68 ((hS.fix hw hF).g fx_142_68) ?_
              refine g3 hC rfl rfl ?_
              refine g3 hC rfl rfl ?_
              refine c1 hC rfl rfl rfl (Nat.le_of_ble_eq_true rfl) (Nat.le_of_ble_eq_true rfl) (mayR k191 rfl) (m191 (hS.fix hw hF) (hV.sb hS hwr) hW (by omega)) (Nat.le_of_ble_eq_true rfl) (fun x M2 hr => ?_)
              obtain ⟨rfl, hr⟩ := hr
              replace hr := hr.symm
              subst hr
              refine r21 ((ckq V h k)) hC rfl (by omega) sh194 (Or.inl rfl) (by omega) (ep _ (by omega)) ?_
              refine g3 hC rfl rfl ?_
              refine g19 hC rfl sh142 (flt12 rfl) ft12_68 ((hS.fix hw hF).g fx_142_68) ?_
              refine g3 hC rfl rfl ?_
              refine g3 hC rfl rfl ?_
              refine c1 hC rfl rfl rfl (Nat.le_of_ble_eq_true rfl) (Nat.le_of_ble_eq_true rfl) (mayR k191 rfl) (m191 (hS.fix hw hF) (hV.sb hS hwr) hW (by omega)) (Nat.le_of_ble_eq_true rfl) (fun x M2 hr => ?_)
              obtain ⟨rfl, hr⟩ := hr
              replace hr := hr.symm
              subst hr
              refine r21 ((ckq V h q)) hC rfl (by omega) sh194 (Or.inl rfl) (by omega) (ep _ (by omega)) ?_
              refine g6s hC rfl ⟨by omega, by omega⟩ ?_
              refine s3 hC rfl rfl rfl ?_
              refine g3 hC rfl rfl ?_
              refine g12g hC rfl (fun h35 => ?_) (fun h35 => ?_)
              ·
                refine g3 hC rfl rfl ?_
                refine g3 hC rfl rfl ?_
                refine g19 hC rfl sh142 (flt12 rfl) ft12_47 ((hS.fix hw hF).g fx_142_47) ?_
                refine g0 hC rfl ?_
                refine r21 (3) hC rfl (by omega) sh181 (Or.inl rfl) (by omega) (rmhe hS hwr hV hW) ?_
                refine g13s hC rfl (fun h44 => ?_) (fun h44 => ?_)
                ·
                  refine g3 hC rfl rfl ?_
                  refine g19 hC rfl sh142 (flt12 rfl) ft12_66 ((hS.fix hw hF).g fx_142_66) ?_
                  refine g0 hC rfl ?_
                  refine g3 hC rfl rfl ?_
                  refine g6m hC rfl ⟨by omega, by omega⟩ ?_
                  refine g3 hC rfl rfl ?_
                  refine g6a hC rfl ⟨by omega, by omega⟩ ?_
                  refine g17 hC rfl (by decide) ?_
                  refine r21 (((8 * k) + q)) hC rfl (by omega) sh193 (Or.inl rfl) (by omega) rfl ?_
                  refine g0 hC rfl ?_
                  refine g6a hC rfl ⟨by omega, by omega⟩ ?_
                  refine r22s (((8 * k) + q)) hC rfl (by omega) sh193 (by omega) rfl hS rfl (fun hS => ?_)
                  refine g3 hC rfl rfl ?_
                  refine g19 hC rfl sh142 (flt12 rfl) ft12_66 ((hS.fix hw hF).g fx_142_66) ?_
                  refine g0 hC rfl ?_
                  refine g3 hC rfl rfl ?_
                  refine g6m hC rfl ⟨by omega, by omega⟩ ?_
                  refine g3 hC rfl rfl ?_
                  refine g6a hC rfl ⟨by omega, by omega⟩ ?_
                  refine g17 hC rfl (by decide) ?_
                  refine r21 (8 * q + k) hC rfl (by omega) sh193 (Or.inl rfl) (by omega) (ax_up_of (by omega)) ?_
                  refine g0 hC rfl ?_
                  refine g6a hC rfl ⟨by omega, by omega⟩ ?_
                  refine r22s (((8 * q) + k)) hC rfl (by omega) sh193 (by omega) rfl hS rfl (fun hS => ?_)
                  refine n2 hC rfl rfl ⟨by omega, by omega⟩ ?_
                  refine g14 hC rfl ?_
                  refine ny _ _ hS rfl ⟨by omega, hk, by omega, hok'.1 ?_, hoq.1 ?_, ?_⟩
                  · rw [← e189, ← e191]; by_cases z : M1 189 k = 0 ∧ M1 191 k = -1; exact z; rw [if_neg z] at h14; omega
                  · rw [← e189, ← e191]; by_cases z : M1 189 q = 0 ∧ M1 191 q = -1; exact z; rw [if_neg z] at h18; omega
                  · rw [ea, if_pos h35]; exact h44
                ·
                  refine g14 hC rfl ?_
                  refine n2 hC rfl rfl ⟨by omega, by omega⟩ ?_
                  refine g14 hC rfl ?_
                  refine nxD _ (fun z => ?_)
                  have := z.2.2.2.2.2
                  rw [ea, if_pos h35] at this; omega
              ·
                refine g3 hC rfl rfl ?_
                refine g8 hC rfl ⟨by omega, by omega⟩ ?_
                refine g14 hC rfl ?_
                refine g3 hC rfl rfl ?_
                refine g19 hC rfl sh142 (flt12 rfl) ft12_47 ((hS.fix hw hF).g fx_142_47) ?_
                refine g0 hC rfl ?_
                refine r21 (3) hC rfl (by omega) sh181 (Or.inl rfl) (by omega) (rmhe hS hwr hV hW) ?_
                refine g13s hC rfl (fun h44 => ?_) (fun h44 => ?_)
                ·
                  refine g3 hC rfl rfl ?_
                  refine g19 hC rfl sh142 (flt12 rfl) ft12_66 ((hS.fix hw hF).g fx_142_66) ?_
                  refine g0 hC rfl ?_
                  refine g3 hC rfl rfl ?_
                  refine g6m hC rfl ⟨by omega, by omega⟩ ?_
                  refine g3 hC rfl rfl ?_
                  refine g6a hC rfl ⟨by omega, by omega⟩ ?_
                  refine g17 hC rfl (by decide) ?_
                  refine r21 (((8 * k) + q)) hC rfl (by omega) sh193 (Or.inl rfl) (by omega) rfl ?_
                  refine g0 hC rfl ?_
                  refine g6a hC rfl ⟨by omega, by omega⟩ ?_
                  refine r22s (((8 * k) + q)) hC rfl (by omega) sh193 (by omega) rfl hS rfl (fun hS => ?_)
                  refine g3 hC rfl rfl ?_
                  refine g19 hC rfl sh142 (flt12 rfl) ft12_66 ((hS.fix hw hF).g fx_142_66) ?_
                  refine g0 hC rfl ?_
                  refine g3 hC rfl rfl ?_
                  refine g6m hC rfl ⟨by omega, by omega⟩ ?_
                  refine g3 hC rfl rfl ?_
                  refine g6a hC rfl ⟨by omega, by omega⟩ ?_
                  refine g17 hC rfl (by decide) ?_
                  refine r21 (8 * q + k) hC rfl (by omega) sh193 (Or.inl rfl) (by omega) (ax_up_of (by omega)) ?_
                  refine g0 hC rfl ?_
                  refine g6a hC rfl ⟨by omega, by omega⟩ ?_
                  refine r22s (((8 * q) + k)) hC rfl (by omega) sh193 (by omega) rfl hS rfl (fun hS => ?_)
                  refine n2 hC rfl rfl ⟨by omega, by omega⟩ ?_
                  refine g14 hC rfl ?_
                  refine ny _ _ hS rfl ⟨by omega, hk, by omega, hok'.1 ?_, hoq.1 ?_, ?_⟩
                  · rw [← e189, ← e191]; by_cases z : M1 189 k = 0 ∧ M1 191 k = -1; exact z; rw [if_neg z] at h14; omega
                  · rw [← e189, ← e191]; by_cases z : M1 189 q = 0 ∧ M1 191 q = -1; exact z; rw [if_neg z] at h18; omega
                  · rw [ea, if_neg h35]; exact h44
                ·
                  refine g14 hC rfl ?_
                  refine n2 hC rfl rfl ⟨by omega, by omega⟩ ?_
                  refine g14 hC rfl ?_
                  refine nxD _ (fun z => ?_)
                  have := z.2.2.2.2.2
                  rw [ea, if_neg h35] at this; omega
            ·
              refine g14 hC rfl ?_
              refine n2 hC rfl rfl ⟨by omega, by omega⟩ ?_
              refine g14 hC rfl ?_
              refine nxD _ (fun z => ?_)
              rw [e189, e191, if_pos (hoq.2 z.2.2.2.2.1)] at h18; omega
      refine g3 hC rfl rfl ?_
      refine g3 hC rfl rfl ?_
      refine c1 hC rfl rfl rfl (Nat.le_of_ble_eq_true rfl) (Nat.le_of_ble_eq_true rfl) (mayR k186 rfl) (m186 (hS.fix hw hF) (hV.sb hS hwr) hW) (Nat.le_of_ble_eq_true rfl) (fun x M2 hr => ?_)
      obtain ⟨rfl, hr⟩ := hr
      replace hr := hr.symm
      subst hr
      refine g13g hC rfl (fun h5 => (by omega)) (fun h5 => ?_)
      refine g0 hC rfl ?_
      refine s2 hC rfl rfl rfl ?_
      exact l2 k 0 (Nat.zero_add _) _ _ ⟨_, rfl, hS, h1⟩
  refine g0 hC rfl ?_
  refine s1 hC rfl rfl rfl ?_
  refine l1 (nC V h) 0 (Nat.zero_add _) _ _ ⟨_, _, rfl, hS, fun a b ha hb => ?_⟩
  rw [(hT a b ha hb).1]
  unfold mG; rw [if_neg]
  · omega
  · rintro ⟨z, z1, z2⟩
    have := z.1
    omega
end RRN
