def RO (V : ax_M) (h : Nat) (pp : Nat → Int) (sm wd : Int) (M : ax_M) : Prop := (0 < nR V h → on8 (M 187) (far V h sm wd)) ∧ (∀ c, c < nC V h → M 190 c = (DD V h sm wd 9).2.2.1 c ∧ M 191 c = (DD V h sm wd 9).2.1 c ∧ ∀ m, m < 9 → M 192 (8 * m + c) = (DD V h sm wd (m + 1)).1 c) ∧ M 142 67 = em V h sm wd 9 ∧ ∀ a b, a < 8 → b < 8 → M 193 (8 * a + b) = mtp V h pp sm wd a b
def BI (V : ax_M) (h : Nat) (pp : Nat → Int) (sm wd : Int) (M : ax_M) (k : Nat) (M1 : ax_M) : Prop := Sb XD M M1 ∧ (0 < nR V h → on8 (M1 187) (far V h sm wd)) ∧ (∀ c m, c < nC V h → m < k → M1 192 (8 * m + c) = (DD V h sm wd (m + 1)).1 c) ∧ M1 142 67 = em V h sm wd k ∧ ∀ a b, a < 8 → b < 8 → M1 193 (8 * a + b) = mtk V h pp sm wd k a b
theorem BI.of {V M M1 M2 : ax_M} {h : Nat} {pp : Nat → Int} {sm wd : Int} {k : Nat} (hB : BI V h pp sm wd M k M1) (hs : Sb XD M M2) (e1 : M2 187 = M1 187) (e2 : M2 192 = M1 192) (e3 : M2 193 = M1 193) (e4 : M2 142 67 = M1 142 67) : BI V h pp sm wd M k M2 := by
  unfold BI; rw [e1, e2, e3, e4]; exact ⟨hs, hB.2⟩
theorem mtk_s {V : ax_M} {h : Nat} {pp : Nat → Int} {sm wd : Int} {k a b : Nat} : (cnd V h pp (DD V h sm wd (k + 1)) a b → mtk V h pp sm wd (k + 1) a b = mtk V h pp sm wd k a b + 1) ∧ (¬ cnd V h pp (DD V h sm wd (k + 1)) a b → mtk V h pp sm wd (k + 1) a b = mtk V h pp sm wd k a b) := by
  have e : tg V h sm wd a b (k + 1) = tg V h sm wd a b k + (if a ≠ b ∧ ow (DD V h sm wd (k + 1)) a ∧ ow (DD V h sm wd (k + 1)) b then 1 else 0) := rfl
  unfold mtk
  by_cases z : a < nC V h ∧ b < nC V h ∧ aprD V h pp a b ≤ V h 17
  · rw [if_pos z, if_pos z, e]
    refine ⟨fun y => ?_, fun y => ?_⟩
    · rw [if_pos ⟨y.1, y.2.2.2.1, y.2.2.2.2.1⟩]
    · rw [if_neg (fun w => y ⟨w.1, z.1, z.2.1, w.2.1, w.2.2, z.2.2⟩)]; omega
  · rw [if_neg z, if_neg z]
    exact ⟨fun y => absurd ⟨y.2.1, y.2.2.1, y.2.2.2.2.2⟩ z, fun _ => rfl⟩
section RGO
variable {L : Nat} {X : Nat → Int} {M V : ax_M} {h : Nat}
theorem m207 (hF : Fix M) (hV : RV V h M) (hW : HW V h) (hSW : SW V) (hPW : PW V h) {sm wd : Int} (hsm : M 142 69 = sm) (hwd : M 142 70 = wd) {pp : Nat → Int} (hpp : P5 V h pp) (hp : ∀ q, q < nQ V h → M 194 q = pp q) : ax_Ev L X SH 5 207 [(2, 142)] M (R0 (fun M' => Sb XD M M' ∧ RO V h pp sm wd M')) := by
  show ax_G L X SH 5 207 0 [(2, 142), (3, 0), (3, 0)] [] M _
  obtain ⟨P, hP⟩ : ∃ P, P = fun M' => Sb XD M M' ∧ RO V h pp sm wd M' := ⟨_, rfl⟩
  rw [← hP]
  have hC := at207
  have hw : wok XD = true := by decide +kernel
  have hwr : rok XD := rokI rfl
  have hS : Sb XD M M := Sb.refl
  have hb := hW.1.2.2.2.2
  have hbs := hW.1.2.1.2
  have lC : ∀ (m k : Nat), k + m = 9 → ∀ ll M1, (∃ v, ll = [(2, 142), (0, (k : Int)), v] ∧ BI V h pp sm wd M k M1 ∧ RD V h (DD V h sm wd k) M1 ∧ DK V h (DD V h sm wd k) ∧ DH V h (DD V h sm wd k)) → ax_G L X SH 5 207 56 ll [] M1 (R0 P) := by
    refine lp ?_ ?_
    · rintro ll M1 ⟨v, rfl, hB, hR, hK, hH⟩
      have hS := hB.1
      refine g3 hC rfl rfl ?_
      refine g0 hC rfl ?_
      refine g13g hC rfl (fun h58 => ?_) (fun h58 => (by omega))
      refine ret0 hC rfl ?_
      rw [hP]
      exact ⟨hS, hB.2.1, fun c hc => ⟨(hR c hc).2.2, (hR c hc).2.1, fun m hm => hB.2.2.1 c m hc hm⟩, hB.2.2.2.1, hB.2.2.2.2⟩
    · rintro k hk ll M1 ⟨v, rfl, hB, hR, hK, hH⟩ hnext
      have lG : ∀ M1 v, Sb XD M M1 → (0 < nR V h → on8 (M1 187) (far V h sm wd)) → (∀ c m, c < nC V h → m < k + 1 → M1 192 (8 * m + c) = (DD V h sm wd (m + 1)).1 c) → M1 142 67 = em V h sm wd (k + 1) → (∀ a b, a < 8 → b < 8 → M1 193 (8 * a + b) = mtk V h pp sm wd k a b) → RD V h (DD V h sm wd (k + 1)) M1 → DK V h (DD V h sm wd (k + 1)) → DH V h (DD V h sm wd (k + 1)) → ax_G L X SH 5 207 123 [(2, 142), (0, (k : Int)), v] [] M1 (R0 P) := by
        intro M1 v hS h1 h2 h3 h4 hR hK hH
        refine g3 hC rfl rfl ?_
        refine c0 hC rfl rfl rfl (Nat.le_of_ble_eq_true rfl) (Nat.le_of_ble_eq_true rfl) (mayR k206 rfl) (m206 (hS.fix hw hF) (hV.sb hS hwr) hW hpp (fun q hq => (hS 194 q rfl).trans (hp q hq)) hR (fun a b ha hb => ⟨h4 a b ha hb, by have := mtk_b (V := V) (h := h) (pp := pp) (sm := sm) (wd := wd) (m := k) (a := a) (b := b); omega, by have := mtk_b (V := V) (h := h) (pp := pp) (sm := sm) (wd := wd) (m := k) (a := a) (b := b); omega⟩)) (Nat.le_of_ble_eq_true rfl) (fun M2 hr => ?_)
        obtain ⟨hr0, hr⟩ := hr; have hS := hS.then hr0 rfl
        refine n1 hC rfl rfl ⟨by omega, by omega⟩ ?_
        refine g14 hC rfl ?_
        refine hnext _ _ ⟨_, rfl, ⟨hS, fun z q hq => ?_, fun c m hc hm => ?_, ?_, fun a b ha hb => ?_⟩, hR.of ?_ ?_ ?_, hK, hH⟩
        · rw [hr0 187 q rfl]; exact h1 z q hq
        · rw [hr0 192 _ rfl]; exact h2 c m hc hm
        · rw [hr0 142 67 rfl]; exact h3
        · by_cases z : cnd V h pp (DD V h sm wd (k + 1)) a b
          · rw [(hr a b ha hb).1 z, mtk_s.1 z]
          · rw [(hr a b ha hb).2 z, mtk_s.2 z]
        all_goals (funext q; exact hr0 _ q rfl)
      have ee : em V h sm wd (k + 1) = if em V h sm wd k = 99 ∧ alo V h (DD V h sm wd (k + 1)).1 (DD V h sm wd (k + 1)).2.1 then (k : Int) else em V h sm wd k := rfl
      have lF : ∀ (m c : Nat), c + m = nC V h → ∀ ll M1, (ll = [(2, 142), (0, (k : Int)), (0, (c : Int))] ∧ BI V h pp sm wd M k M1 ∧ (∀ q, q < c → M1 192 (8 * k + q) = (DD V h sm wd (k + 1)).1 q) ∧ RD V h (DD V h sm wd (k + 1)) M1 ∧ DK V h (DD V h sm wd (k + 1)) ∧ DH V h (DD V h sm wd (k + 1))) → ax_G L X SH 5 207 85 ll [] M1 (R0 P) := by
        refine lp ?_ ?_
        · rintro ll M1 ⟨rfl, hB, h1, hR, hK, hH⟩
          have hS := hB.1
          have h2 : ∀ c m, c < nC V h → m < k + 1 → M1 192 (8 * m + c) = (DD V h sm wd (m + 1)).1 c := by
            intro c m hc hm
            by_cases z : m = k
            · rw [z]; exact h1 c hc
            · exact hB.2.2.1 c m hc (by omega)
          refine g3 hC rfl rfl ?_
          refine g3 hC rfl rfl ?_
          refine c1 hC rfl rfl rfl (Nat.le_of_ble_eq_true rfl) (Nat.le_of_ble_eq_true rfl) (mayR k186 rfl) (m186 (hS.fix hw hF) (hV.sb hS hwr) hW) (Nat.le_of_ble_eq_true rfl) (fun x M2 hr => ?_)
          obtain ⟨rfl, hr⟩ := hr
          replace hr := hr.symm
          subst hr
          refine g13g hC rfl (fun h88 => ?_) (fun h88 => (by omega))
          refine g3 hC rfl rfl ?_
          refine g19 hC rfl sh142 (flt12 rfl) ft12_67 hB.2.2.2.1 ?_
          refine g0 hC rfl ?_
          refine g13n hC rfl (fun h116 => ?_) (fun h116 => ?_)
          ·
            refine lG _ _ hS hB.2.1 h2 ?_ hB.2.2.2.2 hR hK hH
            rw [hB.2.2.2.1, ee, if_neg (fun z => by omega)]
          ·
            refine g3 hC rfl rfl ?_
            refine c1 hC rfl rfl rfl (Nat.le_of_ble_eq_true rfl) (Nat.le_of_ble_eq_true rfl) (mayR k205 rfl) (m205 (hS.fix hw hF) (hV.sb hS hwr) hW) (Nat.le_of_ble_eq_true rfl) (fun x M2 hr => ?_)
            obtain ⟨f4, hr⟩ := hr; replace hr := hr.symm; subst hr
            refine g12e hC rfl (fun h119 => ?_) (fun h119 => ?_)
            ·
              refine lG _ _ hS hB.2.1 h2 ?_ hB.2.2.2.2 hR hK hH
              rw [hB.2.2.2.1, ee, if_neg (fun z => ?_)]
              rcases f4 with ⟨q, -⟩ | ⟨-, q⟩
              · omega
              · exact q (fun c hc => (hR.ow hc).2 (z.2 c hc))
            ·
              refine g3 hC rfl rfl ?_
              refine g3 hC rfl rfl ?_
              refine g20s hC rfl sh142 (flt12 rfl) (by rw [fy12_67]; rfl) hS rfl (fun hS => ?_)
              refine lG _ _ hS hB.2.1 h2 ?_ hB.2.2.2.2 hR hK hH
              rw [ax_up_at, ee, if_pos]
              refine ⟨by omega, fun c hc => (hR.ow hc).1 ?_⟩
              rcases f4 with ⟨-, q⟩ | ⟨q, -⟩
              · exact q c hc
              · omega
        · rintro c hc ll M1 ⟨rfl, hB, h1, hR, hK, hH⟩ hnx
          have hS := hB.1
          have hRc := hR c hc
          have hHc := hH c hc
          have nxD : ∀ x, x = (DD V h sm wd (k + 1)).1 c → Sb XD M (ax_up M1 192 (8 * k + c) x) → ax_G L X SH 5 207 85 [(2, 142), (0, (k : Int)), (0, (c : Int) + 1)] [] (ax_up M1 192 (8 * k + c) x) (R0 P) := by
            intro x hx hS
            refine hnx _ _ ⟨rfl, ⟨hS, hB.2.1, fun c' m hc' hm => ?_, hB.2.2.2.1, hB.2.2.2.2⟩, fun q hq => ?_, hR.of rfl rfl rfl, hK, hH⟩
            · rw [ax_up_of (by omega)]; exact hB.2.2.1 c' m hc' hm
            · by_cases z : q = c
              · rw [z, ax_up_at]; exact hx
              · rw [ax_up_of (by omega)]; exact h1 q (by omega)
          refine g3 hC rfl rfl ?_
          refine g3 hC rfl rfl ?_
          refine c1 hC rfl rfl rfl (Nat.le_of_ble_eq_true rfl) (Nat.le_of_ble_eq_true rfl) (mayR k186 rfl) (m186 (hS.fix hw hF) (hV.sb hS hwr) hW) (Nat.le_of_ble_eq_true rfl) (fun x M2 hr => ?_)
          obtain ⟨rfl, hr⟩ := hr
          replace hr := hr.symm
          subst hr
          refine g13g hC rfl (fun h88 => (by omega)) (fun h88 => ?_)
          refine g3 hC rfl rfl ?_
          refine g19 hC rfl sh142 (flt12 rfl) ft12_65 ((hS.fix hw hF).g fx_142_65) ?_
          refine g0 hC rfl ?_
          refine g3 hC rfl rfl ?_
          refine g6m hC rfl ⟨by omega, by omega⟩ ?_
          refine g3 hC rfl rfl ?_
          refine g6a hC rfl ⟨by omega, by omega⟩ ?_
          refine g3 hC rfl rfl ?_
          refine g19 hC rfl sh142 (flt12 rfl) ft12_64 ((hS.fix hw hF).g fx_142_64) ?_
          refine g3 hC rfl rfl ?_
          refine r21 (c) hC rfl (by omega) sh191 (Or.inl rfl) (by omega) hRc.2.1 ?_
          refine g0 hC rfl ?_
          refine g13n hC rfl (fun h101 => ?_) (fun h101 => ?_)
          ·
            refine g3 hC rfl rfl ?_
            refine g3 hC rfl rfl ?_
            refine c1 hC rfl rfl rfl (Nat.le_of_ble_eq_true rfl) (Nat.le_of_ble_eq_true rfl) (mayR k190 rfl) (m190 (hS.fix hw hF) (hV.sb hS hwr) hW (by omega)) (Nat.le_of_ble_eq_true rfl) (fun x M2 hr => ?_)
            obtain ⟨rfl, hr⟩ := hr
            replace hr := hr.symm
            subst hr
            refine r22s (((8 * k) + c)) hC rfl (by omega) sh192 (by omega) rfl hS rfl (fun hS => ?_)
            refine n2 hC rfl rfl ⟨by omega, by omega⟩ ?_
            refine g14 hC rfl ?_
            exact nxD _ (hHc h101).symm hS
          ·
            refine g3 hC rfl rfl ?_
            refine g19 hC rfl sh142 (flt12 rfl) ft12_62 ((hS.fix hw hF).g fx_142_62) ?_
            refine g3 hC rfl rfl ?_
            refine r21 (c) hC rfl (by omega) sh189 (Or.inl rfl) (by omega) rfl ?_
            refine g14 hC rfl ?_
            refine r22s (((8 * k) + c)) hC rfl (by omega) sh192 (by omega) rfl hS rfl (fun hS => ?_)
            refine n2 hC rfl rfl ⟨by omega, by omega⟩ ?_
            refine g14 hC rfl ?_
            exact nxD _ (hRc.1 (by omega)) hS
      have lE : ∀ (m c : Nat), c + m = nC V h → ∀ ll M1, (ll = [(2, 142), (0, (k : Int)), (0, (c : Int))] ∧ BI V h pp sm wd M k M1 ∧ RD V h (it (D1 V h (far V h sm wd) k) c ((DD V h sm wd k).1, (DD V h sm wd k).2.1, (DD V h sm wd k).2.2.1, wid V h sm wd)) M1 ∧ GF V h sm wd (M1 188) (it (D1 V h (far V h sm wd) k) c ((DD V h sm wd k).1, (DD V h sm wd k).2.1, (DD V h sm wd k).2.2.1, wid V h sm wd)).2.2.2 ∧ DK V h (it (D1 V h (far V h sm wd) k) c ((DD V h sm wd k).1, (DD V h sm wd k).2.1, (DD V h sm wd k).2.2.1, wid V h sm wd)) ∧ DH V h (it (D1 V h (far V h sm wd) k) c ((DD V h sm wd k).1, (DD V h sm wd k).2.1, (DD V h sm wd k).2.2.1, wid V h sm wd))) → ax_G L X SH 5 207 73 ll [] M1 (R0 P) := by
        refine lp ?_ ?_
        · rintro ll M1 ⟨rfl, hB, hR, hG, hK, hH⟩
          have hS := hB.1
          refine g3 hC rfl rfl ?_
          refine g3 hC rfl rfl ?_
          refine c1 hC rfl rfl rfl (Nat.le_of_ble_eq_true rfl) (Nat.le_of_ble_eq_true rfl) (mayR k186 rfl) (m186 (hS.fix hw hF) (hV.sb hS hwr) hW) (Nat.le_of_ble_eq_true rfl) (fun x M2 hr => ?_)
          obtain ⟨rfl, hr⟩ := hr
          replace hr := hr.symm
          subst hr
          refine g13g hC rfl (fun h76 => ?_) (fun h76 => (by omega))
          refine g0 hC rfl ?_
          refine s2 hC rfl rfl rfl ?_
          exact lF (nC V h) 0 (Nat.zero_add _) _ _ ⟨rfl, hB, fun q hq => absurd hq (Nat.not_lt_zero q), hR, hK, hH⟩
        · rintro c hc ll M1 ⟨rfl, hB, hR, hG, hK, hH⟩ hnx
          have hS := hB.1
          have hn0 : 0 < nR V h := by have := hW.2.2.2.1 c hc; omega
          refine g3 hC rfl rfl ?_
          refine g3 hC rfl rfl ?_
          refine c1 hC rfl rfl rfl (Nat.le_of_ble_eq_true rfl) (Nat.le_of_ble_eq_true rfl) (mayR k186 rfl) (m186 (hS.fix hw hF) (hV.sb hS hwr) hW) (Nat.le_of_ble_eq_true rfl) (fun x M2 hr => ?_)
          obtain ⟨rfl, hr⟩ := hr
          replace hr := hr.symm
          subst hr
          refine g13g hC rfl (fun h76 => (by omega)) (fun h76 => ?_)
          refine g3 hC rfl rfl ?_
          refine g3 hC rfl rfl ?_
          refine g3 hC rfl rfl ?_
          refine c0 hC rfl rfl rfl (Nat.le_of_ble_eq_true rfl) (Nat.le_of_ble_eq_true rfl) (mayR k204 rfl) (m204 (hS.fix hw hF) (hV.sb hS hwr) hW hSW hPW hk hc ((hS 142 69 rfl).trans hsm) ((hS 142 70 rfl).trans hwd) hG (hB.2.1 hn0) hR hK) (Nat.le_of_ble_eq_true rfl) (fun M2 hr => ?_)
          obtain ⟨hr0, hr1, hr2⟩ := hr; have hS := hS.then hr0 rfl
          refine n2 hC rfl rfl ⟨by omega, by omega⟩ ?_
          refine g14 hC rfl ?_
          exact hnx _ _ ⟨rfl, hB.of hS (funext fun q => hr0 187 q rfl) (funext fun q => hr0 192 q rfl) (funext fun q => hr0 193 q rfl) (hr0 142 67 rfl), hr1, hr2, DK_D1 hW hk hc hK, DH_D1 hc hH⟩
      have lD : ∀ (m s : Nat), s + m = 10 → ∀ ll M1, (ll = [(2, 142), (0, (k : Int)), (0, (s : Int))] ∧ BI V h pp sm wd M k M1 ∧ RD V h (DD V h sm wd k) M1 ∧ ∀ q, q < s → M1 188 q = 0) → ax_G L X SH 5 207 61 ll [] M1 (R0 P) := by
        refine lp ?_ ?_
        · rintro ll M1 ⟨rfl, hB, hR, h1⟩
          have hS := hB.1
          refine g3 hC rfl rfl ?_
          refine g0 hC rfl ?_
          refine g13g hC rfl (fun h63 => ?_) (fun h63 => (by omega))
          refine g0 hC rfl ?_
          refine s2 hC rfl rfl rfl ?_
          refine lE (nC V h) 0 (Nat.zero_add _) _ _ ⟨rfl, hB, hR, fun s hs => ?_, ⟨hK.1, fun s hs => wid_b hW hs⟩, hH⟩
          have w1 := wid_b (sm := sm) (wd := wd) hW hs
          have w2 := h1 s (by omega)
          refine ⟨fun z => ?_, fun z => ?_, w1.1, w1.2, by omega, by omega⟩
          · exact if_pos z
          · show M1 188 s = wid V h sm wd s - wid V h sm wd s
            omega
        · rintro s hs ll M1 ⟨rfl, hB, hR, h1⟩ hnx
          have hS := hB.1
          refine g3 hC rfl rfl ?_
          refine g0 hC rfl ?_
          refine g13g hC rfl (fun h63 => (by omega)) (fun h63 => ?_)
          refine g3 hC rfl rfl ?_
          refine g19 hC rfl sh142 (flt12 rfl) ft12_61 ((hS.fix hw hF).g fx_142_61) ?_
          refine g3 hC rfl rfl ?_
          refine g0 hC rfl ?_
          refine r22s (s) hC rfl (by omega) sh188 (by omega) rfl hS rfl (fun hS => ?_)
          refine n2 hC rfl rfl ⟨by omega, by omega⟩ ?_
          refine g14 hC rfl ?_
          refine hnx _ _ ⟨rfl, hB.of hS rfl rfl rfl rfl, hR.of rfl rfl rfl, fun q hq => ?_⟩
          by_cases z : q = s
          · rw [z, ax_up_at]
          · rw [ax_up_of z]; exact h1 q (by omega)
      have hS := hB.1
      refine g3 hC rfl rfl ?_
      refine g0 hC rfl ?_
      refine g13g hC rfl (fun h58 => (by omega)) (fun h58 => ?_)
      refine g0 hC rfl ?_
      refine s2 hC rfl rfl rfl ?_
      exact lD 10 0 rfl _ _ ⟨rfl, hB, hR, fun q hq => absurd hq (Nat.not_lt_zero q)⟩
  have hK0 : DK V h (D0 V h sm wd) := by
    refine ⟨fun c hc => ?_, fun s hs => wid_b hW hs⟩
    have := hW.2.2.2.1 c hc
    unfold D0; dsimp only
    refine ⟨by omega, by omega, fun _ q => ?_, by omega, by omega⟩
    rw [if_neg (by omega)]
  have e0 : em V h sm wd 0 = if alo V h (DD V h sm wd 0).1 (DD V h sm wd 0).2.1 then -1 else 99 := rfl
  have lB : ∀ (m k : Nat), k + m = 64 → ∀ ll M1, (∃ v, ll = [(2, 142), (0, (k : Int)), v] ∧ Sb XD M M1 ∧ (0 < nR V h → on8 (M1 187) (far V h sm wd)) ∧ RD V h (DD V h sm wd 0) M1 ∧ ∀ i, i < k → M1 193 i = 0) → ax_G L X SH 5 207 36 ll [] M1 (R0 P) := by
    refine lp ?_ ?_
    · rintro ll M1 ⟨v, rfl, hS, h1, hR, h2⟩
      have nxD : ∀ x v, x = em V h sm wd 0 → Sb XD M (ax_up M1 142 67 x) → ax_G L X SH 5 207 56 [(2, 142), (0, 0), v] [] (ax_up M1 142 67 x) (R0 P) := by
        intro x v hx hS
        refine lC 9 0 rfl _ _ ⟨_, rfl, ⟨hS, h1, fun c m hc hm => absurd hm (Nat.not_lt_zero m), ?_, fun a b ha hb => ?_⟩, hR.of rfl rfl rfl, hK0, fun c hc y => absurd rfl y⟩
        · rw [ax_up_at]; exact hx
        · rw [ax_up_ne (by decide), h2 _ (by omega)]
          unfold mtk; split <;> rfl
      refine g3 hC rfl rfl ?_
      refine g0 hC rfl ?_
      refine g13g hC rfl (fun h38 => ?_) (fun h38 => (by omega))
      refine g3 hC rfl rfl ?_
      refine g3 hC rfl rfl ?_
      refine c1 hC rfl rfl rfl (Nat.le_of_ble_eq_true rfl) (Nat.le_of_ble_eq_true rfl) (mayR k205 rfl) (m205 (hS.fix hw hF) (hV.sb hS hwr) hW) (Nat.le_of_ble_eq_true rfl) (fun x M2 hr => ?_)
      obtain ⟨f4, hr⟩ := hr; replace hr := hr.symm; subst hr
      refine g12e hC rfl (fun h49 => ?_) (fun h49 => ?_)
      ·
        refine g0 hC rfl ?_
        refine g20s hC rfl sh142 (flt12 rfl) (by rw [fy12_67]; rfl) hS rfl (fun hS => ?_)
        refine g0 hC rfl ?_
        refine s1 hC rfl rfl rfl ?_
        refine nxD _ _ ?_ hS
        rw [e0, if_neg (fun z => ?_)]
        rcases f4 with ⟨q, -⟩ | ⟨-, q⟩
        · omega
        · exact q (fun c hc => (hR.ow hc).2 (z c hc))
      ·
        refine g0 hC rfl ?_
        refine g14 hC rfl ?_
        refine g20s hC rfl sh142 (flt12 rfl) (by rw [fy12_67]; rfl) hS rfl (fun hS => ?_)
        refine g0 hC rfl ?_
        refine s1 hC rfl rfl rfl ?_
        refine nxD _ _ ?_ hS
        rw [e0, if_pos]
        rcases f4 with ⟨-, q⟩ | ⟨q, -⟩
        · exact fun c hc => (hR.ow hc).1 (q c hc)
        · omega
    · rintro k hk ll M1 ⟨v, rfl, hS, h1, hR, h2⟩ hnext
      refine g3 hC rfl rfl ?_
      refine g0 hC rfl ?_
      refine g13g hC rfl (fun h38 => (by omega)) (fun h38 => ?_)
      refine g3 hC rfl rfl ?_
      refine g19 hC rfl sh142 (flt12 rfl) ft12_66 ((hS.fix hw hF).g fx_142_66) ?_
      refine g3 hC rfl rfl ?_
      refine g0 hC rfl ?_
      refine r22s (k) hC rfl (by omega) sh193 (by omega) rfl hS rfl (fun hS => ?_)
      refine n1 hC rfl rfl ⟨by omega, by omega⟩ ?_
      refine g14 hC rfl ?_
      refine hnext _ _ ⟨_, rfl, hS, h1, hR.of rfl rfl rfl, fun q hq => ?_⟩
      by_cases z : q = k
      · rw [z, ax_up_at]
      · rw [ax_up_of z]; exact h2 q (by omega)
  have lA : ∀ (m k : Nat), k + m = nC V h → ∀ ll M1, (∃ v, ll = [(2, 142), (0, (k : Int)), v] ∧ Sb XD M M1 ∧ (0 < nR V h → on8 (M1 187) (far V h sm wd)) ∧ ∀ c, c < k → M1 189 c = (ch V h c : Int) ∧ M1 191 c = -1 ∧ M1 190 c = (if ch V h c = 0 then -1 else 99)) → ax_G L X SH 5 207 4 ll [] M1 (R0 P) := by
    refine lp ?_ ?_
    · rintro ll M1 ⟨v, rfl, hS, h1, h2⟩
      refine g3 hC rfl rfl ?_
      refine g3 hC rfl rfl ?_
      refine c1 hC rfl rfl rfl (Nat.le_of_ble_eq_true rfl) (Nat.le_of_ble_eq_true rfl) (mayR k186 rfl) (m186 (hS.fix hw hF) (hV.sb hS hwr) hW) (Nat.le_of_ble_eq_true rfl) (fun x M2 hr => ?_)
      obtain ⟨rfl, hr⟩ := hr
      replace hr := hr.symm
      subst hr
      refine g13g hC rfl (fun h7 => ?_) (fun h7 => (by omega))
      refine g0 hC rfl ?_
      refine s1 hC rfl rfl rfl ?_
      exact lB 64 0 rfl _ _ ⟨_, rfl, hS, h1, fun c hc => ⟨fun _ => (h2 c hc).1, (h2 c hc).2⟩, fun i hi => absurd hi (Nat.not_lt_zero i)⟩
    · rintro k hk ll M1 ⟨v, rfl, hS, h1, h2⟩ hnext
      have nxD : ∀ x M2, x = (if ch V h k = 0 then -1 else 99) → Sb XD M M2 → M2 = ax_up (ax_up (ax_up M1 189 k (ch V h k : Int)) 190 k x) 191 k (-1) → ax_G L X SH 5 207 4 [(2, 142), (0, (k : Int) + 1), v] [] M2 (R0 P) := by
        intro x M2 hx hS e
        refine hnext _ _ ⟨_, rfl, hS, by rw [e]; exact h1, fun c hc => ?_⟩
        have a1 : M2 189 c = up (M1 189) k (ch V h k : Int) c := by rw [e, ax_up_ne (by decide), ax_up_ne (by decide), ax_upf]
        have a2 : M2 191 c = up (M1 191) k (-1) c := by rw [e, ax_upf, ax_up_ne (by decide), ax_up_ne (by decide)]
        have a3 : M2 190 c = up (M1 190) k x c := by rw [e, ax_up_ne (by decide), ax_upf, ax_up_ne (by decide)]
        rw [a1, a2, a3]
        unfold up
        by_cases z : c = k
        · rw [if_pos z, if_pos z, if_pos z, z]; exact ⟨rfl, rfl, hx⟩
        · rw [if_neg z, if_neg z, if_neg z]; exact h2 c (by omega)
      refine g3 hC rfl rfl ?_
      refine g3 hC rfl rfl ?_
      refine c1 hC rfl rfl rfl (Nat.le_of_ble_eq_true rfl) (Nat.le_of_ble_eq_true rfl) (mayR k186 rfl) (m186 (hS.fix hw hF) (hV.sb hS hwr) hW) (Nat.le_of_ble_eq_true rfl) (fun x M2 hr => ?_)
      obtain ⟨rfl, hr⟩ := hr
      replace hr := hr.symm
      subst hr
      refine g13g hC rfl (fun h7 => (by omega)) (fun h7 => ?_)
      refine g3 hC rfl rfl ?_
      refine g19 hC rfl sh142 (flt12 rfl) ft12_62 ((hS.fix hw hF).g fx_142_62) ?_
      refine g3 hC rfl rfl ?_
      refine g3 hC rfl rfl ?_
      refine g3 hC rfl rfl ?_
      refine c1 hC rfl rfl rfl (Nat.le_of_ble_eq_true rfl) (Nat.le_of_ble_eq_true rfl) (mayR k190 rfl) (m190 (hS.fix hw hF) (hV.sb hS hwr) hW (by omega)) (Nat.le_of_ble_eq_true rfl) (fun x M2 hr => ?_)
      obtain ⟨rfl, hr⟩ := hr
      replace hr := hr.symm
      subst hr
      refine r22s (k) hC rfl (by omega) sh189 (by omega) rfl hS rfl (fun hS => ?_)
      refine g3 hC rfl rfl ?_
      refine g19 hC rfl sh142 (flt12 rfl) ft12_63 ((hS.fix hw hF).g fx_142_63) ?_
      refine g3 hC rfl rfl ?_
      refine g3 hC rfl rfl ?_
      refine g19 hC rfl sh142 (flt12 rfl) ft12_62 ((hS.fix hw hF).g fx_142_62) ?_
      refine g3 hC rfl rfl ?_
      refine r21 (k) hC rfl (by omega) sh189 (Or.inl rfl) (by omega) ax_up_at ?_
      refine g12n hC rfl (fun h22 => ?_) (fun h22 => ?_)
      ·
        refine g0 hC rfl ?_
        refine r22s (k) hC rfl (by omega) sh190 (by omega) rfl hS rfl (fun hS => ?_)
        refine g3 hC rfl rfl ?_
        refine g19 hC rfl sh142 (flt12 rfl) ft12_64 ((hS.fix hw hF).g fx_142_64) ?_
        refine g3 hC rfl rfl ?_
        refine g0 hC rfl ?_
        refine r22s (k) hC rfl (by omega) sh191 (by omega) rfl hS rfl (fun hS => ?_)
        refine n1 hC rfl rfl ⟨by omega, by omega⟩ ?_
        refine g14 hC rfl ?_
        exact nxD _ _ (by rw [if_neg (by omega)]) hS rfl
      ·
        refine g0 hC rfl ?_
        refine g14 hC rfl ?_
        refine r22s (k) hC rfl (by omega) sh190 (by omega) rfl hS rfl (fun hS => ?_)
        refine g3 hC rfl rfl ?_
        refine g19 hC rfl sh142 (flt12 rfl) ft12_64 ((hS.fix hw hF).g fx_142_64) ?_
        refine g3 hC rfl rfl ?_
        refine g0 hC rfl ?_
        refine r22s (k) hC rfl (by omega) sh191 (by omega) rfl hS rfl (fun hS => ?_)
        refine n1 hC rfl rfl ⟨by omega, by omega⟩ ?_
        refine g14 hC rfl ?_
        exact nxD _ _ (by rw [if_pos (by omega)]) hS rfl
  refine g3 hC rfl rfl ?_
  refine c0 hC rfl rfl rfl (Nat.le_of_ble_eq_true rfl) (Nat.le_of_ble_eq_true rfl) (mayR k198 rfl) (m198 hF hV hW hsm (wd := wd)) (Nat.le_of_ble_eq_true rfl) (fun M2 hr => ?_)
  obtain ⟨hr0, hr⟩ := hr; have hS := hS.then hr0 rfl
  refine g0 hC rfl ?_
  refine s1 hC rfl rfl rfl ?_
  exact lA (nC V h) 0 (Nat.zero_add _) _ _ ⟨_, rfl, hS, hr, fun c hc => absurd hc (Nat.not_lt_zero c)⟩
theorem m208 (hF : Fix M) (hV : RV V h M) (hW : HW V h) (hSW : SW V) (hPW : PW V h) {sm wd : Int} (hsm : M 142 69 = sm) (hwd : M 142 70 = wd) : ax_Ev L X SH 6 208 [(2, 142)] M (R0 (fun M' => Sb XN M M' ∧ RO V h (V 46) sm wd M')) := by
  show ax_G L X SH 6 208 0 [(2, 142), (3, 0)] [] M _
  have hC := at208
  have hw : wok XN = true := by decide +kernel
  have hwr : rok XN := rokI rfl
  have hS : Sb XN M M := Sb.refl
  have l1 : ∀ (m k : Nat), k + m = 5 → ∀ ll M1, (ll = [(2, 142), (0, (k : Int))] ∧ Sb XN M M1 ∧ ∀ q, q < k → M1 194 q = V 46 q) → ax_G L X SH 6 208 2 ll [] M1 (R0 (fun M' => Sb XN M M' ∧ RO V h (V 46) sm wd M')) := by
    refine lp ?_ ?_
    · rintro ll M1 ⟨rfl, hS, h1⟩
      refine g3 hC rfl rfl ?_
      refine g0 hC rfl ?_
      refine g13g hC rfl (fun h4 => ?_) (fun h4 => (by omega))
      refine g3 hC rfl rfl ?_
      refine c0 hC rfl rfl rfl (Nat.le_of_ble_eq_true rfl) (Nat.le_of_ble_eq_true rfl) (mayR k207 rfl) (m207 (hS.fix hw hF) (hV.sb hS hwr) hW hSW hPW ((hS 142 69 rfl).trans hsm) ((hS 142 70 rfl).trans hwd) (fun q hq => by have := hSW.2.1 q (by have := hW.1.2.2.1.2; omega); omega) (fun q hq => h1 q (by have := hW.1.2.2.1.2; omega))) (Nat.le_of_ble_eq_true rfl) (fun M2 hr => ?_)
      obtain ⟨hr0, hr⟩ := hr; have hS := hS.then hr0 rfl
      refine ret0 hC rfl ?_
      exact ⟨hS, hr⟩
    · rintro k hk ll M1 ⟨rfl, hS, h1⟩ hnext
      refine g3 hC rfl rfl ?_
      refine g0 hC rfl ?_
      refine g13g hC rfl (fun h4 => (by omega)) (fun h4 => ?_)
      refine g3 hC rfl rfl ?_
      refine g19 hC rfl sh142 (flt12 rfl) ft12_68 ((hS.fix hw hF).g fx_142_68) ?_
      refine g3 hC rfl rfl ?_
      refine g3 hC rfl rfl ?_
      refine g19 hC rfl sh142 (flt12 rfl) ft12_54 ((hS.fix hw hF).g fx_142_54) ?_
      refine g0 hC rfl ?_
      refine g3 hC rfl rfl ?_
      refine g6a hC rfl ⟨by omega, by omega⟩ ?_
      refine r21 ((1 + k)) hC rfl (by omega) sh185 (Or.inl rfl) (by omega) (rmpo hS hwr hV hW (by omega)) ?_
      refine r22s (k) hC rfl (by omega) sh194 (by omega) rfl hS rfl (fun hS => ?_)
      refine n1 hC rfl rfl ⟨by omega, by omega⟩ ?_
      refine g14 hC rfl ?_
      refine hnext _ _ ⟨rfl, hS, fun q hq => ?_⟩
      by_cases z : q = k
      · rw [z, ax_up_at]
      · rw [ax_up_of z]; exact h1 q (by omega)
  refine g0 hC rfl ?_
  refine s1 hC rfl rfl rfl ?_
  exact l1 5 0 rfl _ _ ⟨rfl, hS, fun c hc => absurd hc (Nat.not_lt_zero c)⟩
end RGO
