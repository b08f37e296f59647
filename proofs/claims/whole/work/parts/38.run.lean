def tg (V : ax_M) (h : Nat) (sm wd : Int) (a b m : Nat) : Int := it (fun m (n : Int) => n + (if a ≠ b ∧ ow (DD V h sm wd (m + 1)) a ∧ ow (DD V h sm wd (m + 1)) b then 1 else 0)) m 0
def em (V : ax_M) (h : Nat) (sm wd : Int) (m : Nat) : Int := it (fun m (e : Int) => if e = 99 ∧ alo V h (DD V h sm wd (m + 1)).1 (DD V h sm wd (m + 1)).2.1 then (m : Int) else e) m (if alo V h (DD V h sm wd 0).1 (DD V h sm wd 0).2.1 then -1 else 99)
def apt (V : ax_M) (h a b : Nat) : Int := if 0 ≤ V 46 (ckq V h a) - V 46 (ckq V h b) then V 46 (ckq V h a) - V 46 (ckq V h b) else -(V 46 (ckq V h a) - V 46 (ckq V h b))
def mt (V : ax_M) (h : Nat) (sm wd : Int) (a b : Nat) : Int := if a < nC V h ∧ b < nC V h ∧ apt V h a b ≤ V h 17 then tg V h sm wd a b 9 else 0
theorem tg_b {V : ax_M} {h : Nat} {sm wd : Int} {a b : Nat} : ∀ m : Nat, 0 ≤ tg V h sm wd a b m ∧ tg V h sm wd a b m ≤ m := by
  intro m
  induction m with
  | zero => exact ⟨Int.le_refl _, Int.le_refl _⟩
  | succ m ih =>
    have e : tg V h sm wd a b (m + 1) = tg V h sm wd a b m + (if a ≠ b ∧ ow (DD V h sm wd (m + 1)) a ∧ ow (DD V h sm wd (m + 1)) b then 1 else 0) := rfl
    rw [e]; split <;> omega
theorem mt_b {V : ax_M} {h : Nat} {sm wd : Int} {a b : Nat} : 0 ≤ mt V h sm wd a b ∧ mt V h sm wd a b ≤ 9 := by
  have := tg_b (V := V) (h := h) (sm := sm) (wd := wd) (a := a) (b := b) 9
  unfold mt; split <;> omega
section RUN
variable {L : Nat} {X : Nat → Int} {M V : ax_M} {h : Nat}
theorem m15 (hF : Fix M) (hh : h = 9 ∨ h = 27) (hV : HV V h M) (hW : HW V h) (hSW : SW V) {a b : Nat} (ha : a < nC V h) (hb : b < nC V h) : ax_Ev L X SH 1 15 [(2, (h : Int)), (2, 45), (0, (a : Int)), (0, (b : Int))] M (R1 0 (fun x M' => x = apt V h a b ∧ M' = M)) := by
  show ax_G L X SH 1 15 0 [(2, (h : Int)), (2, 45), (0, (a : Int)), (0, (b : Int))] [] M _
  have hC := at15
  have hw : wok W6 = true := by decide +kernel
  have hwh : hok W6 h := hokB (by decide +kernel) hh
  have hS : Sb W6 M M := Sb.refl
  have hb3 := hW.1.2.2.2.2
  have hb4 := hW.1.2.2.1.2
  have h1 := hW.2.2.2.1 a ha
  have h2 := hW.2.2.2.1 b hb
  have s1 := hSW.2.1 (ckq V h a) (by omega)
  have s2 := hSW.2.1 (ckq V h b) (by omega)
  refine g3 hC rfl rfl ?_
  refine g19 hC rfl rfl (Nat.le_of_ble_eq_true rfl) rfl ((hS.fix hw hF).g rfl) ?_
  refine g3 hC rfl rfl ?_
  refine g19 hC rfl (shH hh) (Nat.le_of_ble_eq_true rfl) rfl ((hS.fix hw hF).h (v := 9) hh rfl rfl) ?_
  refine g3 hC rfl rfl ?_
  refine r21 (a) hC rfl (by omega) (shA (v := 9) hh rfl rfl) (Or.inl rfl) (by omega) (rdQ hS hwh hV hW (by omega)) ?_
  refine r21 ((ckq V h (a))) hC rfl (by omega) rfl (Or.inl rfl) (by omega) ((hS _ _ rfl).trans (hV.2 _).2.1) ?_
  refine g3 hC rfl rfl ?_
  refine g19 hC rfl rfl (Nat.le_of_ble_eq_true rfl) rfl ((hS.fix hw hF).g rfl) ?_
  refine g3 hC rfl rfl ?_
  refine g19 hC rfl (shH hh) (Nat.le_of_ble_eq_true rfl) rfl ((hS.fix hw hF).h (v := 9) hh rfl rfl) ?_
  refine g3 hC rfl rfl ?_
  refine r21 (b) hC rfl (by omega) (shA (v := 9) hh rfl rfl) (Or.inl rfl) (by omega) (rdQ hS hwh hV hW (by omega)) ?_
  refine r21 ((ckq V h (b))) hC rfl (by omega) rfl (Or.inl rfl) (by omega) ((hS _ _ rfl).trans (hV.2 _).2.1) ?_
  refine g6s hC rfl ⟨by omega, by omega⟩ ?_
  refine c1 hC rfl rfl rfl (Nat.le_of_ble_eq_true rfl) (Nat.le_of_ble_eq_true rfl) rfl (m303 ⟨by omega, by omega⟩ (by omega)) (Nat.le_of_ble_eq_true rfl) (fun x M2 hr => ?_)
  obtain ⟨rfl, hr⟩ := hr
  replace hr := hr.symm
  subst hr
  refine ret1 hC rfl rfl ?_
  exact ⟨rfl, rfl⟩
theorem m14 (hF : Fix M) (hh : h = 9 ∨ h = 27) (hV : HV V h M) (hW : HW V h) (hSW : SW V) {sm wd : Int} (hT : ∀ a b, a < nC V h → b < nC V h → M (86 + a) b = tg V h sm wd a b 9) : ax_Ev L X SH 2 14 [(2, 71), (2, (h : Int)), (2, 45)] M (R0 (fun M' => Sb W14 M M' ∧ ∀ a b, a < 8 → b < 8 → M' (95 + a) b = mt V h sm wd a b)) := by
  show ax_G L X SH 2 14 0 [(2, 71), (2, (h : Int)), (2, 45), (3, 0), (3, 0), (3, 0)] [] M _
  have hC := at14
  have hw : wok W14 = true := by decide +kernel
  have hwh : hok W14 h := hokB (by decide +kernel) hh
  have hb3 := hW.1.2.2.2.2
  have l1 : ∀ (m k : Nat), k + m = 8 → ∀ ll M1, (∃ u v, ll = [(2, 71), (2, (h : Int)), (2, 45), (0, (k : Int)), u, v] ∧ Sb W14 M M1 ∧ ∀ a b, a < k → b < 8 → M1 (95 + a) b = mt V h sm wd a b) → ax_G L X SH 2 14 2 ll [] M1 (R0 (fun M' => Sb W14 M M' ∧ ∀ a b, a < 8 → b < 8 → M' (95 + a) b = mt V h sm wd a b)) := by
    refine lp ?_ ?_
    · rintro ll M1 ⟨u, v, rfl, hS, h1⟩
      refine g3 hC rfl rfl ?_
      refine g0 hC rfl ?_
      refine g13g hC rfl (fun h4 => ?_) (fun h4 => (by omega))
      refine ret0 hC rfl ?_
      exact ⟨hS, h1⟩
    · rintro k hk ll M1 ⟨u, v, rfl, hS, h1⟩ hnext
      have l2 : ∀ (m o : Nat), o + m = 8 → ∀ ll M1, (∃ v, ll = [(2, 71), (2, (h : Int)), (2, 45), (0, (k : Int)), (0, (o : Int)), v] ∧ Sb W14 M M1 ∧ ∀ a b, a < 8 → b < 8 → (a < k ∨ (a = k ∧ b < o)) → M1 (95 + a) b = mt V h sm wd a b) → ax_G L X SH 2 14 7 ll [] M1 (R0 (fun M' => Sb W14 M M' ∧ ∀ a b, a < 8 → b < 8 → M' (95 + a) b = mt V h sm wd a b)) := by
        refine lp ?_ ?_
        · rintro ll M1 ⟨v, rfl, hS, h1⟩
          refine g3 hC rfl rfl ?_
          refine g0 hC rfl ?_
          refine g13g hC rfl (fun h9 => ?_) (fun h9 => (by omega))
          refine n3 hC rfl rfl ⟨by omega, by omega⟩ ?_
          refine g14 hC rfl ?_
          exact hnext _ _ ⟨_, _, rfl, hS, fun a b ha hb => h1 a b (by omega) hb (by omega)⟩
        · rintro o ho ll M1 ⟨v, rfl, hS, h1⟩ hnext
          have fin : ∀ x (v : ax_V), x = mt V h sm wd k o → Sb W14 M (ax_up M1 (95 + k) o x) → ax_G L X SH 2 14 7 [(2, 71), (2, (h : Int)), (2, 45), (0, (k : Int)), (0, (o : Int) + 1), v] [] (ax_up M1 (95 + k) o x) (R0 (fun M' => Sb W14 M M' ∧ ∀ a b, a < 8 → b < 8 → M' (95 + a) b = mt V h sm wd a b)) := by
            intro x v hx hS
            refine hnext _ _ ⟨v, rfl, hS, fun a b ha hb hab => ?_⟩
            by_cases z : a = k ∧ b = o
            · rw [z.1, z.2, up1]; exact hx
            · rw [up2 (by omega)]; exact h1 a b ha hb (by omega)
          have hko : k < nC V h → o < nC V h → M1 (86 + k) o = tg V h sm wd k o 9 := fun q1 q2 => by rw [hS _ _ (wbo 86 94 rfl (by omega) (by omega))]; exact hT k o q1 q2
          refine g3 hC rfl rfl ?_
          refine g0 hC rfl ?_
          refine g13g hC rfl (fun h9 => (by omega)) (fun h9 => ?_)
          refine g3 hC rfl rfl ?_
          refine g3 hC rfl rfl ?_
          refine g19 hC rfl (shH hh) (Nat.le_of_ble_eq_true rfl) rfl (rd3 hS hwh hV hW) ?_
          refine g13g hC rfl (fun h13 => ?_) (fun h13 => ?_)
          ·
            refine g0 hC rfl ?_
            refine s5 hC rfl rfl rfl ?_
            refine g3 hC rfl rfl ?_
            refine g19 hC rfl rfl (Nat.le_of_ble_eq_true rfl) rfl ((hS.fix hw hF).g fx_71_5) ?_
            refine g3 hC rfl rfl ?_
            refine r21 (k) hC rfl (by omega) sh94 (Or.inl rfl) (by omega) ((hS.fix hw hF).r (n := 8) (v := 95) rfl (by omega)) ?_
            refine g3 hC rfl rfl ?_
            refine g3 hC rfl rfl ?_
            refine g12e hC rfl (fun h36 => ?_) (fun h36 => ?_)
            ·
              refine g0 hC rfl ?_
              refine r22s (o) hC rfl (by omega) (shR95 (by omega)) (by omega) rfl hS (wbr (lo := 95) (hi := 103) rfl (by omega) (by omega)) (fun hS => ?_)
              refine n4 hC rfl rfl ⟨by omega, by omega⟩ ?_
              refine g14 hC rfl ?_
              first | omega | exact fin _ _ (by unfold mt; rw [if_neg (by omega)]) hS | exact fin _ _ (by unfold mt; rw [if_pos (by omega)]) hS
            ·
              refine g3 hC rfl rfl ?_
              refine g19 hC rfl rfl (Nat.le_of_ble_eq_true rfl) rfl ((hS.fix hw hF).g fx_71_4) ?_
              refine g3 hC rfl rfl ?_
              refine r21 (k) hC rfl (by omega) rfl (Or.inl rfl) (by omega) ((hS.fix hw hF).r (n := 8) (v := 86) rfl (by omega)) ?_
              refine g3 hC rfl rfl ?_
              refine r21 (o) hC rfl (by omega) (shR86 (by omega)) (Or.inl rfl) (by omega) (hko (by omega) (by omega)) ?_
              refine g14 hC rfl ?_
              refine r22s (o) hC rfl (by omega) (shR95 (by omega)) (by omega) rfl hS (wbr (lo := 95) (hi := 103) rfl (by omega) (by omega)) (fun hS => ?_)
              refine n4 hC rfl rfl ⟨by omega, by omega⟩ ?_
              refine g14 hC rfl ?_
              first | omega | exact fin _ _ (by unfold mt; rw [if_neg (by omega)]) hS | exact fin _ _ (by unfold mt; rw [if_pos (by omega)]) hS
          ·
            refine g3 hC rfl rfl ?_
            refine g3 hC rfl rfl ?_
            refine g19 hC rfl (shH hh) (Nat.le_of_ble_eq_true rfl) rfl (rd3 hS hwh hV hW) ?_
            refine g13g hC rfl (fun h17 => ?_) (fun h17 => ?_)
            ·
              refine g0 hC rfl ?_
              refine s5 hC rfl rfl rfl ?_
              refine g3 hC rfl rfl ?_
              refine g19 hC rfl rfl (Nat.le_of_ble_eq_true rfl) rfl ((hS.fix hw hF).g fx_71_5) ?_
              refine g3 hC rfl rfl ?_
              refine r21 (k) hC rfl (by omega) sh94 (Or.inl rfl) (by omega) ((hS.fix hw hF).r (n := 8) (v := 95) rfl (by omega)) ?_
              refine g3 hC rfl rfl ?_
              refine g3 hC rfl rfl ?_
              refine g12e hC rfl (fun h36 => ?_) (fun h36 => ?_)
              ·
                refine g0 hC rfl ?_
                refine r22s (o) hC rfl (by omega) (shR95 (by omega)) (by omega) rfl hS (wbr (lo := 95) (hi := 103) rfl (by omega) (by omega)) (fun hS => ?_)
                refine n4 hC rfl rfl ⟨by omega, by omega⟩ ?_
                refine g14 hC rfl ?_
                first | omega | exact fin _ _ (by unfold mt; rw [if_neg (by omega)]) hS | exact fin _ _ (by unfold mt; rw [if_pos (by omega)]) hS
              ·
                refine g3 hC rfl rfl ?_
                refine g19 hC rfl rfl (Nat.le_of_ble_eq_true rfl) rfl ((hS.fix hw hF).g fx_71_4) ?_
                refine g3 hC rfl rfl ?_
                refine r21 (k) hC rfl (by omega) rfl (Or.inl rfl) (by omega) ((hS.fix hw hF).r (n := 8) (v := 86) rfl (by omega)) ?_
                refine g3 hC rfl rfl ?_
                refine r21 (o) hC rfl (by omega) (shR86 (by omega)) (Or.inl rfl) (by omega) (hko (by omega) (by omega)) ?_
                refine g14 hC rfl ?_
                refine r22s (o) hC rfl (by omega) (shR95 (by omega)) (by omega) rfl hS (wbr (lo := 95) (hi := 103) rfl (by omega) (by omega)) (fun hS => ?_)
                refine n4 hC rfl rfl ⟨by omega, by omega⟩ ?_
                refine g14 hC rfl ?_
                first | omega | exact fin _ _ (by unfold mt; rw [if_neg (by omega)]) hS | exact fin _ _ (by unfold mt; rw [if_pos (by omega)]) hS
            ·
              refine g3 hC rfl rfl ?_
              refine g3 hC rfl rfl ?_
              refine g3 hC rfl rfl ?_
              refine g3 hC rfl rfl ?_
              refine c1 hC rfl rfl rfl (Nat.le_of_ble_eq_true rfl) (Nat.le_of_ble_eq_true rfl) rfl (m15 (hS.fix hw hF) hh (hV.sb hS hwh (fun _ => ⟨rfl, rfl, rfl, rfl⟩)) hW hSW (a := (k)) (b := (o)) (by omega) (by omega)) (Nat.le_of_ble_eq_true rfl) (fun x M2 hr => ?_)
              obtain ⟨rfl, hr⟩ := hr
              replace hr := hr.symm
              subst hr
              refine g3 hC rfl rfl ?_
              refine g19 hC rfl (shH hh) (Nat.le_of_ble_eq_true rfl) rfl (rdi0 hS hwh hV 17) ?_
              refine g13t hC rfl (fun h25 => ?_) (fun h25 => ?_)
              ·
                refine g0 hC rfl ?_
                refine s5 hC rfl rfl rfl ?_
                refine g3 hC rfl rfl ?_
                refine g19 hC rfl rfl (Nat.le_of_ble_eq_true rfl) rfl ((hS.fix hw hF).g fx_71_5) ?_
                refine g3 hC rfl rfl ?_
                refine r21 (k) hC rfl (by omega) sh94 (Or.inl rfl) (by omega) ((hS.fix hw hF).r (n := 8) (v := 95) rfl (by omega)) ?_
                refine g3 hC rfl rfl ?_
                refine g3 hC rfl rfl ?_
                refine g12e hC rfl (fun h36 => ?_) (fun h36 => ?_)
                ·
                  refine g0 hC rfl ?_
                  refine r22s (o) hC rfl (by omega) (shR95 (by omega)) (by omega) rfl hS (wbr (lo := 95) (hi := 103) rfl (by omega) (by omega)) (fun hS => ?_)
                  refine n4 hC rfl rfl ⟨by omega, by omega⟩ ?_
                  refine g14 hC rfl ?_
                  first | omega | exact fin _ _ (by unfold mt; rw [if_neg (by omega)]) hS | exact fin _ _ (by unfold mt; rw [if_pos (by omega)]) hS
                ·
                  refine g3 hC rfl rfl ?_
                  refine g19 hC rfl rfl (Nat.le_of_ble_eq_true rfl) rfl ((hS.fix hw hF).g fx_71_4) ?_
                  refine g3 hC rfl rfl ?_
                  refine r21 (k) hC rfl (by omega) rfl (Or.inl rfl) (by omega) ((hS.fix hw hF).r (n := 8) (v := 86) rfl (by omega)) ?_
                  refine g3 hC rfl rfl ?_
                  refine r21 (o) hC rfl (by omega) (shR86 (by omega)) (Or.inl rfl) (by omega) (hko (by omega) (by omega)) ?_
                  refine g14 hC rfl ?_
                  refine r22s (o) hC rfl (by omega) (shR95 (by omega)) (by omega) rfl hS (wbr (lo := 95) (hi := 103) rfl (by omega) (by omega)) (fun hS => ?_)
                  refine n4 hC rfl rfl ⟨by omega, by omega⟩ ?_
                  refine g14 hC rfl ?_
                  first | omega | exact fin _ _ (by unfold mt; rw [if_neg (by omega)]) hS | exact fin _ _ (by unfold mt; rw [if_pos (by omega)]) hS
              ·
                refine g0 hC rfl ?_
                refine g14 hC rfl ?_
                refine s5 hC rfl rfl rfl ?_
                refine g3 hC rfl rfl ?_
                refine g19 hC rfl rfl (Nat.le_of_ble_eq_true rfl) rfl ((hS.fix hw hF).g fx_71_5) ?_
                refine g3 hC rfl rfl ?_
                refine r21 (k) hC rfl (by omega) sh94 (Or.inl rfl) (by omega) ((hS.fix hw hF).r (n := 8) (v := 95) rfl (by omega)) ?_
                refine g3 hC rfl rfl ?_
                refine g3 hC rfl rfl ?_
                refine g12e hC rfl (fun h36 => ?_) (fun h36 => ?_)
                ·
                  refine g0 hC rfl ?_
                  refine r22s (o) hC rfl (by omega) (shR95 (by omega)) (by omega) rfl hS (wbr (lo := 95) (hi := 103) rfl (by omega) (by omega)) (fun hS => ?_)
                  refine n4 hC rfl rfl ⟨by omega, by omega⟩ ?_
                  refine g14 hC rfl ?_
                  first | omega | exact fin _ _ (by unfold mt; rw [if_neg (by omega)]) hS | exact fin _ _ (by unfold mt; rw [if_pos (by omega)]) hS
                ·
                  refine g3 hC rfl rfl ?_
                  refine g19 hC rfl rfl (Nat.le_of_ble_eq_true rfl) rfl ((hS.fix hw hF).g fx_71_4) ?_
                  refine g3 hC rfl rfl ?_
                  refine r21 (k) hC rfl (by omega) rfl (Or.inl rfl) (by omega) ((hS.fix hw hF).r (n := 8) (v := 86) rfl (by omega)) ?_
                  refine g3 hC rfl rfl ?_
                  refine r21 (o) hC rfl (by omega) (shR86 (by omega)) (Or.inl rfl) (by omega) (hko (by omega) (by omega)) ?_
                  refine g14 hC rfl ?_
                  refine r22s (o) hC rfl (by omega) (shR95 (by omega)) (by omega) rfl hS (wbr (lo := 95) (hi := 103) rfl (by omega) (by omega)) (fun hS => ?_)
                  refine n4 hC rfl rfl ⟨by omega, by omega⟩ ?_
                  refine g14 hC rfl ?_
                  first | omega | exact fin _ _ (by unfold mt; rw [if_neg (by omega)]) hS | exact fin _ _ (by unfold mt; rw [if_pos (by omega)]) hS
      refine g3 hC rfl rfl ?_
      refine g0 hC rfl ?_
      refine g13g hC rfl (fun h4 => (by omega)) (fun h4 => ?_)
      refine g0 hC rfl ?_
      refine s4 hC rfl rfl rfl ?_
      exact l2 8 0 rfl _ _ ⟨_, rfl, hS, fun a b ha hb hab => h1 a b (by omega) hb⟩
  refine g0 hC rfl ?_
  refine s3 hC rfl rfl rfl ?_
  exact l1 8 0 rfl _ _ ⟨_, _, rfl, Sb.refl, fun a b ha hb => absurd ha (Nat.not_lt_zero a)⟩
def DO (V : ax_M) (h : Nat) (sm wd : Int) (M : ax_M) : Prop := on8 (M 72) (far V h sm wd) ∧ (∀ c, c < nC V h → M 73 c = (DD V h sm wd 9).2.2.1 c ∧ M 74 c = (DD V h sm wd 9).2.1 c ∧ ∀ m, m < 9 → M (76 + m) c = (DD V h sm wd (m + 1)).1 c) ∧ M 71 6 = em V h sm wd 9 ∧ (∀ a b, a < nC V h → b < nC V h → M (86 + a) b = tg V h sm wd a b 9) ∧ ∀ a b, a < 8 → b < 8 → M (95 + a) b = mt V h sm wd a b
theorem m4 (hF : Fix M) (hh : h = 9 ∨ h = 27) (hV : HV V h M) (hW : HW V h) (hSW : SW V) (hPW : PW V h) {sm wd : Int} : ax_Ev L X SH 5 4 [(2, 71), (2, (h : Int)), (2, 45), (0, sm), (0, wd)] M (R0 (fun M' => Sb WD M M' ∧ DO V h sm wd M')) := by
  show ax_G L X SH 5 4 0 [(2, 71), (2, (h : Int)), (2, 45), (0, sm), (0, wd), (3, 0)] [] M _
  have hC := at4
  have hw : wok WD = true := by decide +kernel
  have hwh : hok WD h := hokB (by decide +kernel) hh
  have hS : Sb WD M M := Sb.refl
  have hsok : sok WD := fun _ => ⟨rfl, rfl, rfl, rfl⟩
  have hb3 := hW.1.2.2.2.2
  have hb4 := hW.1.1.2
  have hK0 : DK V h (D0 V h sm wd) := by
    refine ⟨fun c hc => ?_, fun s hs => wid_b hW hs⟩
    have := hW.2.2.2.1 c hc
    unfold D0; dsimp only
    refine ⟨by omega, by omega, fun _ q => ?_, by omega, by omega⟩
    rw [if_neg (by omega)]
  have l1 : ∀ (m k : Nat), k + m = 9 → ∀ ll M1, (ll = [(2, 71), (2, (h : Int)), (2, 45), (0, sm), (0, wd), (0, (k : Int))] ∧ Sb WD M M1 ∧ on8 (M1 72) (far V h sm wd) ∧ (∀ s, s < nS V h → M1 104 s = wid V h sm wd s) ∧ (∀ c, c < nC V h → M1 103 c = (DD V h sm wd k).1 c ∧ M1 74 c = (DD V h sm wd k).2.1 c ∧ M1 73 c = (DD V h sm wd k).2.2.1 c) ∧ DK V h (DD V h sm wd k) ∧ (∀ c m, c < nC V h → m < k → M1 (76 + m) c = (DD V h sm wd (m + 1)).1 c) ∧ (∀ a b, a < nC V h → b < nC V h → M1 (86 + a) b = tg V h sm wd a b k) ∧ M1 71 6 = em V h sm wd k) → ax_G L X SH 5 4 20 ll [] M1 (R0 (fun M' => Sb WD M M' ∧ DO V h sm wd M')) := by
    refine lp ?_ ?_
    · rintro ll M1 ⟨rfl, hS, h1, h2, h3, h4, h5, h6, h7⟩
      refine g3 hC rfl rfl ?_
      refine g0 hC rfl ?_
      refine g13g hC rfl (fun h22 => ?_) (fun h22 => (by omega))
      refine g3 hC rfl rfl ?_
      refine g3 hC rfl rfl ?_
      refine g3 hC rfl rfl ?_
      refine c0 hC rfl rfl rfl (Nat.le_of_ble_eq_true rfl) (Nat.le_of_ble_eq_true rfl) rfl (m14 (hS.fix hw hF) hh (hV.sb hS hwh hsok) hW hSW h6) (Nat.le_of_ble_eq_true rfl) (fun M2 hr => ?_)
      obtain ⟨hr, f1⟩ := hr; have hS := hS.then hr rfl
      refine ret0 hC rfl ?_
      refine ⟨hS, fun q hq => by rw [hr 72 q rfl]; exact h1 q hq, fun c hc => ⟨by rw [hr 73 c rfl]; exact (h3 c hc).2.2, by rw [hr 74 c rfl]; exact (h3 c hc).2.1, fun m hm => by rw [hr _ c (wbo 76 94 rfl (by omega) (by omega))]; exact h5 c m hc hm⟩, by rw [hr 71 6 rfl]; exact h7, fun a b ha hb => by rw [hr _ b (wbo 76 94 rfl (by omega) (by omega))]; exact h6 a b ha hb, f1⟩
    · rintro k hk ll M1 ⟨rfl, hS, h1, h2, h3, h4, h5, h6, h7⟩ hnext
      have hV1 := hV.sb hS hwh hsok
      have ee : em V h sm wd (k + 1) = if em V h sm wd k = 99 ∧ alo V h (DD V h sm wd (k + 1)).1 (DD V h sm wd (k + 1)).2.1 then (k : Int) else em V h sm wd k := rfl
      have fin : ∀ M2 x, Sb W10 M1 M2 → DM V h (Dmi V h sm wd k (DD V h sm wd k)) M2 → DK V h (Dmi V h sm wd k (DD V h sm wd k)) → (∀ c, c < nC V h → M2 (76 + k) c = (Dmi V h sm wd k (DD V h sm wd k)).1 c) → (∀ m' q, m' < 9 → m' ≠ k → M2 (76 + m') q = M1 (76 + m') q) → (∀ a b, a < nC V h → b < nC V h → M2 (86 + a) b = tg V h sm wd a b k + (if a ≠ b ∧ ow (Dmi V h sm wd k (DD V h sm wd k)) a ∧ ow (Dmi V h sm wd k (DD V h sm wd k)) b then 1 else 0)) → x = em V h sm wd (k + 1) → ∀ M3, Sb WD M M3 → (∀ a q, a ≠ 71 → M3 a q = M2 a q) → M3 71 6 = x → ax_G L X SH 5 4 20 [(2, 71), (2, (h : Int)), (2, 45), (0, sm), (0, wd), (0, (k : Int) + 1)] [] M3 (R0 (fun M' => Sb WD M M' ∧ DO V h sm wd M')) := by
        intro M2 x g0 g1 g2 g3 g4 g5 hx M3 e1 e2 e3
        refine hnext _ _ ⟨rfl, e1, fun q hq => ?_, fun s hs => ?_, fun c hc => ?_, g2, fun c m hc hm => ?_, fun a b ha hb => ?_, e3.trans hx⟩
        · rw [e2 72 q (by decide), g0 72 q rfl]; exact h1 q hq
        · rw [e2 104 s (by decide), g0 104 s rfl]; exact h2 s hs
        · rw [e2 103 c (by decide), e2 74 c (by decide), e2 73 c (by decide)]; exact g1.1 c hc
        · rw [e2 _ c (by omega)]
          by_cases z : m = k
          · rw [z]; exact g3 c hc
          · rw [g4 m c (by omega) z]; exact h5 c m hc (by omega)
        · rw [e2 _ b (by omega), g5 a b ha hb]; rfl
      refine g3 hC rfl rfl ?_
      refine g0 hC rfl ?_
      refine g13g hC rfl (fun h22 => (by omega)) (fun h22 => ?_)
      refine g3 hC rfl rfl ?_
      refine g3 hC rfl rfl ?_
      refine g3 hC rfl rfl ?_
      refine g3 hC rfl rfl ?_
      refine c0 hC rfl rfl rfl (Nat.le_of_ble_eq_true rfl) (Nat.le_of_ble_eq_true rfl) rfl (m10 (hS.fix hw hF) hh hV1 hW hSW hPW hk h1 h2 h3 h4 (fun a b ha hb => ⟨h6 a b ha hb, by have := tg_b (V := V) (h := h) (sm := sm) (wd := wd) (a := a) (b := b) k; omega⟩)) (Nat.le_of_ble_eq_true rfl) (fun M2 hr => ?_)
      obtain ⟨y0, y1, y2, y3, y4, y5⟩ := hr; have hS := hS.then y0 rfl; have e6 : M2 71 6 = em V h sm wd k := (y0 71 6 rfl).trans h7
      refine g3 hC rfl rfl ?_
      refine g19 hC rfl rfl (Nat.le_of_ble_eq_true rfl) rfl e6 ?_
      refine g0 hC rfl ?_
      refine g13n hC rfl (fun h31 => ?_) (fun h31 => ?_)
      ·
        refine n5 hC rfl rfl ⟨by omega, by omega⟩ ?_
        refine g14 hC rfl ?_
        exact fin _ _ y0 y1 y2 y3 y4 y5 (by rw [ee, if_neg (fun z => h31 z.1)]) _ hS (fun _ _ _ => rfl) e6
      ·
        refine g3 hC rfl rfl ?_
        refine g3 hC rfl rfl ?_
        refine c1 hC rfl rfl rfl (Nat.le_of_ble_eq_true rfl) (Nat.le_of_ble_eq_true rfl) rfl (m9 (hS.fix hw hF) hh (hV.sb hS hwh hsok) hW) (Nat.le_of_ble_eq_true rfl) (fun x M2 hr => ?_)
        obtain ⟨f4, hr⟩ := hr; replace hr := hr.symm; subst hr
        refine g12e hC rfl (fun h35 => ?_) (fun h35 => ?_)
        ·
          refine n5 hC rfl rfl ⟨by omega, by omega⟩ ?_
          refine g14 hC rfl ?_
          refine fin _ _ y0 y1 y2 y3 y4 y5 ?_ _ hS (fun _ _ _ => rfl) e6
          rw [ee, if_neg (fun z => ?_)]
          rcases f4 with ⟨q, -⟩ | ⟨-, q⟩
          · omega
          · exact q (fun c hc => by rw [(y1.1 c hc).1, (y1.1 c hc).2.1]; exact z.2 c hc)
        ·
          refine g3 hC rfl rfl ?_
          refine g3 hC rfl rfl ?_
          refine g20s hC rfl rfl (Nat.le_of_ble_eq_true rfl) rfl hS rfl (fun hS => ?_)
          refine n5 hC rfl rfl ⟨by omega, by omega⟩ ?_
          refine g14 hC rfl ?_
          refine fin _ _ y0 y1 y2 y3 y4 y5 ?_ _ hS (fun _ _ q => ax_up2n q) up1
          have zz : alo V h (DD V h sm wd (k + 1)).1 (DD V h sm wd (k + 1)).2.1 := by
            rcases f4 with ⟨-, q⟩ | ⟨q, -⟩
            · exact fun c hc => by have := q c hc; rw [(y1.1 c hc).1, (y1.1 c hc).2.1] at this; exact this
            · omega
          rw [ee, if_pos ⟨by omega, zz⟩]
  have fin0 : ∀ M1 x, Sb WD M (ax_up M1 71 6 x) → on8 (M1 72) (far V h sm wd) → (∀ s, s < nS V h → M1 104 s = wid V h sm wd s) → (∀ c, c < nC V h → M1 103 c = (ch V h c : Int) ∧ M1 73 c = (if ch V h c = 0 then -1 else 99) ∧ M1 74 c = -1 ∧ ∀ q, q < 8 → M1 (86 + c) q = 0) → x = em V h sm wd 0 → ax_G L X SH 5 4 20 [(2, 71), (2, (h : Int)), (2, 45), (0, sm), (0, wd), (0, 0)] [] (ax_up M1 71 6 x) (R0 (fun M' => Sb WD M M' ∧ DO V h sm wd M')) := by
    intro M1 x hS h1 h2 h3 hx
    refine l1 9 0 rfl _ _ ⟨rfl, hS, h1, h2, fun c hc => ?_, hK0, fun c m hc hm => absurd hm (Nat.not_lt_zero m), fun a b ha hb => ?_, up1.trans hx⟩
    · have := h3 c hc
      exact ⟨this.1, this.2.2.1, this.2.1⟩
    · rw [ax_up2n (by omega)]; exact (h3 a ha).2.2.2 b (by omega)
  have e0 : em V h sm wd 0 = if alo V h (DD V h sm wd 0).1 (DD V h sm wd 0).2.1 then -1 else 99 := rfl
  refine g3 hC rfl rfl ?_
  refine g3 hC rfl rfl ?_
  refine g3 hC rfl rfl ?_
  refine g3 hC rfl rfl ?_
  refine g3 hC rfl rfl ?_
  refine c0 hC rfl rfl rfl (Nat.le_of_ble_eq_true rfl) (Nat.le_of_ble_eq_true rfl) rfl (m5 (hS.fix hw hF) hh (hV.sb hS hwh hsok) hW) (Nat.le_of_ble_eq_true rfl) (fun M2 hr => ?_)
  obtain ⟨hr, f1, f2⟩ := hr; have hS := hS.then hr rfl
  refine g3 hC rfl rfl ?_
  refine g3 hC rfl rfl ?_
  refine c0 hC rfl rfl rfl (Nat.le_of_ble_eq_true rfl) (Nat.le_of_ble_eq_true rfl) rfl (m7 (hS.fix hw hF) hh (hV.sb hS hwh hsok) hW) (Nat.le_of_ble_eq_true rfl) (fun M2 hr => ?_)
  obtain ⟨hr, f3⟩ := hr; have hS := hS.then hr rfl
  refine g3 hC rfl rfl ?_
  refine g3 hC rfl rfl ?_
  refine g3 hC rfl rfl ?_
  refine c1 hC rfl rfl rfl (Nat.le_of_ble_eq_true rfl) (Nat.le_of_ble_eq_true rfl) rfl (m9 (hS.fix hw hF) hh (hV.sb hS hwh hsok) hW) (Nat.le_of_ble_eq_true rfl) (fun x M2 hr => ?_)
  obtain ⟨f4, hr⟩ := hr; replace hr := hr.symm; subst hr
  refine g12e hC rfl (fun h13 => ?_) (fun h13 => ?_)
  ·
    refine g0 hC rfl ?_
    refine g20s hC rfl rfl (Nat.le_of_ble_eq_true rfl) rfl hS rfl (fun hS => ?_)
    refine g0 hC rfl ?_
    refine s5 hC rfl rfl rfl ?_
    refine fin0 _ _ hS (fun q hq => by rw [hr 72 q rfl]; exact f2 q hq) (fun s hs => by rw [hr 104 s rfl]; exact f1 s hs) f3 ?_
    rw [e0, if_neg (fun z => ?_)]
    rcases f4 with ⟨q, -⟩ | ⟨-, q⟩
    · omega
    · exact q (fun c hc => by rw [(f3 c hc).1, (f3 c hc).2.2.1]; exact z c hc)
  ·
    refine g0 hC rfl ?_
    refine g14 hC rfl ?_
    refine g20s hC rfl rfl (Nat.le_of_ble_eq_true rfl) rfl hS rfl (fun hS => ?_)
    refine g0 hC rfl ?_
    refine s5 hC rfl rfl rfl ?_
    refine fin0 _ _ hS (fun q hq => by rw [hr 72 q rfl]; exact f2 q hq) (fun s hs => by rw [hr 104 s rfl]; exact f1 s hs) f3 ?_
    rw [e0, if_pos]
    rcases f4 with ⟨-, q⟩ | ⟨q, -⟩
    · exact fun c hc => by have := q c hc; rw [(f3 c hc).1, (f3 c hc).2.2.1] at this; exact this
    · omega
end RUN
