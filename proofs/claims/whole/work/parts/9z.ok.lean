-- LAW AND WANT, IN BOTH
section OKS
variable {W V : AW} {s : ST} {Q : AQ} {d e : CR} {k cc : Int} {sl : Int}
theorem SOK.put {c d : Int} {s : ST} {N : Nat → Int} {L' : Nat → LW} {V' : Nat → WN} (h : SOK c s) (hd : c ≤ d) (h0 : 0 ≤ N 0 ∧ N 0 ≤ 8) (h1 : 0 ≤ N 1 ∧ N 1 ≤ 8) (h2 : N 2 = 0) (h3 : N 3 = sN s 3) (hL : ∀ k : Nat, (k : Int) < N 0 → LwOk (L' k)) (hW : ∀ k : Nat, (k : Int) < N 1 → WOk (V' k)) : SOK d (sF s, N, sT s, L', V', sI s) := by
  have m := h.mono hd
  obtain ⟨a1, a2, a3, a4, a5, a6, a7, a8, a9, a10⟩ := m
  exact ⟨a1, h0, h1, by show 0 ≤ N 2 ∧ N 2 ≤ 400; omega, by show 0 ≤ N 3 ∧ N 3 ≤ d; omega, a6, hL, hW, a9, a10⟩
theorem ok7 {L : Nat} {X : Nat → Int} {c : Nat} {W : AW} (hI : Inv L X c W) : CallOK (Inv L X (c + 1)) W 61 196 [] := by
  obtain ⟨h0, hz, hcl, s, hS, hH, hC, hR⟩ := hI
  have hcc : (c : Int) ≤ ((c + 1 : Nat) : Int) := by omega
  have b0 := hS.2.1
  have b1 := hS.2.2.1
  have b2 := hS.2.2.2.1
  have b3 := hS.2.2.2.2.1
  have hT := hS.2.2.2.2.2.1
  have hw : 192 ≤ W.1 := hH.1.1
  have nu := hC.nu
  refine call_mk has_0 (by decide +kernel) h0 hz hcl hH hR ?_
  by_cases g : sN s 0 = 8
  · exact x_law8 hH.1 (nu.1.trans g) ⟨-1, s, rfl, hH, hC, hS.mono hcc, fun W1 k1 z1 => y_law8T k1 hT b2 g ⟨rfl, k1⟩⟩
  have g1 : 0 ≤ sN s 0 ∧ sN s 0 < 8 := by omega
  have hx : CX W (sT s) (sN s 2).toNat := ⟨hH.1, hC.2.2.2.1, hT, by omega⟩
  have i0 : ∀ c', inC s (sN s 0) c' = iniC 0 (sN s 2).toNat c' := fun c' => by
    show iniC (if sN s 0 < 8 then 0 else 1) _ _ = _
    rw [if_pos g1.2]
  refine x_law hx (by rw [nu.2.2.1]; omega) nu.1 g1 hH.2.2.2.2.2.2.1 (fun d hd e => ?_) (fun d V hXI hd hM => ?_)
  · rw [← i0] at hd
    refine ⟨_, _, rfl, hH.bdw, hC.bdw, hS.num hcc (fu_ne _ _ (by decide)) (fu_ne _ _ (by decide)) (by rw [fu_eq]; decide) (by rw [fu_ne _ _ (by decide)]; omega) hT, fun W1 k1 z1 => ?_⟩
    obtain ⟨t1, t2, t3⟩ := t_bad k1 hT b2 (by omega) hd
    have tz : tZ s W1 (sN s 0) = d.1 0 + (1 + 8 * d.2.1 0) := t1
    refine y_lawT k1 hT b2 g1 (by omega) ?_
    rw [tz, if_neg (by omega)]
    refine ⟨rfl, k1.tv hT b2 (by omega) (Or.inl rfl) ⟨?_, ?_, fu_eq _ _ _, fu_ne _ _ (by decide)⟩ (fun k hk => Or.inl ?_) (fun k hk => Or.inl ?_)⟩
    · rw [fu_ne _ _ (by decide), if_neg (fun q => by omega)]; omega
    · rw [fu_ne _ _ (by decide), if_neg (fun q => by omega)]; omega
    · have hk : (k : Int) < fu (sN s) 2 0 0 := hk
      rw [fu_ne _ _ (by decide)] at hk
      exact ⟨by omega, hk, rfl⟩
    · have hk : (k : Int) < fu (sN s) 2 0 1 := hk
      rw [fu_ne _ _ (by decide)] at hk
      exact ⟨by omega, hk, rfl⟩
  · rw [← i0] at hd
    obtain ⟨gz, ge⟩ := hM.gd (r := 116) (j := 14) (k := sN s 0) hH.1 (Or.inl rfl)
    obtain ⟨m1, m2, m3, gd, gi, gm, gn, m4, m5, m6, m7, m8, m9, m10⟩ := hM
    have rows := fun W1 (k1 : KR W1 s) => t_rows (j := 24) k1 hT b2 (sl := sN s 0) (by omega) hd m9 m10
    obtain ⟨tx, tM, ton⟩ := rows W hR
    have e0 := ge 0
    have e1 := ge 1
    have e2 := ge 2
    have e3 := ge 3
    have e4 := ge 4
    have e5 := ge 5
    generalize hlw : lwM (sN s 0) (d.1 14).toNat (ar (tV s W (sN s 0) 24) 168) (ar (tV s W (sN s 0) 24) 169) (ar (tV s W (sN s 0) 24) 171) (ar (tV s W (sN s 0) 24) 173) (ar (tV s W (sN s 0) 24) 174) (ar (tV s W (sN s 0) 24) 175) (stF d.2.2.2.2.2.2.2 6) = lw
    have ok : LwOk lw := hlw ▸ t_lwok (fun k hk => (ton k hk).2) rfl
    have gw : (gdW W V 116 14 (sN s 0)).1 = W.1 + 6 := gz.1
    have lc : LawC (gdW W V 116 14 (sN s 0)) W.1 lw := by
      rw [← hlw]
      exact LawC.mk2 g1 tx gz.2.2.2.2.2 (e1.trans m4) (e2.trans m5) (e3.trans m6) (e4.trans m7) (e5.trans m8) (by omega) (by omega) (by omega) (by omega) (by omega) (by omega)
    have hlt : ∀ k : Nat, (k : Int) < sN s 0 + 1 → ¬ k = (sN s 0).toNat → (k : Int) < sN s 0 := fun k a b => by omega
    have n0 : fu (fu (sN s) 2 0) 0 (sN s 0 + 1) 0 = sN s 0 + 1 := fu_eq _ _ _
    have n1 : fu (fu (sN s) 2 0) 0 (sN s 0 + 1) 1 = sN s 1 := by rw [fu_ne _ _ (by decide), fu_ne _ _ (by decide)]
    have n2 : fu (fu (sN s) 2 0) 0 (sN s 0 + 1) 2 = 0 := by rw [fu_ne _ _ (by decide), fu_eq]
    have n3 : fu (fu (sN s) 2 0) 0 (sN s 0 + 1) 3 = sN s 3 := by rw [fu_ne _ _ (by decide), fu_ne _ _ (by decide)]
    refine ⟨_, _, rfl, hH.gdw gz (Or.inl rfl), hC.gdl gz hw g1.1 rfl lc, hS.put hcc (by rw [n0]; omega) (by rw [n1]; exact b1) n2 n3 (fun k hk => ?_) (fun k hk => ?_), fun W1 k1 z1 => ?_⟩
    · rw [n0] at hk
      by_cases q : k = (sN s 0).toNat
      · rw [q, fu_eq]; exact ok
      · rw [fu_ne _ _ q]; exact hS.2.2.2.2.2.2.1 k (hlt k hk q)
    · rw [n1] at hk
      exact hS.2.2.2.2.2.2.2.1 k hk
    · obtain ⟨tx1, tM1, ton1⟩ := rows W1 k1
      obtain ⟨t0, -, -⟩ := t_good k1 hT b2 (sl := sN s 0) (by omega) hd
      have tz : tZ s W1 (sN s 0) = 0 := t0
      obtain ⟨-, fr⟩ := t_run (c := d) k1 hT b2 (sl := sN s 0) (by omega)
      refine y_lawT k1 hT b2 g1 (by omega) ?_
      rw [if_pos tz]
      refine ⟨rfl, k1.tv hT b2 (by omega) (Or.inl rfl) ⟨?_, ?_, n2, n3⟩ (fun k hk => ?_) (fun k hk => Or.inl ?_)⟩
      · rw [n0, if_pos ⟨rfl, tz⟩]
      · rw [n1, if_neg (fun q => absurd q.1 (by decide)), Int.add_zero]
      · have hk : (k : Int) < fu (fu (sN s) 2 0) 0 (sN s 0 + 1) 0 := hk
        rw [n0] at hk
        by_cases q : k = (sN s 0).toNat
        · refine Or.inr ?_
          have ek : (k : Int) = sN s 0 := by omega
          rw [q, fu_eq, ← q, ek, ← hlw]
          refine LawR.mk2 g1 tx tx1 ?_ (fun i hi => (ton1 i hi).1)
          rw [tWo_170 fr, fu_eq, tM1]
        · refine Or.inl ⟨by omega, hlt k hk q, fu_ne _ _ q⟩
      · have hk : (k : Int) < fu (fu (sN s) 2 0) 0 (sN s 0 + 1) 1 := hk
        rw [n1] at hk
        exact ⟨by omega, hk, rfl⟩
theorem ok8 {L : Nat} {X : Nat → Int} {c : Nat} {W : AW} (hI : Inv L X c W) : CallOK (Inv L X (c + 1)) W 102 223 [] := by
  obtain ⟨h0, hz, hcl, s, hS, hH, hC, hR⟩ := hI
  have hcc : (c : Int) ≤ ((c + 1 : Nat) : Int) := by omega
  have b0 := hS.2.1
  have b1 := hS.2.2.1
  have b2 := hS.2.2.2.1
  have b3 := hS.2.2.2.2.1
  have hT := hS.2.2.2.2.2.1
  have hw : 192 ≤ W.1 := hH.1.1
  have nu := hC.nu
  refine call_mk has_0 (by decide +kernel) h0 hz hcl hH hR ?_
  by_cases g : sN s 1 = 8
  · exact x_want8 hH.1 (nu.2.1.trans g) ⟨-1, s, rfl, hH, hC, hS.mono hcc, fun W1 k1 z1 => y_want8T k1 hT b2 g ⟨rfl, k1⟩⟩
  have g1 : 0 ≤ sN s 1 ∧ sN s 1 < 8 := by omega
  have hx : CX W (sT s) (sN s 2).toNat := ⟨hH.1, hC.2.2.2.1, hT, by omega⟩
  have i0 : ∀ c', inC s (8 + sN s 1) c' = iniC 1 (sN s 2).toNat c' := fun c' => by
    show iniC (if 8 + sN s 1 < 8 then 0 else 1) _ _ = _
    rw [if_neg (by omega)]
  obtain ⟨q, hq⟩ : ∃ q : Nat, (q : Int) = sN s 1 := ⟨(sN s 1).toNat, by omega⟩
  have hq2 : (sN s 1).toNat = q := by omega
  refine x_want hx (by rw [nu.2.2.1]; omega) nu.2.1 g1 hH.2.2.2.2.2.2.2 (fun d hd e => ?_) (fun d V hXI hd hM => ?_)
  · rw [← i0] at hd
    refine ⟨_, _, rfl, hH.bdw, hC.bdw, hS.num hcc (fu_ne _ _ (by decide)) (fu_ne _ _ (by decide)) (by rw [fu_eq]; decide) (by rw [fu_ne _ _ (by decide)]; omega) hT, fun W1 k1 z1 => ?_⟩
    obtain ⟨t1, t2, t3⟩ := t_bad k1 hT b2 (by omega) hd
    have tz : tZ s W1 (8 + sN s 1) = d.1 0 + (1 + 8 * d.2.1 0) := t1
    refine y_wantT k1 hT b2 g1 (by omega) ?_
    rw [tz, if_neg (by omega)]
    refine ⟨rfl, k1.tv hT b2 (by omega) (Or.inr rfl) ⟨?_, ?_, fu_eq _ _ _, fu_ne _ _ (by decide)⟩ (fun k hk => Or.inl ?_) (fun k hk => Or.inl ?_)⟩
    · rw [fu_ne _ _ (by decide), if_neg (fun q => by omega)]; omega
    · rw [fu_ne _ _ (by decide), if_neg (fun q => by omega)]; omega
    · have hk : (k : Int) < fu (sN s) 2 0 0 := hk
      rw [fu_ne _ _ (by decide)] at hk
      exact ⟨by omega, hk, rfl⟩
    · have hk : (k : Int) < fu (sN s) 2 0 1 := hk
      rw [fu_ne _ _ (by decide)] at hk
      exact ⟨by omega, hk, rfl⟩
  · rw [← i0] at hd
    obtain ⟨gz, ge⟩ := hM.gd (r := 117) (j := 15) (k := sN s 1) hH.1 (Or.inr rfl)
    obtain ⟨m1, m2, m3, gd, gi, gm, gn, m4, m5, m6, m7, m8, m9, m10⟩ := hM
    have rows := fun W1 (k1 : KR W1 s) => t_rows (j := 25) k1 hT b2 (sl := 8 + sN s 1) (by omega) hd m9 m10
    obtain ⟨tx, tM, ton⟩ := rows W hR
    have e0 := ge 0
    have e1 := ge 1
    have e2 := ge 2
    have e3 := ge 3
    have e4 := ge 4
    have e5 := ge 5
    rw [← hq] at tx
    generalize hwn : wnM (8 + (q : Int)) (d.1 14).toNat (ar (tWo (sT s) (sN s 2).toNat W (8 + (q : Int)) 25) 168) (ar (tWo (sT s) (sN s 2).toNat W (8 + (q : Int)) 25) 169) (ar (tWo (sT s) (sN s 2).toNat W (8 + (q : Int)) 25) 171) (ar (tWo (sT s) (sN s 2).toNat W (8 + (q : Int)) 25) 174) (ar (tWo (sT s) (sN s 2).toNat W (8 + (q : Int)) 25) 175) = w
    have ok : WOk w := hwn ▸ WOk.mk2 tx
    have gw : (gdW W V 117 15 (sN s 1)).1 = W.1 + 6 := gz.1
    have lc : WantC (gdW W V 117 15 (sN s 1)) W.1 w := by
      rw [← hwn]
      exact WantC.mk2 tx (by omega) gz.2.2.2.2.2 (e1.trans m4) (e2.trans m5) (e3.trans m6) (e4.trans m7) (by omega) (by omega) (by omega) (by omega) (by omega) (by omega)
    have hlt : ∀ k : Nat, (k : Int) < sN s 1 + 1 → ¬ k = (sN s 1).toNat → (k : Int) < sN s 1 := fun k a b => by omega
    have n0 : fu (fu (sN s) 2 0) 1 (sN s 1 + 1) 0 = sN s 0 := by rw [fu_ne _ _ (by decide), fu_ne _ _ (by decide)]
    have n1 : fu (fu (sN s) 2 0) 1 (sN s 1 + 1) 1 = sN s 1 + 1 := fu_eq _ _ _
    have n2 : fu (fu (sN s) 2 0) 1 (sN s 1 + 1) 2 = 0 := by rw [fu_ne _ _ (by decide), fu_eq]
    have n3 : fu (fu (sN s) 2 0) 1 (sN s 1 + 1) 3 = sN s 3 := by rw [fu_ne _ _ (by decide), fu_ne _ _ (by decide)]
    refine ⟨_, _, rfl, hH.gdw gz (Or.inr rfl), hC.gdv gz hw g1.1 rfl lc, hS.put hcc (by rw [n0]; exact b0) (by rw [n1]; omega) n2 n3 (fun k hk => ?_) (fun k hk => ?_), fun W1 k1 z1 => ?_⟩
    · rw [n0] at hk
      exact hS.2.2.2.2.2.2.1 k hk
    · rw [n1] at hk
      by_cases z : k = (sN s 1).toNat
      · rw [z, fu_eq]; exact ok
      · rw [fu_ne _ _ z]; exact hS.2.2.2.2.2.2.2.1 k (hlt k hk z)
    · obtain ⟨tx1, tM1, ton1⟩ := rows W1 k1
      obtain ⟨t0, -, -⟩ := t_good k1 hT b2 (sl := 8 + sN s 1) (by omega) hd
      have tz : tZ s W1 (8 + sN s 1) = 0 := t0
      obtain ⟨-, fr⟩ := t_run (c := d) k1 hT b2 (sl := 8 + sN s 1) (by omega)
      refine y_wantT k1 hT b2 g1 (by omega) ?_
      rw [if_pos tz]
      refine ⟨rfl, k1.tv hT b2 (by omega) (Or.inr rfl) ⟨?_, ?_, n2, n3⟩ (fun k hk => Or.inl ?_) (fun k hk => ?_)⟩
      · rw [n0, if_neg (fun q => absurd q.1 (by decide)), Int.add_zero]
      · rw [n1, if_pos ⟨rfl, tz⟩]
      · have hk : (k : Int) < fu (fu (sN s) 2 0) 1 (sN s 1 + 1) 0 := hk
        rw [n0] at hk
        exact ⟨by omega, hk, rfl⟩
      · have hk : (k : Int) < fu (fu (sN s) 2 0) 1 (sN s 1 + 1) 1 := hk
        rw [n1] at hk
        by_cases z : k = (sN s 1).toNat
        · refine Or.inr ?_
          have ek : k = q := by omega
          rw [z, fu_eq, ← z, ek]
          refine ⟨?_, ok.1⟩
          rw [← hwn]
          have e8 : 8 + sN s 1 = 8 + (q : Int) := by omega
          rw [e8] at tx1 fr tM1 ⊢
          refine WantR.mk2 tx tx1 (by omega) ?_
          rw [tWo_170 fr, show (8 + (q : Int)).toNat = 8 + q by omega, fu_eq, tM1]
        · refine Or.inl ⟨by omega, hlt k hk z, fu_ne _ _ z⟩
end OKS
