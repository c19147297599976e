/-! the ten changes: what holds between two calls holds behind them; printed by wip/whole/gen/gen_m.py -/
def FINb (K : GS → Prop) (r3 : Int32) : Int32 → GS → Prop := fun r6 G5 =>
  wpX9_thrown (fun (r8 : Int32) (G7 : GS) =>
      if r8 = r3 then
        if r3 = 0 then
          vp_in 0 1 ∧
            if r6 = 0 then
            if (lg_cmp (G7.2.2.1 (0 : Int32).toNatClampNeg) 0) = 0 then
              K G7
            else
              False
          else
            if (lg_cmp (G7.2.2.1 (0 : Int32).toNatClampNeg) 1) = 0 then
              K G7
            else
              False
        else
          K G7
      else
        False) G5
theorem finb0 {K : GS → Prop} {G : GS} {r : Int32} (hr : r = 0 ∨ r = 1) (ht : G.1 189 0 = 0) (hv : G.2.2.1 0 = r.toInt64) (h : K G) : FINb K 0 r G := by
  unfold FINb wpX9_thrown
  rw [ht]
  refine ifT rfl (ifT rfl ⟨vin01, ?_⟩)
  rcases hr with rfl | rfl
  · refine ifT rfl ?_
    show if lg_cmp (G.2.2.1 0) 0 = 0 then _ else _
    rw [hv]
    exact ifT (by decide) h
  · refine ifF (by decide) ?_
    show if lg_cmp (G.2.2.1 0) 1 = 0 then _ else _
    rw [hv]
    exact ifT (by decide) h
theorem finbE {K : GS → Prop} {G : GS} {c r : Int32} (hc : c ≠ 0) (ht : G.1 189 0 = c) (h : K G) : FINb K c r G := by
  unfold FINb wpX9_thrown
  rw [ht]
  exact ifT rfl (ifF hc h)
theorem xn_1 : xn 1 = "java/lang/IndexOutOfBoundsException" := rfl
theorem xn_2 : xn 2 = "java/lang/IllegalArgumentException" := rfl
theorem xn_3 : xn 3 = "java/lang/IllegalStateException" := rfl
theorem xn_4 : xn 4 = "java/lang/UnsupportedOperationException" := rfl
set_option maxHeartbeats 400000 in
theorem w_addVault {G : GS} (I : Inv G) (a1 : Int32) {PL : Int32 → GS → Prop} (h : ∀ c G', wpX9_addVault (FIN Inv c) a1 G' → PL c G') : wpL_addVault PL a1 G := by
  obtain ⟨n, R, A, B, C, M, T⟩ := I.1
  refine chg (n := n) (R := R) (A := A) (wx := fun pn G => wpX3_refusalToOpen pn 0 a1 G) (wm := fun post G => wpX9_notVault post a1 G) (ax := fun post G => wpX3_open post 0 a1 G) (am := fun post G => wpX9_addsVault post a1 G) (cd := cdO) (al := [0, 2, 3]) (vq := fun _ => True) (G := G)
    (px := fun (r7 : Int32) (G6 : GS) => vp_in 0 1 ∧ ∀ G8 : GS, G8 = gL G6 ((0 : Int32).toNatClampNeg) r7.toInt64 → PL 0 G8)
    (gx := fun (E : String) (G9 : GS) => if E = "java/lang/IllegalArgumentException" then PL 1 G9 else if E = "java/lang/IllegalStateException" then PL 2 G9 else False)
    (Y := fun c G2 => wpX9_addVault (FIN Inv c) a1 G2) (pm := fun c => FIN Inv c) (pf := fun c r3 G2 => wpX9_fails (FIN Inv c) r3 G2)
    I C M T (n_open B a1) (fun ⟨t, ht, e, hn⟩ => by rw [e]; exact d_open B ht hn) (by decide) rfl (by decide) ?_ ?_ ?_ ?_ ?_
  · intro o ho h0 G' hy
    obtain rfl | rfl | rfl : o = 0 ∨ o = 2 ∨ o = 3 := by simpa using ho
    · exact absurd rfl h0
    · exact ifT xn_2 (h _ _ hy)
    · exact ifF (by rw [xn_3]; decide +kernel) (ifT xn_3 (h _ _ hy))
  · intro val G' _ hy
    refine ⟨vin01, ?_⟩
    rintro G6 rfl
    exact h _ _ hy
  · intro c G' hw
    show wpX9_addVault _ _ _
    unfold wpX9_addVault
    rintro G1 rfl
    exact hw
  · exact fun val G' _ h1 h2 h3 => fin0 h1 h2 h3
  · intro o ho h0 G' i
    obtain rfl | rfl | rfl : o = 0 ∨ o = 2 ∨ o = 3 := by simpa using ho
    · exact absurd rfl h0
    · exact m_fails (finE (by decide) (by rw [gI_at, upd_at]; first | done | rfl | decide) (Inv_th i _))
    · exact m_fails (finE (by decide) (by rw [gI_at, upd_at]; first | done | rfl | decide) (Inv_th i _))
theorem k_law_0 {L : Nat} {xs : Nat → Int32} {v5 : Int32} {G : GS} (I : Inv G) (hv : ∀ j, j < 5 → vp_in (v5 + nI j) L) : wpL_law_0 Inv L xs v5 G :=
  ⟨hv 1 (by decide), w_addVault I _ (fun c G' y => ⟨hv 1 (by decide), y⟩)⟩
set_option maxHeartbeats 400000 in
theorem w_deposit {G : GS} (I : Inv G) (a1 a2 a3 : Int32) {PL : Int32 → GS → Prop} (h : ∀ c G', wpX9_deposit (FIN Inv c) a1 a2 a3 G' → PL c G') : wpL_deposit PL a1 a2 a3 G := by
  obtain ⟨n, R, A, B, C, M, T⟩ := I.1
  refine chg (n := n) (R := R) (A := A) (wx := fun pn G => wpX3_refusalToPut pn 0 a1 a2 a3 G) (wm := fun post G => wpX9_notDeposit post a1 a2 a3 G) (ax := fun post G => wpX3_put post 0 a1 a2 a3 G) (am := fun post G => wpX9_deposits post a1 a2 a3 G) (cd := cdA) (al := [0, 1, 2, 3]) (vq := fun _ => True) (G := G)
    (px := fun (r7 : Int32) (G6 : GS) => vp_in 0 1 ∧ ∀ G8 : GS, G8 = gL G6 ((0 : Int32).toNatClampNeg) r7.toInt64 → PL 0 G8)
    (gx := fun (E : String) (G9 : GS) => if E = "java/lang/IndexOutOfBoundsException" then PL 1 G9 else if E = "java/lang/IllegalArgumentException" then PL 2 G9 else if E = "java/lang/IllegalStateException" then PL 3 G9 else False)
    (Y := fun c G2 => wpX9_deposit (FIN Inv c) a1 a2 a3 G2) (pm := fun c => FIN Inv c) (pf := fun c r3 G2 => wpX9_fails (FIN Inv c) r3 G2)
    I C M T (n_put B a1 a2 a3) (fun ⟨v, k, f, hv, hk, e1, ek, f1, f2, e3, c⟩ => by rw [e1, e3]; exact d_put B hv hk ek c) (by decide) rfl (by decide) ?_ ?_ ?_ ?_ ?_
  · intro o ho h0 G' hy
    obtain rfl | rfl | rfl | rfl : o = 0 ∨ o = 1 ∨ o = 2 ∨ o = 3 := by simpa using ho
    · exact absurd rfl h0
    · exact ifT xn_1 (h _ _ hy)
    · exact ifF (by rw [xn_2]; decide +kernel) (ifT xn_2 (h _ _ hy))
    · exact ifF (by rw [xn_3]; decide +kernel) (ifF (by rw [xn_3]; decide +kernel) (ifT xn_3 (h _ _ hy)))
  · intro val G' _ hy
    refine ⟨vin01, ?_⟩
    rintro G6 rfl
    exact h _ _ hy
  · intro c G' hw
    show wpX9_deposit _ _ _ _ _
    unfold wpX9_deposit
    rintro G1 rfl
    exact hw
  · exact fun val G' _ h1 h2 h3 => fin0 h1 h2 h3
  · intro o ho h0 G' i
    obtain rfl | rfl | rfl | rfl : o = 0 ∨ o = 1 ∨ o = 2 ∨ o = 3 := by simpa using ho
    · exact absurd rfl h0
    · exact m_fails (finE (by decide) (by rw [gI_at, upd_at]; first | done | rfl | decide) (Inv_th i _))
    · exact m_fails (finE (by decide) (by rw [gI_at, upd_at]; first | done | rfl | decide) (Inv_th i _))
    · exact m_fails (finE (by decide) (by rw [gI_at, upd_at]; first | done | rfl | decide) (Inv_th i _))
theorem k_law_1 {L : Nat} {xs : Nat → Int32} {v5 : Int32} {G : GS} (I : Inv G) (hv : ∀ j, j < 5 → vp_in (v5 + nI j) L) : wpL_law_1 Inv L xs v5 G :=
  ⟨hv 1 (by decide), hv 2 (by decide), hv 3 (by decide), w_deposit I _ _ _ (fun c G' y => ⟨hv 1 (by decide), hv 2 (by decide), hv 3 (by decide), y⟩)⟩
set_option maxHeartbeats 400000 in
theorem w_withdraw {G : GS} (I : Inv G) (a1 a2 a3 : Int32) {PL : Int32 → GS → Prop} (h : ∀ c G', wpX9_withdraw (FIN Inv c) a1 a2 a3 G' → PL c G') : wpL_withdraw PL a1 a2 a3 G := by
  obtain ⟨n, R, A, B, C, M, T⟩ := I.1
  refine chg (n := n) (R := R) (A := A) (wx := fun pn G => wpX3_refusalToTake pn 0 a1 a2 a3 G) (wm := fun post G => wpX9_notWithdraw post a1 a2 a3 G) (ax := fun post G => wpX3_take post 0 a1 a2 a3 G) (am := fun post G => wpX9_withdraws post a1 a2 a3 G) (cd := cdA) (al := [0, 1, 2, 3, 4]) (vq := fun _ => True) (G := G)
    (px := fun (r7 : Int32) (G6 : GS) => vp_in 0 1 ∧ ∀ G8 : GS, G8 = gL G6 ((0 : Int32).toNatClampNeg) r7.toInt64 → PL 0 G8)
    (gx := fun (E : String) (G9 : GS) => if E = "java/lang/IndexOutOfBoundsException" then PL 1 G9 else if E = "java/lang/IllegalArgumentException" then PL 2 G9 else if E = "java/lang/IllegalStateException" then PL 3 G9 else if E = "java/lang/UnsupportedOperationException" then PL 4 G9 else False)
    (Y := fun c G2 => wpX9_withdraw (FIN Inv c) a1 a2 a3 G2) (pm := fun c => FIN Inv c) (pf := fun c r3 G2 => wpX9_fails (FIN Inv c) r3 G2)
    I C M T (n_take B a1 a2 a3) (fun ⟨v, k, f, hv, hk, e1, ek, f1, f2, e3, c⟩ => by rw [e1, e3]; exact d_take B hv hk ek c) (by decide) rfl (by decide) ?_ ?_ ?_ ?_ ?_
  · intro o ho h0 G' hy
    obtain rfl | rfl | rfl | rfl | rfl : o = 0 ∨ o = 1 ∨ o = 2 ∨ o = 3 ∨ o = 4 := by simpa using ho
    · exact absurd rfl h0
    · exact ifT xn_1 (h _ _ hy)
    · exact ifF (by rw [xn_2]; decide +kernel) (ifT xn_2 (h _ _ hy))
    · exact ifF (by rw [xn_3]; decide +kernel) (ifF (by rw [xn_3]; decide +kernel) (ifT xn_3 (h _ _ hy)))
    · exact ifF (by rw [xn_4]; decide +kernel) (ifF (by rw [xn_4]; decide +kernel) (ifF (by rw [xn_4]; decide +kernel) (ifT xn_4 (h _ _ hy))))
  · intro val G' _ hy
    refine ⟨vin01, ?_⟩
    rintro G6 rfl
    exact h _ _ hy
  · intro c G' hw
    show wpX9_withdraw _ _ _ _ _
    unfold wpX9_withdraw
    rintro G1 rfl
    exact hw
  · exact fun val G' _ h1 h2 h3 => fin0 h1 h2 h3
  · intro o ho h0 G' i
    obtain rfl | rfl | rfl | rfl | rfl : o = 0 ∨ o = 1 ∨ o = 2 ∨ o = 3 ∨ o = 4 := by simpa using ho
    · exact absurd rfl h0
    · exact m_fails (finE (by decide) (by rw [gI_at, upd_at]; first | done | rfl | decide) (Inv_th i _))
    · exact m_fails (finE (by decide) (by rw [gI_at, upd_at]; first | done | rfl | decide) (Inv_th i _))
    · exact m_fails (finE (by decide) (by rw [gI_at, upd_at]; first | done | rfl | decide) (Inv_th i _))
    · exact m_fails (finE (by decide) (by rw [gI_at, upd_at]; first | done | rfl | decide) (Inv_th i _))
theorem k_law_2 {L : Nat} {xs : Nat → Int32} {v5 : Int32} {G : GS} (I : Inv G) (hv : ∀ j, j < 5 → vp_in (v5 + nI j) L) : wpL_law_2 Inv L xs v5 G :=
  ⟨hv 1 (by decide), hv 2 (by decide), hv 3 (by decide), w_withdraw I _ _ _ (fun c G' y => ⟨hv 1 (by decide), hv 2 (by decide), hv 3 (by decide), y⟩)⟩
set_option maxHeartbeats 400000 in
theorem w_exchange {G : GS} (I : Inv G) (a1 a2 a3 a4 : Int32) {PL : Int32 → GS → Prop} (h : ∀ c G', wpX9_exchange (FIN Inv c) a1 a2 a3 a4 G' → PL c G') : wpL_exchange PL a1 a2 a3 a4 G := by
  obtain ⟨n, R, A, B, C, M, T⟩ := I.1
  refine chg (n := n) (R := R) (A := A) (wx := fun pn G => wpX3_refusalToSwap pn 0 a1 a2 a3 a4 G) (wm := fun post G => wpX9_notExchange post a1 a2 a3 a4 G) (ax := fun post G => wpX3_swap post 0 a1 a2 a3 a4 G) (am := fun post G => wpX9_exchanges post a1 a2 a3 a4 G) (cd := cdA) (al := [0, 1, 2, 3, 4]) (vq := fun _ => True) (G := G)
    (px := fun (r7 : Int32) (G6 : GS) => vp_in 0 1 ∧ ∀ G8 : GS, G8 = gL G6 ((0 : Int32).toNatClampNeg) r7.toInt64 → PL 0 G8)
    (gx := fun (E : String) (G9 : GS) => if E = "java/lang/IndexOutOfBoundsException" then PL 1 G9 else if E = "java/lang/IllegalArgumentException" then PL 2 G9 else if E = "java/lang/IllegalStateException" then PL 3 G9 else if E = "java/lang/UnsupportedOperationException" then PL 4 G9 else False)
    (Y := fun c G2 => wpX9_exchange (FIN Inv c) a1 a2 a3 a4 G2) (pm := fun c => FIN Inv c) (pf := fun c r3 G2 => wpX9_fails (FIN Inv c) r3 G2)
    I C M T (n_swap B a1 a2 a3 a4) (fun ⟨v, k, t, f, hv, hk, ht, hkt, e1, ek, et, f1, f2, e4, c, d⟩ => by rw [e1, e4]; exact d_swap B hv hk ht hkt ek et f2 c d) (by decide) rfl (by decide) ?_ ?_ ?_ ?_ ?_
  · intro o ho h0 G' hy
    obtain rfl | rfl | rfl | rfl | rfl : o = 0 ∨ o = 1 ∨ o = 2 ∨ o = 3 ∨ o = 4 := by simpa using ho
    · exact absurd rfl h0
    · exact ifT xn_1 (h _ _ hy)
    · exact ifF (by rw [xn_2]; decide +kernel) (ifT xn_2 (h _ _ hy))
    · exact ifF (by rw [xn_3]; decide +kernel) (ifF (by rw [xn_3]; decide +kernel) (ifT xn_3 (h _ _ hy)))
    · exact ifF (by rw [xn_4]; decide +kernel) (ifF (by rw [xn_4]; decide +kernel) (ifF (by rw [xn_4]; decide +kernel) (ifT xn_4 (h _ _ hy))))
  · intro val G' _ hy
    refine ⟨vin01, ?_⟩
    rintro G6 rfl
    exact h _ _ hy
  · intro c G' hw
    show wpX9_exchange _ _ _ _ _ _
    unfold wpX9_exchange
    rintro G1 rfl
    exact hw
  · exact fun val G' _ h1 h2 h3 => fin0 h1 h2 h3
  · intro o ho h0 G' i
    obtain rfl | rfl | rfl | rfl | rfl : o = 0 ∨ o = 1 ∨ o = 2 ∨ o = 3 ∨ o = 4 := by simpa using ho
    · exact absurd rfl h0
    · exact m_fails (finE (by decide) (by rw [gI_at, upd_at]; first | done | rfl | decide) (Inv_th i _))
    · exact m_fails (finE (by decide) (by rw [gI_at, upd_at]; first | done | rfl | decide) (Inv_th i _))
    · exact m_fails (finE (by decide) (by rw [gI_at, upd_at]; first | done | rfl | decide) (Inv_th i _))
    · exact m_fails (finE (by decide) (by rw [gI_at, upd_at]; first | done | rfl | decide) (Inv_th i _))
theorem k_law_3 {L : Nat} {xs : Nat → Int32} {v5 : Int32} {G : GS} (I : Inv G) (hv : ∀ j, j < 5 → vp_in (v5 + nI j) L) : wpL_law_3 Inv L xs v5 G :=
  ⟨hv 1 (by decide), hv 2 (by decide), hv 3 (by decide), hv 4 (by decide), w_exchange I _ _ _ _ (fun c G' y => ⟨hv 1 (by decide), hv 2 (by decide), hv 3 (by decide), hv 4 (by decide), y⟩)⟩
set_option maxHeartbeats 400000 in
theorem w_mint {G : GS} (I : Inv G) (a1 a2 : Int32) {PL : Int32 → GS → Prop} (h : ∀ c G', wpX9_mint (FIN Inv c) a1 a2 G' → PL c G') : wpL_mint PL a1 a2 G := by
  obtain ⟨n, R, A, B, C, M, T⟩ := I.1
  refine chg (n := n) (R := R) (A := A) (wx := fun pn G => wpX3_refusalToIssue pn 0 a1 a2 G) (wm := fun post G => wpX9_notMint post a1 a2 G) (ax := fun post G => wpX3_issue post 0 a1 a2 G) (am := fun post G => wpX9_mints post a1 a2 G) (cd := cdA) (al := [0, 1, 2, 3, 4]) (vq := fun _ => True) (G := G)
    (px := fun (r7 : Int32) (G6 : GS) => vp_in 0 1 ∧ ∀ G8 : GS, G8 = gL G6 ((0 : Int32).toNatClampNeg) r7.toInt64 → PL 0 G8)
    (gx := fun (E : String) (G9 : GS) => if E = "java/lang/IndexOutOfBoundsException" then PL 1 G9 else if E = "java/lang/IllegalArgumentException" then PL 2 G9 else if E = "java/lang/IllegalStateException" then PL 3 G9 else if E = "java/lang/UnsupportedOperationException" then PL 4 G9 else False)
    (Y := fun c G2 => wpX9_mint (FIN Inv c) a1 a2 G2) (pm := fun c => FIN Inv c) (pf := fun c r3 G2 => wpX9_fails (FIN Inv c) r3 G2)
    I C M T (n_mint B a1 a2) (fun ⟨v, f, hv, e1, f1, f2, e2, c⟩ => by rw [e1, e2]; exact d_mint B hv c) (by decide) rfl (by decide) ?_ ?_ ?_ ?_ ?_
  · intro o ho h0 G' hy
    obtain rfl | rfl | rfl | rfl | rfl : o = 0 ∨ o = 1 ∨ o = 2 ∨ o = 3 ∨ o = 4 := by simpa using ho
    · exact absurd rfl h0
    · exact ifT xn_1 (h _ _ hy)
    · exact ifF (by rw [xn_2]; decide +kernel) (ifT xn_2 (h _ _ hy))
    · exact ifF (by rw [xn_3]; decide +kernel) (ifF (by rw [xn_3]; decide +kernel) (ifT xn_3 (h _ _ hy)))
    · exact ifF (by rw [xn_4]; decide +kernel) (ifF (by rw [xn_4]; decide +kernel) (ifF (by rw [xn_4]; decide +kernel) (ifT xn_4 (h _ _ hy))))
  · intro val G' _ hy
    refine ⟨vin01, ?_⟩
    rintro G6 rfl
    exact h _ _ hy
  · intro c G' hw
    show wpX9_mint _ _ _ _
    unfold wpX9_mint
    rintro G1 rfl
    exact hw
  · exact fun val G' _ h1 h2 h3 => fin0 h1 h2 h3
  · intro o ho h0 G' i
    obtain rfl | rfl | rfl | rfl | rfl : o = 0 ∨ o = 1 ∨ o = 2 ∨ o = 3 ∨ o = 4 := by simpa using ho
    · exact absurd rfl h0
    · exact m_fails (finE (by decide) (by rw [gI_at, upd_at]; first | done | rfl | decide) (Inv_th i _))
    · exact m_fails (finE (by decide) (by rw [gI_at, upd_at]; first | done | rfl | decide) (Inv_th i _))
    · exact m_fails (finE (by decide) (by rw [gI_at, upd_at]; first | done | rfl | decide) (Inv_th i _))
    · exact m_fails (finE (by decide) (by rw [gI_at, upd_at]; first | done | rfl | decide) (Inv_th i _))
theorem k_law_4 {L : Nat} {xs : Nat → Int32} {v5 : Int32} {G : GS} (I : Inv G) (hv : ∀ j, j < 5 → vp_in (v5 + nI j) L) : wpL_law_4 Inv L xs v5 G :=
  ⟨hv 1 (by decide), hv 2 (by decide), w_mint I _ _ (fun c G' y => ⟨hv 1 (by decide), hv 2 (by decide), y⟩)⟩
set_option maxHeartbeats 400000 in
theorem w_redeem {G : GS} (I : Inv G) (a1 a2 : Int32) {PL : Int32 → GS → Prop} (h : ∀ c G', wpX9_redeem (FIN Inv c) a1 a2 G' → PL c G') : wpL_redeem PL a1 a2 G := by
  obtain ⟨n, R, A, B, C, M, T⟩ := I.1
  refine chg (n := n) (R := R) (A := A) (wx := fun pn G => wpX3_refusalToMelt pn 0 a1 a2 G) (wm := fun post G => wpX9_notRedeem post a1 a2 G) (ax := fun post G => wpX3_melt post 0 a1 a2 G) (am := fun post G => wpX9_redeems post a1 a2 G) (cd := cdR) (al := [0, 1, 2, 4]) (vq := fun _ => True) (G := G)
    (px := fun (r7 : Int32) (G6 : GS) => vp_in 0 1 ∧ ∀ G8 : GS, G8 = gL G6 ((0 : Int32).toNatClampNeg) r7.toInt64 → PL 0 G8)
    (gx := fun (E : String) (G9 : GS) => if E = "java/lang/IndexOutOfBoundsException" then PL 1 G9 else if E = "java/lang/IllegalArgumentException" then PL 2 G9 else if E = "java/lang/UnsupportedOperationException" then PL 3 G9 else False)
    (Y := fun c G2 => wpX9_redeem (FIN Inv c) a1 a2 G2) (pm := fun c => FIN Inv c) (pf := fun c r3 G2 => wpX9_fails (FIN Inv c) r3 G2)
    I C M T (n_melt B a1 a2) (fun ⟨v, f, hv, e1, f1, f2, e2, c⟩ => by rw [e1, e2]; exact d_melt B hv c) (by decide) rfl (by decide) ?_ ?_ ?_ ?_ ?_
  · intro o ho h0 G' hy
    obtain rfl | rfl | rfl | rfl : o = 0 ∨ o = 1 ∨ o = 2 ∨ o = 4 := by simpa using ho
    · exact absurd rfl h0
    · exact ifT xn_1 (h _ _ hy)
    · exact ifF (by rw [xn_2]; decide +kernel) (ifT xn_2 (h _ _ hy))
    · exact ifF (by rw [xn_4]; decide +kernel) (ifF (by rw [xn_4]; decide +kernel) (ifT xn_4 (h _ _ hy)))
  · intro val G' _ hy
    refine ⟨vin01, ?_⟩
    rintro G6 rfl
    exact h _ _ hy
  · intro c G' hw
    show wpX9_redeem _ _ _ _
    unfold wpX9_redeem
    rintro G1 rfl
    exact hw
  · exact fun val G' _ h1 h2 h3 => fin0 h1 h2 h3
  · intro o ho h0 G' i
    obtain rfl | rfl | rfl | rfl : o = 0 ∨ o = 1 ∨ o = 2 ∨ o = 4 := by simpa using ho
    · exact absurd rfl h0
    · exact m_fails (finE (by decide) (by rw [gI_at, upd_at]; first | done | rfl | decide) (Inv_th i _))
    · exact m_fails (finE (by decide) (by rw [gI_at, upd_at]; first | done | rfl | decide) (Inv_th i _))
    · exact m_fails (finE (by decide) (by rw [gI_at, upd_at]; first | done | rfl | decide) (Inv_th i _))
theorem k_law_5 {L : Nat} {xs : Nat → Int32} {v5 : Int32} {G : GS} (I : Inv G) (hv : ∀ j, j < 5 → vp_in (v5 + nI j) L) : wpL_law_5 Inv L xs v5 G :=
  ⟨hv 1 (by decide), hv 2 (by decide), w_redeem I _ _ (fun c G' y => ⟨hv 1 (by decide), hv 2 (by decide), y⟩)⟩
set_option maxHeartbeats 400000 in
theorem w_audit {G : GS} (I : Inv G) (a1 : Int32) {PL : Int32 → GS → Prop} (h : ∀ c G', wpX9_audit (FINb Inv c) a1 G' → PL c G') : wpL_audit PL a1 G := by
  obtain ⟨n, R, A, B, C, M, T⟩ := I.1
  refine chg (n := n) (R := R) (A := A) (wx := fun pn G => wpX3_refusalToInspect pn 0 a1 G) (wm := fun post G => wpX9_notAudit post a1 G) (ax := fun post G => wpX3_inspect post 0 a1 G) (am := fun post G => wpX9_audits post a1 G) (cd := cdI) (al := [0, 1, 3]) (vq := fun r => r = 0 ∨ r = 1) (G := G)
    (px := fun (r7 : Int32) (G6 : GS) => narrow .boolean (.int r7) = .int r7 ∧ (if r7 = 0 then vp_in 0 1 ∧ ∀ G7 : GS, G7 = gL G6 ((0 : Int32).toNatClampNeg) 0 → PL 0 G7 else vp_in 0 1 ∧ ∀ G9 : GS, G9 = gL G6 ((0 : Int32).toNatClampNeg) 1 → PL 0 G9))
    (gx := fun (E : String) (G9 : GS) => if E = "java/lang/IndexOutOfBoundsException" then PL 1 G9 else if E = "java/lang/IllegalStateException" then PL 2 G9 else False)
    (Y := fun c G2 => wpX9_audit (FINb Inv c) a1 G2) (pm := fun c r7 G6 => if r7 = 1 then FINb Inv c 1 G6 else FINb Inv c 0 G6) (pf := fun c r3 G2 => wpX9_fails (fun (r10 : Int32) (G9 : GS) => if r10 ≤ 0 then FINb Inv c 0 G9 else FINb Inv c 1 G9) r3 G2)
    I C M T (n_inspect B a1) (fun ⟨v, hv, e1⟩ => by rw [e1]; exact d_inspect B hv) (by decide) rfl (by decide) ?_ ?_ ?_ ?_ ?_
  · intro o ho h0 G' hy
    obtain rfl | rfl | rfl : o = 0 ∨ o = 1 ∨ o = 3 := by simpa using ho
    · exact absurd rfl h0
    · exact ifT xn_1 (h _ _ hy)
    · exact ifF (by rw [xn_3]; decide +kernel) (ifT xn_3 (h _ _ hy))
  · intro val G' hq hy
    rcases hq with rfl | rfl
    · refine ⟨nb_01.2, ifT rfl ⟨vin01, ?_⟩⟩
      rintro G6 rfl
      exact h _ _ hy
    · refine ⟨nb_01.1, ifF (by decide) ⟨vin01, ?_⟩⟩
      rintro G6 rfl
      exact h _ _ hy
  · intro c G' hw
    show wpX9_audit _ _ _
    unfold wpX9_audit
    rintro G1 rfl
    exact hw
  · intro val G' hq h1 h2 h3
    rcases hq with rfl | rfl
    · exact ifF (by decide) (finb0 (Or.inl rfl) h1 h2 h3)
    · exact ifT rfl (finb0 (Or.inr rfl) h1 h2 h3)
  · intro o ho h0 G' i
    obtain rfl | rfl | rfl : o = 0 ∨ o = 1 ∨ o = 3 := by simpa using ho
    · exact absurd rfl h0
    · exact m_fails (ifT (by decide) (finbE (by decide) (by rw [gI_at, upd_at]) (Inv_th i _)))
    · exact m_fails (ifT (by decide) (finbE (by decide) (by rw [gI_at, upd_at]) (Inv_th i _)))
theorem k_law_6 {L : Nat} {xs : Nat → Int32} {v5 : Int32} {G : GS} (I : Inv G) (hv : ∀ j, j < 5 → vp_in (v5 + nI j) L) : wpL_law_6 Inv L xs v5 G :=
  ⟨hv 1 (by decide), w_audit I _ (fun c G' y => ⟨hv 1 (by decide), y⟩)⟩
set_option maxHeartbeats 400000 in
theorem w_setRate {G : GS} (I : Inv G) (a1 a2 : Int32) {PL : Int32 → GS → Prop} (h : ∀ c G', wpX9_setRate (FIN Inv c) a1 a2 G' → PL c G') : wpL_setRate PL a1 a2 G := by
  obtain ⟨n, R, A, B, C, M, T⟩ := I.1
  refine chg (n := n) (R := R) (A := A) (wx := fun pn G => wpX3_refusalToRate pn 0 a1 a2 G) (wm := fun post G => wpX9_notRate post a1 a2 G) (ax := fun post G => wpX3_changeRate post 0 a1 a2 G) (am := fun post G => wpX9_setsRate post a1 a2 G) (cd := cdO) (al := [0, 2]) (vq := fun _ => True) (G := G)
    (px := fun (r7 : Int32) (G6 : GS) => vp_in 0 1 ∧ ∀ G8 : GS, G8 = gL G6 ((0 : Int32).toNatClampNeg) r7.toInt64 → PL 0 G8)
    (gx := fun (E : String) (G9 : GS) => if E = "java/lang/IllegalArgumentException" then PL 1 G9 else False)
    (Y := fun c G2 => wpX9_setRate (FIN Inv c) a1 a2 G2) (pm := fun c => FIN Inv c) (pf := fun c r3 G2 => wpX9_fails (FIN Inv c) 1 G2)
    I C M T (n_rate a1 a2) (fun ⟨k, f, hk, ek, f1, f2, e2⟩ => by rw [e2]; exact d_rate B hk ek f1 f2) (by decide) rfl (by decide) ?_ ?_ ?_ ?_ ?_
  · intro o ho h0 G' hy
    obtain rfl | rfl : o = 0 ∨ o = 2 := by simpa using ho
    · exact absurd rfl h0
    · exact ifT xn_2 (h _ _ hy)
  · intro val G' _ hy
    refine ⟨vin01, ?_⟩
    rintro G6 rfl
    exact h _ _ hy
  · intro c G' hw
    show wpX9_setRate _ _ _ _
    unfold wpX9_setRate
    rintro G1 rfl
    exact hw
  · exact fun val G' _ h1 h2 h3 => fin0 h1 h2 h3
  · intro o ho h0 G' i
    obtain rfl | rfl : o = 0 ∨ o = 2 := by simpa using ho
    · exact absurd rfl h0
    · exact m_fails (finE (by decide) (by rw [gI_at, upd_at]; first | done | rfl | decide) (Inv_th i _))
theorem k_law_7 {L : Nat} {xs : Nat → Int32} {v5 : Int32} {G : GS} (I : Inv G) (hv : ∀ j, j < 5 → vp_in (v5 + nI j) L) : wpL_law_7 Inv L xs v5 G :=
  ⟨hv 1 (by decide), hv 2 (by decide), w_setRate I _ _ (fun c G' y => ⟨hv 1 (by decide), hv 2 (by decide), y⟩)⟩
set_option maxHeartbeats 400000 in
theorem w_setStickiness {G : GS} (I : Inv G) (a1 a2 : Int32) {PL : Int32 → GS → Prop} (h : ∀ c G', wpX9_setStickiness (FIN Inv c) a1 a2 G' → PL c G') : wpL_setStickiness PL a1 a2 G := by
  obtain ⟨n, R, A, B, C, M, T⟩ := I.1
  refine chg (n := n) (R := R) (A := A) (wx := fun pn G => wpX3_refusalToStick pn 0 a1 a2 G) (wm := fun post G => wpX9_notStick post a1 a2 G) (ax := fun post G => wpX3_changeStickiness post 0 a1 a2 G) (am := fun post G => wpX9_sticks post a1 a2 G) (cd := cdA) (al := [0, 1, 2]) (vq := fun _ => True) (G := G)
    (px := fun (r7 : Int32) (G6 : GS) => vp_in 0 1 ∧ ∀ G8 : GS, G8 = gL G6 ((0 : Int32).toNatClampNeg) r7.toInt64 → PL 0 G8)
    (gx := fun (E : String) (G9 : GS) => if E = "java/lang/IndexOutOfBoundsException" then PL 1 G9 else if E = "java/lang/IllegalArgumentException" then PL 2 G9 else False)
    (Y := fun c G2 => wpX9_setStickiness (FIN Inv c) a1 a2 G2) (pm := fun c => FIN Inv c) (pf := fun c r3 G2 => wpX9_fails (FIN Inv c) r3 G2)
    I C M T (n_stick B a1 a2) (fun ⟨v, t, hv, e1, ht, e2⟩ => by rw [e1, e2]; exact d_stick B hv ht) (by decide) rfl (by decide) ?_ ?_ ?_ ?_ ?_
  · intro o ho h0 G' hy
    obtain rfl | rfl | rfl : o = 0 ∨ o = 1 ∨ o = 2 := by simpa using ho
    · exact absurd rfl h0
    · exact ifT xn_1 (h _ _ hy)
    · exact ifF (by rw [xn_2]; decide +kernel) (ifT xn_2 (h _ _ hy))
  · intro val G' _ hy
    refine ⟨vin01, ?_⟩
    rintro G6 rfl
    exact h _ _ hy
  · intro c G' hw
    show wpX9_setStickiness _ _ _ _
    unfold wpX9_setStickiness
    rintro G1 rfl
    exact hw
  · exact fun val G' _ h1 h2 h3 => fin0 h1 h2 h3
  · intro o ho h0 G' i
    obtain rfl | rfl | rfl : o = 0 ∨ o = 1 ∨ o = 2 := by simpa using ho
    · exact absurd rfl h0
    · exact m_fails (finE (by decide) (by rw [gI_at, upd_at]; first | done | rfl | decide) (Inv_th i _))
    · exact m_fails (finE (by decide) (by rw [gI_at, upd_at]; first | done | rfl | decide) (Inv_th i _))
theorem k_law_8 {L : Nat} {xs : Nat → Int32} {v5 : Int32} {G : GS} (I : Inv G) (hv : ∀ j, j < 5 → vp_in (v5 + nI j) L) : wpL_law_8 Inv L xs v5 G :=
  ⟨hv 1 (by decide), hv 2 (by decide), w_setStickiness I _ _ (fun c G' y => ⟨hv 1 (by decide), hv 2 (by decide), y⟩)⟩
set_option maxHeartbeats 400000 in
theorem w_passDays {G : GS} (I : Inv G) (a1 : Int32) {PL : Int32 → GS → Prop} (h : ∀ c G', wpX9_passDays (FIN Inv c) a1 G' → PL c G') : wpL_passDays PL a1 G := by
  obtain ⟨n, R, A, B, C, M, T⟩ := I.1
  refine chg (n := n) (R := R) (A := A) (wx := fun pn G => wpX3_refusalToWait pn 0 a1 G) (wm := fun post G => wpX9_notDays post a1 G) (ax := fun post G => wpX3_letPass post 0 a1 G) (am := fun post G => wpX9_passes post a1 G) (cd := cdO) (al := [0, 2]) (vq := fun _ => True) (G := G)
    (px := fun (r7 : Int32) (G6 : GS) => vp_in 0 1 ∧ ∀ G8 : GS, G8 = gL G6 ((0 : Int32).toNatClampNeg) r7.toInt64 → PL 0 G8)
    (gx := fun (E : String) (G9 : GS) => if E = "java/lang/IllegalArgumentException" then PL 1 G9 else False)
    (Y := fun c G2 => wpX9_passDays (FIN Inv c) a1 G2) (pm := fun c => FIN Inv c) (pf := fun c r3 G2 => wpX9_fails (FIN Inv c) 1 G2)
    I C M T (n_wait a1) (fun ⟨d, d1, d2, e⟩ => by rw [e]; exact d_wait B d2) (by decide) rfl (by decide) ?_ ?_ ?_ ?_ ?_
  · intro o ho h0 G' hy
    obtain rfl | rfl : o = 0 ∨ o = 2 := by simpa using ho
    · exact absurd rfl h0
    · exact ifT xn_2 (h _ _ hy)
  · intro val G' _ hy
    refine ⟨vin01, ?_⟩
    rintro G6 rfl
    exact h _ _ hy
  · intro c G' hw
    show wpX9_passDays _ _ _
    unfold wpX9_passDays
    rintro G1 rfl
    exact hw
  · exact fun val G' _ h1 h2 h3 => fin0 h1 h2 h3
  · intro o ho h0 G' i
    obtain rfl | rfl : o = 0 ∨ o = 2 := by simpa using ho
    · exact absurd rfl h0
    · exact m_fails (finE (by decide) (by rw [gI_at, upd_at]; first | done | rfl | decide) (Inv_th i _))
theorem k_law_9 {L : Nat} {xs : Nat → Int32} {v5 : Int32} {G : GS} (I : Inv G) (hv : ∀ j, j < 5 → vp_in (v5 + nI j) L) : wpL_law_9 Inv L xs v5 G :=
  ⟨hv 1 (by decide), w_passDays I _ (fun c G' y => ⟨hv 1 (by decide), y⟩)⟩
