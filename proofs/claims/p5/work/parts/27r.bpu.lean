/-! What the reference's parser computes. -/
noncomputable def B_four (v : Int32) (σ : ex_S) : ex_S :=
  (sI 1 (((((σ.1 1) + (1 : Int32)) + (1 : Int32)) + (1 : Int32)) + (1 : Int32)) (sR 0 (upd (upd (upd (upd (σ.2.2.1 0) ((σ.1 1)).toNatClampNeg (vp_nar .byte (v >>> ((24 : Int32) &&& 31)).toInt8.toInt32)) (((σ.1 1) + (1 : Int32))).toNatClampNeg (vp_nar .byte (v >>> ((16 : Int32) &&& 31)).toInt8.toInt32)) ((((σ.1 1) + (1 : Int32)) + (1 : Int32))).toNatClampNeg (vp_nar .byte (v >>> ((8 : Int32) &&& 31)).toInt8.toInt32)) (((((σ.1 1) + (1 : Int32)) + (1 : Int32)) + (1 : Int32))).toNatClampNeg (vp_nar .byte (v >>> ((0 : Int32) &&& 31)).toInt8.toInt32)) (sI 1 ((((σ.1 1) + (1 : Int32)) + (1 : Int32)) + (1 : Int32)) (sR 0 (upd (upd (upd (σ.2.2.1 0) ((σ.1 1)).toNatClampNeg (vp_nar .byte (v >>> ((24 : Int32) &&& 31)).toInt8.toInt32)) (((σ.1 1) + (1 : Int32))).toNatClampNeg (vp_nar .byte (v >>> ((16 : Int32) &&& 31)).toInt8.toInt32)) ((((σ.1 1) + (1 : Int32)) + (1 : Int32))).toNatClampNeg (vp_nar .byte (v >>> ((8 : Int32) &&& 31)).toInt8.toInt32)) (sI 1 (((σ.1 1) + (1 : Int32)) + (1 : Int32)) (sR 0 (upd (upd (σ.2.2.1 0) ((σ.1 1)).toNatClampNeg (vp_nar .byte (v >>> ((24 : Int32) &&& 31)).toInt8.toInt32)) (((σ.1 1) + (1 : Int32))).toNatClampNeg (vp_nar .byte (v >>> ((16 : Int32) &&& 31)).toInt8.toInt32)) (sI 1 ((σ.1 1) + (1 : Int32)) (sR 0 (upd (σ.2.2.1 0) ((σ.1 1)).toNatClampNeg (vp_nar .byte (v >>> ((24 : Int32) &&& 31)).toInt8.toInt32)) σ))))))))
noncomputable def B_feed (v1 : Int32) (v2 : Int32) (v3 : Int32) (v4 : Int32) (v5 : Int32) (σ : ex_S) : Int32 × ex_S :=
  if ((940 : Int32)).toInt < (((σ.1 1) + (20 : Int32))).toInt then
    ((-1 : Int32), (sI 0 (0 : Int32) σ))
  else
    ex_lt (B_four v1 (sI 0 (0 : Int32) σ)) (fun σ2 =>
    ex_lt (B_four v2 σ2) (fun σ5 =>
    ex_lt (B_four v3 σ5) (fun σ8 =>
    ex_lt (B_four v4 σ8) (fun σ12 =>
    ex_lt (B_four v5 σ12) (fun σ15 =>
    ((σ15.1 1), σ15))))))
noncomputable def B_isIn (v : Int32) (lo : Int32) (hi : Int32) : Int32 :=
  if (v).toInt < (lo).toInt then
    (0 : Int32)
  else
    if (hi).toInt < (v).toInt then
      (0 : Int32)
    else
      (1 : Int32)
noncomputable def B_bitOf (v : Int32) (k : Int32) : Int32 :=
  if ((v >>> (k &&& 31)) &&& (1 : Int32)) = (1 : Int32) then
    (1 : Int32)
  else
    (0 : Int32)
noncomputable def B_isSmall (ch : Int32) : Int32 :=
  if (ch).toInt < ((97 : Int32)).toInt then
    (0 : Int32)
  else
    if ((122 : Int32)).toInt < (ch).toInt then
      (0 : Int32)
    else
      (1 : Int32)
noncomputable def B_isDigit (ch : Int32) : Int32 :=
  if (ch).toInt < ((48 : Int32)).toInt then
    (0 : Int32)
  else
    if ((57 : Int32)).toInt < (ch).toInt then
      (0 : Int32)
    else
      (1 : Int32)
noncomputable def B_taken (mo : Int32) (σ : ex_S) : ex_S :=
  (sI 4 mo (sI 3 (0 : Int32) (sI 1 (0 : Int32) (sI 2 (σ.1 1) σ))))
noncomputable def B_peek (σ : ex_S) : Int32 :=
  if ((σ.1 3)).toInt < ((σ.1 2)).toInt then
    (((σ.2.2.1 0) ((σ.1 3)).toNatClampNeg) &&& (255 : Int32))
  else
    (-1 : Int32)
noncomputable def B_bad (why : Int32) (σ : ex_S) : Int32 × ex_S :=
  ((0 : Int32), (sI 10 (σ.1 6) (sI 9 why σ)))
noncomputable def B_isWord (w8 : Int64) (σ : ex_S) : Int32 :=
  if (σ.1 5) = (1 : Int32) then
    if (lg_cmp (σ.2.1 0) w8) = 0 then
      (1 : Int32)
    else
      (0 : Int32)
  else
    (0 : Int32)
noncomputable def B_isSign (ch : Int32) (σ : ex_S) : Int32 :=
  if (σ.1 5) = (3 : Int32) then
    if (σ.1 8) = ch then
      (1 : Int32)
    else
      (0 : Int32)
  else
    (0 : Int32)
noncomputable def B_find (fr ma : Int32) (σ : ex_S) : Int32 := ex_find (fun k => σ.2.2.2 0 (fr + nI k).toNatClampNeg) (σ.2.1 0) ma.toInt.toNat 0
noncomputable def B_nm (g : Nat → Int64) (x : Int64) : Nat → Nat → Int32 → Int32
  | 0, _, b => b
  | n + 1, i, b => B_nm g x n (i + 1) (if b = 0 then 0 else if lg_cmp x (g i) = 0 then 0 else 1)
theorem B_nm_s {g : Nat → Int64} {x : Int64} {n i : Nat} {b : Int32} : B_nm g x (n + 1) i b = B_nm g x n (i + 1) (if b = 0 then 0 else if lg_cmp x (g i) = 0 then 0 else 1) := rfl
noncomputable def B_isName (σ : ex_S) : Int32 := B_nm (σ.2.2.2 1) (σ.2.1 0) 22 0 (if σ.1 5 = 1 then 1 else 0)
noncomputable def B_sk (σ : ex_S) : Nat → Int32 → Int32
  | 0, p => p
  | k + 1, p => ex_lt (B_peek (sI 3 p σ)) (fun r => if r = 32 then B_sk σ k (p + 1) else ex_lt (B_peek (sI 3 p σ)) (fun r2 => if r2 = 10 then B_sk σ k (p + 1) else p))
theorem B_sk_s {σ : ex_S} {k : Nat} {p : Int32} : B_sk σ (k + 1) p = ex_lt (B_peek (sI 3 p σ)) (fun r => if r = 32 then B_sk σ k (p + 1) else ex_lt (B_peek (sI 3 p σ)) (fun r2 => if r2 = 10 then B_sk σ k (p + 1) else p)) := rfl
theorem B_peek_lt {σ : ex_S} {r : Int32} (h : r = B_peek σ) (h2 : ¬ r = -1) : (σ.1 3).toInt < (σ.1 2).toInt := by
  by_cases hc : (σ.1 3).toInt < (σ.1 2).toInt
  · exact hc
  · exact absurd (h.trans (by unfold B_peek; exact if_neg hc)) h2
theorem ex_n1 {x : Int32} (h : x = 32 ∨ x = 10) : ¬ x = -1 := by rcases h with rfl | rfl <;> decide
theorem ex_c4 {p p1 sp sp1 nu nu1 : Int32} {wd wd1 : Int64} {σ : ex_S} : sI 3 p1 (sI 7 sp1 (sI 8 nu1 (sL 0 wd1 (sI 3 p (sI 7 sp (sI 8 nu (sL 0 wd σ))))))) = sI 3 p1 (sI 7 sp1 (sI 8 nu1 (sL 0 wd1 σ))) := by
  unfold sI sL
  refine Prod.ext (funext fun j => ?_) (Prod.ext (funext fun j => ?_) rfl)
  · show (bif Nat.beq j 3 then p1 else bif Nat.beq j 7 then sp1 else bif Nat.beq j 8 then nu1 else bif Nat.beq j 3 then p else bif Nat.beq j 7 then sp else bif Nat.beq j 8 then nu else σ.1 j) = bif Nat.beq j 3 then p1 else bif Nat.beq j 7 then sp1 else bif Nat.beq j 8 then nu1 else σ.1 j
    cases Nat.beq j 3 <;> cases Nat.beq j 7 <;> cases Nat.beq j 8 <;> rfl
  · show (bif Nat.beq j 0 then wd1 else bif Nat.beq j 0 then wd else σ.2.1 j) = bif Nat.beq j 0 then wd1 else σ.2.1 j
    cases Nat.beq j 0 <;> rfl
theorem ex_c3 {p p1 sp sp1 nu nu1 : Int32} {wd : Int64} {σ : ex_S} : sI 3 p1 (sI 7 sp1 (sI 8 nu1 (sI 3 p (sI 7 sp (sI 8 nu (sL 0 wd σ)))))) = sI 3 p1 (sI 7 sp1 (sI 8 nu1 (sL 0 wd σ))) := by
  unfold sI sL
  refine Prod.ext (funext fun j => ?_) rfl
  show (bif Nat.beq j 3 then p1 else bif Nat.beq j 7 then sp1 else bif Nat.beq j 8 then nu1 else bif Nat.beq j 3 then p else bif Nat.beq j 7 then sp else bif Nat.beq j 8 then nu else σ.1 j) = bif Nat.beq j 3 then p1 else bif Nat.beq j 7 then sp1 else bif Nat.beq j 8 then nu1 else σ.1 j
  cases Nat.beq j 3 <;> cases Nat.beq j 7 <;> cases Nat.beq j 8 <;> rfl
theorem ex_c2 {p p1 sp sp1 nu : Int32} {wd wd1 : Int64} {σ : ex_S} : sI 3 p1 (sI 7 sp1 (sL 0 wd1 (sI 3 p (sI 7 sp (sI 8 nu (sL 0 wd σ)))))) = sI 3 p1 (sI 7 sp1 (sI 8 nu (sL 0 wd1 σ))) := by
  unfold sI sL
  refine Prod.ext (funext fun j => ?_) (Prod.ext (funext fun j => ?_) rfl)
  · show (bif Nat.beq j 3 then p1 else bif Nat.beq j 7 then sp1 else bif Nat.beq j 3 then p else bif Nat.beq j 7 then sp else bif Nat.beq j 8 then nu else σ.1 j) = bif Nat.beq j 3 then p1 else bif Nat.beq j 7 then sp1 else bif Nat.beq j 8 then nu else σ.1 j
    cases Nat.beq j 3 <;> cases Nat.beq j 7 <;> cases Nat.beq j 8 <;> rfl
  · show (bif Nat.beq j 0 then wd1 else bif Nat.beq j 0 then wd else σ.2.1 j) = bif Nat.beq j 0 then wd1 else σ.2.1 j
    cases Nat.beq j 0 <;> rfl
theorem ex_c1 {p p1 sp sp1 nu : Int32} {wd : Int64} {σ : ex_S} : sI 3 p1 (sI 7 sp1 (sI 3 p (sI 7 sp (sI 8 nu (sL 0 wd σ))))) = sI 3 p1 (sI 7 sp1 (sI 8 nu (sL 0 wd σ))) := by
  unfold sI sL
  refine Prod.ext (funext fun j => ?_) rfl
  show (bif Nat.beq j 3 then p1 else bif Nat.beq j 7 then sp1 else bif Nat.beq j 3 then p else bif Nat.beq j 7 then sp else bif Nat.beq j 8 then nu else σ.1 j) = bif Nat.beq j 3 then p1 else bif Nat.beq j 7 then sp1 else bif Nat.beq j 8 then nu else σ.1 j
  cases Nat.beq j 3 <;> cases Nat.beq j 7 <;> cases Nat.beq j 8 <;> rfl
theorem ex_c0 {σ : ex_S} : sI 8 0 (sL 0 0 (sI 7 0 σ)) = sI 3 (σ.1 3) (sI 7 0 (sI 8 0 (sL 0 0 σ))) := by
  unfold sI sL
  refine Prod.ext (funext fun j => ?_) rfl
  show (bif Nat.beq j 8 then (0 : Int32) else bif Nat.beq j 7 then 0 else σ.1 j) = bif Nat.beq j 3 then σ.1 3 else bif Nat.beq j 7 then 0 else bif Nat.beq j 8 then 0 else σ.1 j
  cases hb : Nat.beq j 3
  · cases Nat.beq j 7 <;> cases Nat.beq j 8 <;> rfl
  · rw [Nat.eq_of_beq_eq_true hb]; rfl
theorem B_INV_pos {σ : ex_S} (hI : B_INV σ) {p : Int32} (h0 : 0 ≤ p.toInt) (h1 : p.toInt ≤ (σ.1 2).toInt) : B_INV (sI 3 p σ) := And.intro hI.1 (And.intro ⟨h0, h1⟩ hI.2.2)
noncomputable def B_rr221 (al : Int32) (sm : Int32) (σ : ex_S) : Int32 :=
  if al = 0 then
    (0 : Int32)
  else
    ex_lt (B_peek σ) (fun r2 =>
    ex_lt (B_isSmall r2) (fun r4 =>
    if r4 = sm then
      (1 : Int32)
    else
      (0 : Int32)))
noncomputable def B_rrC (K : Int32 → Int32 → Int32 → Int32 → Int64 → ex_S) (τ0 : ex_S) (sm q sp nu al : Int32) (wd : Int64) : ex_S :=
  ex_lt (B_rr221 al sm (sI 3 q (sI 7 sp (sI 8 nu (sL 0 wd τ0))))) (fun v1 =>
  if (sp).toInt < ((7 : Int32)).toInt then
    ex_lt (B_peek (sI 3 q (sI 7 sp (sI 8 nu (sL 0 wd τ0))))) (fun r8 =>
    if (sp).toInt < ((3 : Int32)).toInt then
      ex_lt (B_peek (sL 0 ((wd <<< (((8 : Int32)).toInt64 &&& 63)) ||| r8.toInt64) (sI 3 q (sI 7 sp (sI 8 nu (sL 0 wd τ0)))))) (fun r12 =>
      K (q + (1 : Int32)) (sp + (1 : Int32)) ((((10 : Int32) * nu) + r12) - (48 : Int32)) v1 ((wd <<< (((8 : Int32)).toInt64 &&& 63)) ||| r8.toInt64))
    else
      K (q + (1 : Int32)) (sp + (1 : Int32)) nu v1 ((wd <<< (((8 : Int32)).toInt64 &&& 63)) ||| r8.toInt64))
  else
    if (sp).toInt < ((3 : Int32)).toInt then
      ex_lt (B_peek (sI 3 q (sI 7 sp (sI 8 nu (sL 0 wd τ0))))) (fun r6 =>
      K (q + (1 : Int32)) (sp + (1 : Int32)) ((((10 : Int32) * nu) + r6) - (48 : Int32)) v1 wd)
    else
      K (q + (1 : Int32)) (sp + (1 : Int32)) nu v1 wd)
noncomputable def B_rr (τ0 : ex_S) (sm : Int32) : Nat → Int32 → Int32 → Int32 → Int32 → Int64 → ex_S
  | 0, q, sp, nu, al, wd => (sI 3 q (sI 7 sp (sI 8 nu (sL 0 wd τ0))))
  | k + 1, q, sp, nu, al, wd =>
    ex_lt (B_peek (sI 3 q (sI 7 sp (sI 8 nu (sL 0 wd τ0))))) (fun r20 =>
    ex_lt (B_isSmall r20) (fun r22 =>
    if r22 = 0 then
      ex_lt (B_peek (sI 3 q (sI 7 sp (sI 8 nu (sL 0 wd τ0))))) (fun r25 =>
      ex_lt (B_isDigit r25) (fun r27 =>
      if r27 = 0 then
        if al = 0 then
          (sI 5 (4 : Int32) (sI 3 q (sI 7 sp (sI 8 nu (sL 0 wd τ0)))))
        else
          if sm = 0 then
            if ((3 : Int32)).toInt < (sp).toInt then
              (sI 5 (4 : Int32) (sI 3 q (sI 7 sp (sI 8 nu (sL 0 wd τ0)))))
            else
              if sm = 0 then
                (sI 5 (2 : Int32) (sI 3 q (sI 7 sp (sI 8 nu (sL 0 wd τ0)))))
              else
                (sI 5 (1 : Int32) (sI 3 q (sI 7 sp (sI 8 nu (sL 0 wd τ0)))))
          else
            if ((7 : Int32)).toInt < (sp).toInt then
              (sI 5 (4 : Int32) (sI 3 q (sI 7 sp (sI 8 nu (sL 0 wd τ0)))))
            else
              if sm = 0 then
                (sI 5 (2 : Int32) (sI 3 q (sI 7 sp (sI 8 nu (sL 0 wd τ0)))))
              else
                (sI 5 (1 : Int32) (sI 3 q (sI 7 sp (sI 8 nu (sL 0 wd τ0)))))
      else
        B_rrC (B_rr τ0 sm k) τ0 sm q sp nu al wd))
    else
      B_rrC (B_rr τ0 sm k) τ0 sm q sp nu al wd))
theorem B_rr_s {τ0 : ex_S} {sm : Int32} {k : Nat} {q sp nu al : Int32} {wd : Int64} : B_rr τ0 sm (k + 1) q sp nu al wd =
    ex_lt (B_peek (sI 3 q (sI 7 sp (sI 8 nu (sL 0 wd τ0))))) (fun r20 =>
    ex_lt (B_isSmall r20) (fun r22 =>
    if r22 = 0 then
      ex_lt (B_peek (sI 3 q (sI 7 sp (sI 8 nu (sL 0 wd τ0))))) (fun r25 =>
      ex_lt (B_isDigit r25) (fun r27 =>
      if r27 = 0 then
        if al = 0 then
          (sI 5 (4 : Int32) (sI 3 q (sI 7 sp (sI 8 nu (sL 0 wd τ0)))))
        else
          if sm = 0 then
            if ((3 : Int32)).toInt < (sp).toInt then
              (sI 5 (4 : Int32) (sI 3 q (sI 7 sp (sI 8 nu (sL 0 wd τ0)))))
            else
              if sm = 0 then
                (sI 5 (2 : Int32) (sI 3 q (sI 7 sp (sI 8 nu (sL 0 wd τ0)))))
              else
                (sI 5 (1 : Int32) (sI 3 q (sI 7 sp (sI 8 nu (sL 0 wd τ0)))))
          else
            if ((7 : Int32)).toInt < (sp).toInt then
              (sI 5 (4 : Int32) (sI 3 q (sI 7 sp (sI 8 nu (sL 0 wd τ0)))))
            else
              if sm = 0 then
                (sI 5 (2 : Int32) (sI 3 q (sI 7 sp (sI 8 nu (sL 0 wd τ0)))))
              else
                (sI 5 (1 : Int32) (sI 3 q (sI 7 sp (sI 8 nu (sL 0 wd τ0)))))
      else
        B_rrC (B_rr τ0 sm k) τ0 sm q sp nu al wd))
    else
      B_rrC (B_rr τ0 sm k) τ0 sm q sp nu al wd)) := rfl
theorem B_lt {σ : ex_S} (hI : B_INV σ) {r v : Int32} (h : r = B_peek σ) (h2 : v = B_isSmall r ∨ v = B_isDigit r) (h3 : ¬ v = 0) : (σ.1 3).toInt < (σ.1 2).toInt := by
  refine B_peek_lt h (fun q => h3 ?_)
  subst q
  rcases h2 with rfl | rfl
  · unfold B_isSmall; exact if_pos (by decide)
  · unfold B_isDigit; exact if_pos (by decide)
noncomputable def B_run (τ : ex_S) (sm : Int32) : ex_S := B_rr (sI 6 (τ.1 3) τ) sm 941 (τ.1 3) 0 0 1 0
theorem B_run_eq {τ : ex_S} {sm : Int32} : B_run τ sm = B_rr (sI 6 (τ.1 3) τ) sm 941 (τ.1 3) 0 0 1 0 := by unfold B_run; rfl
noncomputable def B_nxt (τ : ex_S) : ex_S :=
  if ((τ.1 4)).toInt < ((τ.1 2)).toInt then
    if ((τ.1 3)).toInt < ((τ.1 4)).toInt then
      ex_lt (B_peek (sI 7 (0 : Int32) (sI 6 (τ.1 3) τ))) (fun r56 =>
      if (r56).toInt < 0 then
        (sI 5 (0 : Int32) (sI 7 (0 : Int32) (sI 6 (τ.1 3) τ)))
      else
        ex_lt (B_isSmall r56) (fun r59 =>
        if r59 = 0 then
          ex_lt (B_isDigit r56) (fun r64 =>
          if r64 = 0 then
            if r56 = (59 : Int32) then
              (sI 3 ((τ.1 3) + (1 : Int32)) (sI 8 r56 (sI 5 (3 : Int32) (sI 7 (0 : Int32) (sI 6 (τ.1 3) τ)))))
            else
              if r56 = (40 : Int32) then
                (sI 3 ((τ.1 3) + (1 : Int32)) (sI 8 r56 (sI 5 (3 : Int32) (sI 7 (0 : Int32) (sI 6 (τ.1 3) τ)))))
              else
                if r56 = (41 : Int32) then
                  (sI 3 ((τ.1 3) + (1 : Int32)) (sI 8 r56 (sI 5 (3 : Int32) (sI 7 (0 : Int32) (sI 6 (τ.1 3) τ)))))
                else
                  if (r56).toInt < ((60 : Int32)).toInt then
                    (sI 3 ((τ.1 3) + (1 : Int32)) (sI 8 r56 (sI 5 (4 : Int32) (sI 7 (0 : Int32) (sI 6 (τ.1 3) τ)))))
                  else
                    if ((62 : Int32)).toInt < (r56).toInt then
                      (sI 3 ((τ.1 3) + (1 : Int32)) (sI 8 r56 (sI 5 (4 : Int32) (sI 7 (0 : Int32) (sI 6 (τ.1 3) τ)))))
                    else
                      (sI 3 ((τ.1 3) + (1 : Int32)) (sI 8 r56 (sI 5 (3 : Int32) (sI 7 (0 : Int32) (sI 6 (τ.1 3) τ)))))
          else
            ex_lt (B_isSmall r56) (fun r67 =>
            B_run τ r67))
        else
          ex_lt (B_isSmall r56) (fun r62 =>
          B_run τ r62)))
    else
      (sI 5 (4 : Int32) (sI 6 (τ.1 4) (sI 7 (0 : Int32) (sI 6 (τ.1 3) τ))))
  else
    ex_lt (B_peek (sI 7 (0 : Int32) (sI 6 (τ.1 3) τ))) (fun r37 =>
    if (r37).toInt < 0 then
      (sI 5 (0 : Int32) (sI 7 (0 : Int32) (sI 6 (τ.1 3) τ)))
    else
      ex_lt (B_isSmall r37) (fun r40 =>
      if r40 = 0 then
        ex_lt (B_isDigit r37) (fun r45 =>
        if r45 = 0 then
          if r37 = (59 : Int32) then
            (sI 3 ((τ.1 3) + (1 : Int32)) (sI 8 r37 (sI 5 (3 : Int32) (sI 7 (0 : Int32) (sI 6 (τ.1 3) τ)))))
          else
            if r37 = (40 : Int32) then
              (sI 3 ((τ.1 3) + (1 : Int32)) (sI 8 r37 (sI 5 (3 : Int32) (sI 7 (0 : Int32) (sI 6 (τ.1 3) τ)))))
            else
              if r37 = (41 : Int32) then
                (sI 3 ((τ.1 3) + (1 : Int32)) (sI 8 r37 (sI 5 (3 : Int32) (sI 7 (0 : Int32) (sI 6 (τ.1 3) τ)))))
              else
                if (r37).toInt < ((60 : Int32)).toInt then
                  (sI 3 ((τ.1 3) + (1 : Int32)) (sI 8 r37 (sI 5 (4 : Int32) (sI 7 (0 : Int32) (sI 6 (τ.1 3) τ)))))
                else
                  if ((62 : Int32)).toInt < (r37).toInt then
                    (sI 3 ((τ.1 3) + (1 : Int32)) (sI 8 r37 (sI 5 (4 : Int32) (sI 7 (0 : Int32) (sI 6 (τ.1 3) τ)))))
                  else
                    (sI 3 ((τ.1 3) + (1 : Int32)) (sI 8 r37 (sI 5 (3 : Int32) (sI 7 (0 : Int32) (sI 6 (τ.1 3) τ)))))
        else
          ex_lt (B_isSmall r37) (fun r48 =>
          B_run τ r48))
      else
        ex_lt (B_isSmall r37) (fun r43 =>
        B_run τ r43)))
noncomputable def B_next (σ : ex_S) : ex_S := B_nxt (sI 3 (B_sk σ 941 (σ.1 3)) σ)
noncomputable def B_sign (ch : Int32) (σ : ex_S) : Int32 × ex_S :=
  ex_lt (B_isSign ch σ) (fun r1 =>
  if r1 = 0 then
    ex_bd (B_bad (1 : Int32) σ) (fun r7 σ8 =>
    (r7, σ8))
  else
    ex_lt (B_next σ) (fun σ4 =>
    ((1 : Int32), σ4)))
noncomputable def B_takes (lo : Int32) (hi : Int32) (σ : ex_S) : Int32 × ex_S :=
  if (σ.1 5) = (2 : Int32) then
    ex_lt (B_isIn (σ.1 8) lo hi) (fun r2 =>
    if r2 = 0 then
      ex_bd (B_bad (2 : Int32) σ) (fun r8 σ10 =>
      (r8, σ10))
    else
      ex_lt (B_next (sI 11 (σ.1 8) σ)) (fun σ5 =>
      ((1 : Int32), σ5)))
  else
    ex_bd (B_bad (1 : Int32) σ) (fun r13 σ14 =>
    (r13, σ14))
noncomputable def B_takesWay (lo : Int32) (hi : Int32) (σ : ex_S) : Int32 × ex_S :=
  ex_lt (B_isWord (1936486263 : Int64) σ) (fun r1 =>
  if r1 = 0 then
    ex_lt (B_isWord (1717662580 : Int64) σ) (fun r14 =>
    if r14 = 0 then
      ex_bd (B_bad (1 : Int32) σ) (fun r26 σ27 =>
      (r26, σ27))
    else
      ex_lt (B_next σ) (fun σ17 =>
      ex_bd (B_takes lo hi σ17) (fun r20 σ21 =>
      if r20 = 0 then
        ((0 : Int32), σ21)
      else
        if r1 = 0 then
          ((1 : Int32), (sI 11 (σ21.1 11) σ21))
        else
          ((1 : Int32), (sI 11 (-(σ21.1 11)) σ21)))))
  else
    ex_lt (B_next σ) (fun σ4 =>
    ex_bd (B_takes lo hi σ4) (fun r7 σ8 =>
    if r7 = 0 then
      ((0 : Int32), σ8)
    else
      if r1 = 0 then
        ((1 : Int32), (sI 11 (σ8.1 11) σ8))
      else
        ((1 : Int32), (sI 11 (-(σ8.1 11)) σ8)))))
noncomputable def B_puts (to : Int32) (lo : Int32) (hi : Int32) (σ : ex_S) : Int32 × ex_S :=
  ex_bd (B_takes lo hi σ) (fun r1 σ2 =>
  if r1 = 0 then
    ((0 : Int32), σ2)
  else
    ((1 : Int32), (sR 2 (upd (σ2.2.2.1 2) (to).toNatClampNeg (σ2.1 11)) σ2)))
noncomputable def B_fresh (to : Int32) (σ : ex_S) : Int32 × ex_S :=
  ex_lt (B_isName σ) (fun r1 =>
  if r1 = 0 then
    ex_bd (B_bad (1 : Int32) σ) (fun r22 σ23 =>
    (r22, σ23))
  else
    ex_lt (B_find (15 : Int32) ((σ.2.2.1 2) 0) σ) (fun r4 =>
    if (r4).toInt < 0 then
      ex_lt (B_find (22 : Int32) ((σ.2.2.1 2) 2) σ) (fun r12 =>
      if (r12).toInt < 0 then
        ex_lt (B_next (sQ 0 (vp_updL (σ.2.2.2 0) (to).toNatClampNeg (σ.2.1 0)) σ)) (fun σ15 =>
        ((1 : Int32), σ15))
      else
        ex_bd (B_bad (3 : Int32) σ) (fun r18 σ19 =>
        (r18, σ19)))
    else
      ex_bd (B_bad (3 : Int32) σ) (fun r7 σ8 =>
      (r7, σ8))))
noncomputable def B_looksAt (fr : Int32) (ma : Int32) (σ : ex_S) : Int32 × ex_S :=
  ex_lt (B_isName σ) (fun r1 =>
  if r1 = 0 then
    ex_bd (B_bad (1 : Int32) σ) (fun r13 σ14 =>
    (r13, σ14))
  else
    ex_lt (B_find fr ma σ) (fun r4 =>
    if (r4).toInt < 0 then
      ex_bd (B_bad (3 : Int32) (sI 11 r4 σ)) (fun r7 σ8 =>
      if r7 = 0 then
        ((0 : Int32), σ8)
      else
        ((1 : Int32), σ8))
    else
      ((1 : Int32), (sI 11 r4 σ))))
noncomputable def B_takesName (fr : Int32) (ma : Int32) (σ : ex_S) : Int32 × ex_S :=
  ex_bd (B_looksAt fr ma σ) (fun r1 σ2 =>
  if r1 = 0 then
    ((0 : Int32), σ2)
  else
    ex_lt (B_next σ2) (fun σ6 =>
    ((1 : Int32), σ6)))
noncomputable def B_once (k : Int32) (to : Int32) (lo : Int32) (hi : Int32) (σ : ex_S) : Int32 × ex_S :=
  ex_lt (B_bitOf (σ.1 13) k) (fun r1 =>
  if r1 = 0 then
    ex_lt (B_next (sI 13 ((σ.1 13) ||| ((1 : Int32) <<< (k &&& 31))) σ)) (fun σ4 =>
    ex_bd (B_puts to lo hi σ4) (fun r7 σ8 =>
    (r7, σ8)))
  else
    ex_bd (B_bad (3 : Int32) σ) (fun r12 σ13 =>
    (r12, σ13)))
noncomputable def B_clears (σ : ex_S) : ex_S := sR 2 (fun j => if j = 5 then 1 else if j = 4 then 2 else if j = 3 then 3 else if j < 100 then 0 else σ.2.2.1 2 j) σ
theorem ex_rr {k : Nat} {f g : Nat → Int32} {σ : ex_S} : sR k g (sR k f σ) = sR k g σ := by
  unfold sR
  refine Prod.ext rfl (Prod.ext rfl (Prod.ext (funext fun j => ?_) rfl))
  show (bif Nat.beq j k then g else bif Nat.beq j k then f else σ.2.2.1 j) = bif Nat.beq j k then g else σ.2.2.1 j
  cases Nat.beq j k <;> rfl
theorem ex_rid {k : Nat} {f : Nat → Int32} {σ : ex_S} (h : σ.2.2.1 k = f) : sR k f σ = σ := by
  unfold sR
  refine Prod.ext rfl (Prod.ext rfl (Prod.ext (funext fun j => ?_) rfl))
  show (bif Nat.beq j k then f else σ.2.2.1 j) = σ.2.2.1 j
  cases hb : Nat.beq j k
  · rfl
  · rw [Nat.eq_of_beq_eq_true hb, h]; rfl
theorem ex_cl0 {g : Nat → Int32} (k : Nat) : upd (fun j => if j < k then 0 else g j) k 0 = fun j => if j < k + 1 then 0 else g j := by
  funext j
  unfold upd
  by_cases h1 : j = k
  · rw [if_pos h1, if_pos (by omega)]
  · rw [if_neg h1]
    show (if j < k then (0 : Int32) else g j) = _
    by_cases h2 : j < k
    · rw [if_pos h2, if_pos (by omega)]
    · rw [if_neg h2, if_neg (by omega)]
theorem ex_cl1 {g : Nat → Int32} {k : Nat} (hk : k = 100) : (fun j => if j = 5 then (1 : Int32) else if j = 4 then 2 else if j = 3 then 3 else if j < 100 then 0 else g j) = upd (upd (upd (fun j => if j < k then 0 else g j) 3 3) 4 2) 5 1 := by
  subst hk
  rfl
noncomputable def B_readTown (σ : ex_S) : Int32 × ex_S :=
  if ((σ.2.2.1 2) 0) = (7 : Int32) then
    ex_bd (B_bad (4 : Int32) σ) (fun r32 σ33 =>
    (r32, σ33))
  else
    ex_lt (B_next σ) (fun σ2 =>
    ex_bd (B_fresh ((15 : Int32) + ((σ.2.2.1 2) 0)) σ2) (fun r5 σ6 =>
    if r5 = 0 then
      ((0 : Int32), σ6)
    else
      ex_bd (B_puts ((6 : Int32) + ((σ.2.2.1 2) 0)) (0 : Int32) (60 : Int32) σ6) (fun r11 σ12 =>
      if r11 = 0 then
        ((0 : Int32), σ12)
      else
        ex_lt (B_isWord (1717662580 : Int64) (sR 2 (upd (σ12.2.2.1 2) (((13 : Int32) + ((σ.2.2.1 2) 0))).toNatClampNeg (0 : Int32)) σ12)) (fun r16 =>
        if r16 = 0 then
          ex_lt (B_isWord (1936486263 : Int64) (sR 2 (upd (σ12.2.2.1 2) (((13 : Int32) + ((σ.2.2.1 2) 0))).toNatClampNeg (0 : Int32)) σ12)) (fun r24 =>
          if r24 = 0 then
            ((1 : Int32), (sR 2 (upd (upd (σ12.2.2.1 2) (((13 : Int32) + ((σ.2.2.1 2) 0))).toNatClampNeg (0 : Int32)) 0 (((upd (σ12.2.2.1 2) (((13 : Int32) + ((σ.2.2.1 2) 0))).toNatClampNeg (0 : Int32)) 0) + (1 : Int32))) (sR 2 (upd (σ12.2.2.1 2) (((13 : Int32) + ((σ.2.2.1 2) 0))).toNatClampNeg (0 : Int32)) σ12)))
          else
            ex_bd (B_takesWay (1 : Int32) (30 : Int32) (sR 2 (upd (σ12.2.2.1 2) (((13 : Int32) + ((σ.2.2.1 2) 0))).toNatClampNeg (0 : Int32)) σ12)) (fun r27 σ28 =>
            if r27 = 0 then
              ((0 : Int32), σ28)
            else
              ((1 : Int32), (sR 2 (upd (upd (σ28.2.2.1 2) (((13 : Int32) + ((σ.2.2.1 2) 0))).toNatClampNeg (σ28.1 11)) 0 (((upd (σ28.2.2.1 2) (((13 : Int32) + ((σ.2.2.1 2) 0))).toNatClampNeg (σ28.1 11)) 0) + (1 : Int32))) (sR 2 (upd (σ28.2.2.1 2) (((13 : Int32) + ((σ.2.2.1 2) 0))).toNatClampNeg (σ28.1 11)) σ28)))))
        else
          ex_bd (B_takesWay (1 : Int32) (30 : Int32) (sR 2 (upd (σ12.2.2.1 2) (((13 : Int32) + ((σ.2.2.1 2) 0))).toNatClampNeg (0 : Int32)) σ12)) (fun r19 σ20 =>
          if r19 = 0 then
            ((0 : Int32), σ20)
          else
            ((1 : Int32), (sR 2 (upd (upd (σ20.2.2.1 2) (((13 : Int32) + ((σ.2.2.1 2) 0))).toNatClampNeg (σ20.1 11)) 0 (((upd (σ20.2.2.1 2) (((13 : Int32) + ((σ.2.2.1 2) 0))).toNatClampNeg (σ20.1 11)) 0) + (1 : Int32))) (sR 2 (upd (σ20.2.2.1 2) (((13 : Int32) + ((σ.2.2.1 2) 0))).toNatClampNeg (σ20.1 11)) σ20))))))))
noncomputable def B_readTerm (σ : ex_S) : Int32 × ex_S :=
  if ((σ.2.2.1 2) 1) = (12 : Int32) then
    ex_bd (B_bad (4 : Int32) σ) (fun r26 σ27 =>
    (r26, σ27))
  else
    ex_lt (B_next σ) (fun σ2 =>
    ex_bd (B_takesName (15 : Int32) ((σ2.2.2.1 2) 0) σ2) (fun r5 σ6 =>
    if r5 = 0 then
      ((0 : Int32), σ6)
    else
      ex_bd (B_puts ((32 : Int32) + ((σ.2.2.1 2) 1)) (0 : Int32) (399 : Int32) (sR 2 (upd (σ6.2.2.1 2) (((20 : Int32) + ((σ.2.2.1 2) 1))).toNatClampNeg (σ6.1 11)) σ6)) (fun r11 σ12 =>
      if r11 = 0 then
        ((0 : Int32), σ12)
      else
        ex_bd (B_puts ((44 : Int32) + ((σ.2.2.1 2) 1)) ((σ12.2.2.1 2) (((32 : Int32) + ((σ.2.2.1 2) 1))).toNatClampNeg) (399 : Int32) σ12) (fun r16 σ17 =>
        if r16 = 0 then
          ((0 : Int32), σ17)
        else
          ex_bd (B_takesWay (0 : Int32) (30 : Int32) σ17) (fun r21 σ22 =>
          if r21 = 0 then
            ((0 : Int32), σ22)
          else
            ((1 : Int32), (sR 2 (upd (upd (σ22.2.2.1 2) (((56 : Int32) + ((σ.2.2.1 2) 1))).toNatClampNeg (σ22.1 11)) 1 (((upd (σ22.2.2.1 2) (((56 : Int32) + ((σ.2.2.1 2) 1))).toNatClampNeg (σ22.1 11)) 1) + (1 : Int32))) (sR 2 (upd (σ22.2.2.1 2) (((56 : Int32) + ((σ.2.2.1 2) 1))).toNatClampNeg (σ22.1 11)) σ22))))))))
noncomputable def B_readTrain (σ : ex_S) : Int32 × ex_S :=
  if ((σ.2.2.1 2) 2) = (8 : Int32) then
    ex_bd (B_bad (4 : Int32) σ) (fun r39 σ40 =>
    (r39, σ40))
  else
    ex_lt (B_next σ) (fun σ2 =>
    ex_bd (B_fresh ((22 : Int32) + ((σ.2.2.1 2) 2)) σ2) (fun r5 σ6 =>
    if r5 = 0 then
      ((0 : Int32), σ6)
    else
      ex_bd (B_takesName (15 : Int32) ((σ6.2.2.1 2) 0) σ6) (fun r11 σ12 =>
      if r11 = 0 then
        ((0 : Int32), σ12)
      else
        ex_bd (B_looksAt (15 : Int32) ((upd (σ12.2.2.1 2) (((68 : Int32) + ((σ.2.2.1 2) 2))).toNatClampNeg (σ12.1 11)) 0) (sR 2 (upd (σ12.2.2.1 2) (((68 : Int32) + ((σ.2.2.1 2) 2))).toNatClampNeg (σ12.1 11)) σ12)) (fun r16 σ17 =>
        if r16 = 0 then
          ((0 : Int32), σ17)
        else
          if (σ17.1 11) = ((σ17.2.2.1 2) (((68 : Int32) + ((σ.2.2.1 2) 2))).toNatClampNeg) then
            ex_bd (B_bad (3 : Int32) σ17) (fun r35 σ36 =>
            (r35, σ36))
          else
            ex_lt (B_next (sR 2 (upd (σ17.2.2.1 2) (((76 : Int32) + ((σ.2.2.1 2) 2))).toNatClampNeg (σ17.1 11)) σ17)) (fun σ22 =>
            ex_bd (B_puts ((84 : Int32) + ((σ.2.2.1 2) 2)) (0 : Int32) (600 : Int32) σ22) (fun r25 σ26 =>
            if r25 = 0 then
              ((0 : Int32), σ26)
            else
              ex_bd (B_puts ((92 : Int32) + ((σ.2.2.1 2) 2)) (1 : Int32) (200 : Int32) σ26) (fun r30 σ31 =>
              if r30 = 0 then
                ((0 : Int32), σ31)
              else
                ((1 : Int32), (sR 2 (upd (σ31.2.2.1 2) 2 (((σ31.2.2.1 2) 2) + (1 : Int32))) σ31)))))))))
noncomputable def B_line (σ : ex_S) : Int32 × ex_S :=
  ex_lt (B_isWord (1953462126 : Int64) σ) (fun r1 =>
  if r1 = 0 then
    ex_lt (B_isWord (1952805485 : Int64) σ) (fun r4 =>
    if r4 = 0 then
      ex_lt (B_isWord (500135192942 : Int64) σ) (fun r7 =>
      if r7 = 0 then
        ex_lt (B_isWord (465625246068 : Int64) σ) (fun r11 =>
        if r11 = 0 then
          ex_lt (B_isWord (109299962373989 : Int64) σ) (fun r14 =>
          if r14 = 0 then
            ex_lt (B_isWord (440006570868 : Int64) σ) (fun r17 =>
            if r17 = 0 then
              ex_bd (B_bad (1 : Int32) σ) (fun r20 σ21 =>
              (r20, σ21))
            else
              ex_bd (B_once (2 : Int32) (5 : Int32) (0 : Int32) (12 : Int32) σ) (fun r24 σ25 =>
              (r24, σ25)))
          else
            ex_bd (B_once (1 : Int32) (4 : Int32) (0 : Int32) (30 : Int32) σ) (fun r28 σ29 =>
            (r28, σ29)))
        else
          ex_bd (B_once (0 : Int32) (3 : Int32) (1 : Int32) (10 : Int32) σ) (fun r32 σ33 =>
          (r32, σ33)))
      else
        ex_bd (B_readTrain σ) (fun r36 σ37 =>
        (r36, σ37)))
    else
      ex_bd (B_readTerm σ) (fun r40 σ41 =>
      (r40, σ41)))
  else
    ex_bd (B_readTown σ) (fun r44 σ45 =>
    (r44, σ45)))
noncomputable def B_nb (o : Int32) : Int := if o = 0 then 0 else if o = 1 ∨ o = 2 ∨ o = 4 then 1 else if o = 7 then 3 else 2
noncomputable def B_cnt (σ : ex_S) : Int := (σ.2.2.1 2 0).toInt + (σ.2.2.1 2 1).toInt + (σ.2.2.1 2 2).toInt + B_nb (σ.1 13)
noncomputable def B_ON (σ : ex_S) : Prop := 0 ≤ (σ.1 13).toInt ∧ (σ.1 13).toInt ≤ 7
theorem B_nb_le (o : Int32) : 0 ≤ B_nb o ∧ B_nb o ≤ 3 := by
  unfold B_nb
  (repeat' split) <;> omega
noncomputable def B_ri : Nat → ex_S → Int32
  | 0, τ => τ.1 12
  | k + 1, τ =>
    if (τ.1 5) = 0 then
      τ.1 12
    else
      ex_bd (B_line τ) (fun r10 σ11 =>
      if r10 = 0 then
        ((-1 : Int32) - (σ11.1 10))
      else
        ex_bd (B_sign (59 : Int32) σ11) (fun r15 σ16 =>
        if r15 = 0 then
          ((-1 : Int32) - (σ16.1 10))
        else
          B_ri k (sI 12 ((σ16.1 12) + (1 : Int32)) σ16)))
theorem B_ri_s {k : Nat} {τ : ex_S} : B_ri (k + 1) τ =
    if (τ.1 5) = 0 then
      τ.1 12
    else
      ex_bd (B_line τ) (fun r10 σ11 =>
      if r10 = 0 then
        ((-1 : Int32) - (σ11.1 10))
      else
        ex_bd (B_sign (59 : Int32) σ11) (fun r15 σ16 =>
        if r15 = 0 then
          ((-1 : Int32) - (σ16.1 10))
        else
          B_ri k (sI 12 ((σ16.1 12) + (1 : Int32)) σ16))) := rfl
noncomputable def B_rs : Nat → ex_S → Int32 × ex_S
  | 0, τ => ((1 : Int32), τ)
  | k + 1, τ =>
    if (τ.1 5) = 0 then
      ((1 : Int32), τ)
    else
      ex_bd (B_line τ) (fun r10 σ11 =>
      if r10 = 0 then
        ((0 : Int32), σ11)
      else
        ex_bd (B_sign (59 : Int32) σ11) (fun r15 σ16 =>
        if r15 = 0 then
          ((0 : Int32), σ16)
        else
          B_rs k (sI 12 ((σ16.1 12) + (1 : Int32)) σ16)))
theorem B_rs_s {k : Nat} {τ : ex_S} : B_rs (k + 1) τ =
    if (τ.1 5) = 0 then
      ((1 : Int32), τ)
    else
      ex_bd (B_line τ) (fun r10 σ11 =>
      if r10 = 0 then
        ((0 : Int32), σ11)
      else
        ex_bd (B_sign (59 : Int32) σ11) (fun r15 σ16 =>
        if r15 = 0 then
          ((0 : Int32), σ16)
        else
          B_rs k (sI 12 ((σ16.1 12) + (1 : Int32)) σ16))) := rfl
noncomputable def B_valley (σ : ex_S) : Int32 :=
  ex_lt (B_taken (900 : Int32) (sI 0 (0 : Int32) σ)) (fun σ20 =>
  ex_lt (B_clears (sI 13 (0 : Int32) (sI 12 (0 : Int32) (sI 9 (0 : Int32) σ20)))) (fun σ22 =>
  ex_lt (B_next σ22) (fun σ24 =>
  B_ri 31 σ24)))
noncomputable def B_vs (σ : ex_S) : Int32 × ex_S :=
  ex_lt (B_taken (900 : Int32) (sI 0 (0 : Int32) σ)) (fun σ20 =>
  ex_lt (B_clears (sI 13 (0 : Int32) (sI 12 (0 : Int32) (sI 9 (0 : Int32) σ20)))) (fun σ22 =>
  ex_lt (B_next σ22) (fun σ24 =>
  B_rs 31 σ24)))
/-- what the reference holds behind valley: the read valley is the land's, or nothing but the reader has changed -/
noncomputable def B_vend (σ : ex_S) (w : List ex_E) : Prop := ((B_vs σ).1 = 1 ∧ ∃ υ, w = WB υ ∧ (∀ j : Nat, j < 100 → υ.2.2.1 1 j = (B_vs σ).2.2.2.1 2 j) ∧ (∀ j : Nat, j < 15 → υ.2.2.2 0 j = (B_vs σ).2.2.2.2 0 (15 + j)) ∧ υ.1 9 = (B_vs σ).2.1 9) ∨ ((B_vs σ).1 = 0 ∧ w = WB (B_vs σ).2)
theorem ex_qq {k : Nat} {f g : Nat → Int64} {σ : ex_S} : sQ k g (sQ k f σ) = sQ k g σ := by
  unfold sQ
  refine Prod.ext rfl (Prod.ext rfl (Prod.ext rfl (funext fun j => ?_)))
  show (bif Nat.beq j k then g else bif Nat.beq j k then f else σ.2.2.2 j) = bif Nat.beq j k then g else σ.2.2.2 j
  cases Nat.beq j k <;> rfl
theorem ex_qid {k : Nat} {f : Nat → Int64} {σ : ex_S} (h : σ.2.2.2 k = f) : sQ k f σ = σ := by
  unfold sQ
  refine Prod.ext rfl (Prod.ext rfl (Prod.ext rfl (funext fun j => ?_)))
  show (bif Nat.beq j k then f else σ.2.2.2 j) = σ.2.2.2 j
  cases hb : Nat.beq j k
  · rfl
  · rw [Nat.eq_of_beq_eq_true hb, h]; rfl
theorem ex_sw {f f1 : Nat → Int32} {g : Nat → Int64} {σ : ex_S} : sR 1 f1 (sQ 0 g (sR 1 f σ)) = sQ 0 g (sR 1 f1 σ) := by
  unfold sR sQ
  refine Prod.ext rfl (Prod.ext rfl (Prod.ext (funext fun j => ?_) rfl))
  show (bif Nat.beq j 1 then f1 else bif Nat.beq j 1 then f else σ.2.2.1 j) = bif Nat.beq j 1 then f1 else σ.2.2.1 j
  cases Nat.beq j 1 <;> rfl
theorem ex_cl {x : Int32} (h : 0 ≤ x.toInt) : (x.toNatClampNeg : Int) = x.toInt := by
  rw [Int32.toNatClampNeg, Int.toNat_of_nonneg h]
theorem bl_X11_bad (why : Int32) (σ : ex_S) : (B_bad why σ).1 = 0 ∨ (B_bad why σ).1 = 1 := by
  unfold B_bad
  exact Or.inl rfl
theorem bl_X11_sign (ch : Int32) (σ : ex_S) : (B_sign ch σ).1 = 0 ∨ (B_sign ch σ).1 = 1 := by
  unfold B_sign
  simp only [ex_bd, ex_lt]
  (repeat' (with_reducible split)) <;> first | with_reducible exact Or.inl rfl | with_reducible exact Or.inr rfl | with_reducible exact bl_X11_bad _  _
theorem bl_X11_takes (lo : Int32) (hi : Int32) (σ : ex_S) : (B_takes lo hi σ).1 = 0 ∨ (B_takes lo hi σ).1 = 1 := by
  unfold B_takes
  simp only [ex_bd, ex_lt]
  (repeat' (with_reducible split)) <;> first | with_reducible exact Or.inl rfl | with_reducible exact Or.inr rfl | with_reducible exact bl_X11_bad _  _ | with_reducible exact bl_X11_sign _  _
theorem bl_X11_takesWay (lo : Int32) (hi : Int32) (σ : ex_S) : (B_takesWay lo hi σ).1 = 0 ∨ (B_takesWay lo hi σ).1 = 1 := by
  unfold B_takesWay
  simp only [ex_bd, ex_lt]
  (repeat' (with_reducible split)) <;> first | with_reducible exact Or.inl rfl | with_reducible exact Or.inr rfl | with_reducible exact bl_X11_bad _  _ | with_reducible exact bl_X11_sign _  _ | with_reducible exact bl_X11_takes _ _  _
theorem bl_X11_puts (to : Int32) (lo : Int32) (hi : Int32) (σ : ex_S) : (B_puts to lo hi σ).1 = 0 ∨ (B_puts to lo hi σ).1 = 1 := by
  unfold B_puts
  simp only [ex_bd, ex_lt]
  (repeat' (with_reducible split)) <;> first | with_reducible exact Or.inl rfl | with_reducible exact Or.inr rfl | with_reducible exact bl_X11_bad _  _ | with_reducible exact bl_X11_sign _  _ | with_reducible exact bl_X11_takes _ _  _ | with_reducible exact bl_X11_takesWay _ _  _
theorem bl_X11_fresh (to : Int32) (σ : ex_S) : (B_fresh to σ).1 = 0 ∨ (B_fresh to σ).1 = 1 := by
  unfold B_fresh
  simp only [ex_bd, ex_lt]
  (repeat' (with_reducible split)) <;> first | with_reducible exact Or.inl rfl | with_reducible exact Or.inr rfl | with_reducible exact bl_X11_bad _  _ | with_reducible exact bl_X11_sign _  _ | with_reducible exact bl_X11_takes _ _  _ | with_reducible exact bl_X11_takesWay _ _  _ | with_reducible exact bl_X11_puts _ _ _  _
theorem bl_X11_looksAt (fr : Int32) (ma : Int32) (σ : ex_S) : (B_looksAt fr ma σ).1 = 0 ∨ (B_looksAt fr ma σ).1 = 1 := by
  unfold B_looksAt
  simp only [ex_bd, ex_lt]
  (repeat' (with_reducible split)) <;> first | with_reducible exact Or.inl rfl | with_reducible exact Or.inr rfl | with_reducible exact bl_X11_bad _  _ | with_reducible exact bl_X11_sign _  _ | with_reducible exact bl_X11_takes _ _  _ | with_reducible exact bl_X11_takesWay _ _  _ | with_reducible exact bl_X11_puts _ _ _  _ | with_reducible exact bl_X11_fresh _  _
theorem bl_X11_takesName (fr : Int32) (ma : Int32) (σ : ex_S) : (B_takesName fr ma σ).1 = 0 ∨ (B_takesName fr ma σ).1 = 1 := by
  unfold B_takesName
  simp only [ex_bd, ex_lt]
  (repeat' (with_reducible split)) <;> first | with_reducible exact Or.inl rfl | with_reducible exact Or.inr rfl | with_reducible exact bl_X11_bad _  _ | with_reducible exact bl_X11_sign _  _ | with_reducible exact bl_X11_takes _ _  _ | with_reducible exact bl_X11_takesWay _ _  _ | with_reducible exact bl_X11_puts _ _ _  _ | with_reducible exact bl_X11_fresh _  _ | with_reducible exact bl_X11_looksAt _ _  _
theorem bl_X11_once (k : Int32) (to : Int32) (lo : Int32) (hi : Int32) (σ : ex_S) : (B_once k to lo hi σ).1 = 0 ∨ (B_once k to lo hi σ).1 = 1 := by
  unfold B_once
  simp only [ex_bd, ex_lt]
  (repeat' (with_reducible split)) <;> first | with_reducible exact Or.inl rfl | with_reducible exact Or.inr rfl | with_reducible exact bl_X11_bad _  _ | with_reducible exact bl_X11_sign _  _ | with_reducible exact bl_X11_takes _ _  _ | with_reducible exact bl_X11_takesWay _ _  _ | with_reducible exact bl_X11_puts _ _ _  _ | with_reducible exact bl_X11_fresh _  _ | with_reducible exact bl_X11_looksAt _ _  _ | with_reducible exact bl_X11_takesName _ _  _
theorem bl_X11_readTown (σ : ex_S) : (B_readTown σ).1 = 0 ∨ (B_readTown σ).1 = 1 := by
  unfold B_readTown
  simp only [ex_bd, ex_lt]
  (repeat' (with_reducible split)) <;> first | with_reducible exact Or.inl rfl | with_reducible exact Or.inr rfl | with_reducible exact bl_X11_bad _  _ | with_reducible exact bl_X11_sign _  _ | with_reducible exact bl_X11_takes _ _  _ | with_reducible exact bl_X11_takesWay _ _  _ | with_reducible exact bl_X11_puts _ _ _  _ | with_reducible exact bl_X11_fresh _  _ | with_reducible exact bl_X11_looksAt _ _  _ | with_reducible exact bl_X11_takesName _ _  _ | with_reducible exact bl_X11_once _ _ _ _  _
theorem bl_X11_readTerm (σ : ex_S) : (B_readTerm σ).1 = 0 ∨ (B_readTerm σ).1 = 1 := by
  unfold B_readTerm
  simp only [ex_bd, ex_lt]
  (repeat' (with_reducible split)) <;> first | with_reducible exact Or.inl rfl | with_reducible exact Or.inr rfl | with_reducible exact bl_X11_bad _  _ | with_reducible exact bl_X11_sign _  _ | with_reducible exact bl_X11_takes _ _  _ | with_reducible exact bl_X11_takesWay _ _  _ | with_reducible exact bl_X11_puts _ _ _  _ | with_reducible exact bl_X11_fresh _  _ | with_reducible exact bl_X11_looksAt _ _  _ | with_reducible exact bl_X11_takesName _ _  _ | with_reducible exact bl_X11_once _ _ _ _  _ | with_reducible exact bl_X11_readTown  _
theorem bl_X11_readTrain (σ : ex_S) : (B_readTrain σ).1 = 0 ∨ (B_readTrain σ).1 = 1 := by
  unfold B_readTrain
  simp only [ex_bd, ex_lt]
  (repeat' (with_reducible split)) <;> first | with_reducible exact Or.inl rfl | with_reducible exact Or.inr rfl | with_reducible exact bl_X11_bad _  _ | with_reducible exact bl_X11_sign _  _ | with_reducible exact bl_X11_takes _ _  _ | with_reducible exact bl_X11_takesWay _ _  _ | with_reducible exact bl_X11_puts _ _ _  _ | with_reducible exact bl_X11_fresh _  _ | with_reducible exact bl_X11_looksAt _ _  _ | with_reducible exact bl_X11_takesName _ _  _ | with_reducible exact bl_X11_once _ _ _ _  _ | with_reducible exact bl_X11_readTown  _ | with_reducible exact bl_X11_readTerm  _
theorem bl_X11_line (σ : ex_S) : (B_line σ).1 = 0 ∨ (B_line σ).1 = 1 := by
  unfold B_line
  simp only [ex_bd, ex_lt]
  (repeat' (with_reducible split)) <;> first | with_reducible exact Or.inl rfl | with_reducible exact Or.inr rfl | with_reducible exact bl_X11_bad _  _ | with_reducible exact bl_X11_sign _  _ | with_reducible exact bl_X11_takes _ _  _ | with_reducible exact bl_X11_takesWay _ _  _ | with_reducible exact bl_X11_puts _ _ _  _ | with_reducible exact bl_X11_fresh _  _ | with_reducible exact bl_X11_looksAt _ _  _ | with_reducible exact bl_X11_takesName _ _  _ | with_reducible exact bl_X11_once _ _ _ _  _ | with_reducible exact bl_X11_readTown  _ | with_reducible exact bl_X11_readTerm  _ | with_reducible exact bl_X11_readTrain  _
theorem inv_X11_four (v : Int32) (σ : ex_S) (h : 0 ≤ (σ.1 1).toInt ∧ (σ.1 1).toInt + 4 ≤ 940) : ((B_four v σ).1 1).toInt = (σ.1 1).toInt + 4 := by
  unfold B_four
  exact (ex_4 h).2.2.2
theorem ex_sum {a x : Int32} (ha : 0 ≤ a.toInt ∧ a.toInt ≤ 1000) (hx : 0 ≤ x.toInt ∧ x.toInt ≤ 1000) : (a + x).toInt = a.toInt + x.toInt := ab_addI2 a x (by omega) (by omega)
theorem B_k0 {σ : ex_S} (h : B_INV σ) : 0 ≤ ((σ.2.2.1 2) 0).toInt ∧ ((σ.2.2.1 2) 0).toInt ≤ 7 := h.2.2.1
theorem B_k1 {σ : ex_S} (h : B_INV σ) : 0 ≤ ((σ.2.2.1 2) 1).toInt ∧ ((σ.2.2.1 2) 1).toInt ≤ 12 := h.2.2.2.1
theorem B_k2 {σ : ex_S} (h : B_INV σ) : 0 ≤ ((σ.2.2.1 2) 2).toInt ∧ ((σ.2.2.1 2) 2).toInt ≤ 8 := h.2.2.2.2
theorem ex_neI {x y : Int32} (h : ¬ x = y) : ¬ x.toInt = y.toInt := fun q => h (Int32.toInt_inj.mp q)
theorem ex_ne7 {x : Int32} (h : ¬ x = (7 : Int32)) : ¬ x.toInt = 7 := ex_neI h
theorem ex_ne12 {x : Int32} (h : ¬ x = (12 : Int32)) : ¬ x.toInt = 12 := ex_neI h
theorem ex_ne8 {x : Int32} (h : ¬ x = (8 : Int32)) : ¬ x.toInt = 8 := ex_neI h
theorem B_INV_I {σ : ex_S} {k : Nat} {v : Int32} (h : B_INV σ) (hk : ¬ 2 = k ∧ ¬ 3 = k) : B_INV (sI k v σ) := by
  unfold B_INV at h ⊢
  simp only [sI_1, if_neg hk.1, if_neg hk.2]
  exact h
theorem B_INV_L {σ : ex_S} {k : Nat} {v : Int64} (h : B_INV σ) : B_INV (sL k v σ) := h
theorem B_INV_Q {σ : ex_S} {k : Nat} {f : Nat → Int64} (h : B_INV σ) : B_INV (sQ k f σ) := h
theorem ex_u {f : Nat → Int32} {k j : Nat} {x : Int32} (h : ¬ j = k) : upd f k x j = f j := if_neg h
theorem ex_u1 {f : Nat → Int32} {k : Nat} {x : Int32} : upd f k x k = x := if_pos rfl
theorem B_INV_h {σ : ex_S} {i : Nat} {v : Int32} (h : B_INV σ) (hi : 3 ≤ i) : B_INV (sR 2 (upd (σ.2.2.1 2) i v) σ) := by
  unfold B_INV at h ⊢
  show (0 ≤ (σ.1 2).toInt ∧ (σ.1 2).toInt ≤ 940) ∧ (0 ≤ (σ.1 3).toInt ∧ (σ.1 3).toInt ≤ (σ.1 2).toInt) ∧ (0 ≤ (upd (σ.2.2.1 2) i v 0).toInt ∧ (upd (σ.2.2.1 2) i v 0).toInt ≤ 7) ∧ (0 ≤ (upd (σ.2.2.1 2) i v 1).toInt ∧ (upd (σ.2.2.1 2) i v 1).toInt ≤ 12) ∧ (0 ≤ (upd (σ.2.2.1 2) i v 2).toInt ∧ (upd (σ.2.2.1 2) i v 2).toInt ≤ 8)
  rw [ex_u (show ¬ 0 = i by omega), ex_u (show ¬ 1 = i by omega), ex_u (show ¬ 2 = i by omega)]
  exact h
theorem B_INV_0u {σ : ex_S} {F : Nat → Int32} (h : B_INV (sR 2 F σ)) (hc : (F 0).toInt < 7) : B_INV (sR 2 (upd F 0 ((F 0) + (1 : Int32))) (sR 2 F σ)) := by
  have e7 : (7 : Int32).toInt = 7 := by decide
  have e := ex_inc (p := F 0) (n := 7) (by rw [e7]; exact hc)
  have h9 : 0 ≤ (F 0).toInt ∧ (F 0).toInt ≤ 7 := h.2.2.1
  exact And.intro h.1 (And.intro h.2.1 (And.intro (show 0 ≤ ((F 0) + (1 : Int32)).toInt ∧ ((F 0) + (1 : Int32)).toInt ≤ 7 by omega) h.2.2.2))
theorem B_INV_1u {σ : ex_S} {F : Nat → Int32} (h : B_INV (sR 2 F σ)) (hc : (F 1).toInt < 12) : B_INV (sR 2 (upd F 1 ((F 1) + (1 : Int32))) (sR 2 F σ)) := by
  have e7 : (12 : Int32).toInt = 12 := by decide
  have e := ex_inc (p := F 1) (n := 12) (by rw [e7]; exact hc)
  have h9 : 0 ≤ (F 1).toInt ∧ (F 1).toInt ≤ 12 := h.2.2.2.1
  exact And.intro h.1 (And.intro h.2.1 (And.intro h.2.2.1 (And.intro (show 0 ≤ ((F 1) + (1 : Int32)).toInt ∧ ((F 1) + (1 : Int32)).toInt ≤ 12 by omega) h.2.2.2.2)))
theorem B_INV_2u {σ : ex_S} (h : B_INV σ) (hc : ((σ.2.2.1 2) 2).toInt < 8) : B_INV (sR 2 (upd (σ.2.2.1 2) 2 (((σ.2.2.1 2) 2) + (1 : Int32))) σ) := by
  have e7 : (8 : Int32).toInt = 8 := by decide
  have e := ex_inc (p := (σ.2.2.1 2) 2) (n := 8) (by rw [e7]; exact hc)
  have h9 : 0 ≤ ((σ.2.2.1 2) 2).toInt ∧ ((σ.2.2.1 2) 2).toInt ≤ 8 := h.2.2.2.2
  exact And.intro h.1 (And.intro h.2.1 (And.intro h.2.2.1 (And.intro h.2.2.2.1 (show 0 ≤ (((σ.2.2.1 2) 2) + (1 : Int32)).toInt ∧ (((σ.2.2.1 2) 2) + (1 : Int32)).toInt ≤ 8 by omega))))
theorem B_fm15 {σ : ex_S} (h : B_INV σ) : (0 ≤ (15 : Int32).toInt ∧ 0 ≤ ((σ.2.2.1 2) 0).toInt) ∧ (15 : Int32).toInt + ((σ.2.2.1 2) 0).toInt ≤ 30 := by
  have k9 := B_k0 h
  have e9 : (15 : Int32).toInt = 15 := by decide
  omega
theorem B_fm15u {σ : ex_S} {F : Nat → Int32} (h : B_INV (sR 2 F σ)) : (0 ≤ (15 : Int32).toInt ∧ 0 ≤ (F 0).toInt) ∧ (15 : Int32).toInt + (F 0).toInt ≤ 30 := B_fm15 h
theorem B_h15 {σ : ex_S} (h : B_INV σ) : (0 ≤ (15 : Int32).toInt ∧ 0 ≤ ((σ.2.2.1 2) 0).toInt) ∧ (15 : Int32).toInt + ((σ.2.2.1 2) 0).toInt ≤ 30 := B_fm15 h
theorem B_h22 {σ : ex_S} (h : B_INV σ) : (0 ≤ (22 : Int32).toInt ∧ 0 ≤ ((σ.2.2.1 2) 2).toInt) ∧ (22 : Int32).toInt + ((σ.2.2.1 2) 2).toInt ≤ 30 := by
  have k9 := B_k2 h
  have e9 : (22 : Int32).toInt = 22 := by decide
  omega
theorem ex_to {x : Int32} (h : 3 ≤ x.toInt ∧ x.toInt < 100) : 3 ≤ x.toNatClampNeg := by
  have c := ex_cl (x := x) (by omega)
  omega
/-- what the small steps of the reference leave alone: the three counters, the bits of what was set -/
noncomputable def B_FR (σ τ : ex_S) : Prop := (∀ j, j < 3 → τ.2.2.1 2 j = σ.2.2.1 2 j) ∧ τ.1 13 = σ.1 13
theorem B_FR_0 (σ : ex_S) : B_FR σ σ := And.intro (fun _ _ => rfl) rfl
theorem B_FR_t {σ τ υ : ex_S} (h2 : B_FR τ υ) (h1 : B_FR σ τ) : B_FR σ υ := And.intro (fun j hj => (h2.1 j hj).trans (h1.1 j hj)) (h2.2.trans h1.2)
theorem B_FR_I {σ τ : ex_S} {k : Nat} {v : Int32} (hk : ¬ 13 = k) (h : B_FR σ τ) : B_FR σ (sI k v τ) := And.intro h.1 ((sI_1.trans (if_neg hk)).trans h.2)
theorem B_FR_L {σ τ : ex_S} {k : Nat} {v : Int64} (h : B_FR σ τ) : B_FR σ (sL k v τ) := h
theorem B_FR_Q {σ τ : ex_S} {k : Nat} {f : Nat → Int64} (h : B_FR σ τ) : B_FR σ (sQ k f τ) := h
theorem B_FR_h {σ τ : ex_S} {i : Nat} {v : Int32} (hi : 3 ≤ i) (h : B_FR σ τ) : B_FR σ (sR 2 (upd (τ.2.2.1 2) i v) τ) :=
  And.intro (fun j hj => (show upd (τ.2.2.1 2) i v j = τ.2.2.1 2 j from ex_u (by omega)).trans (h.1 j hj)) h.2
theorem B_sk_b {σ : ex_S} (hI : B_INV σ) : ∀ (k : Nat) (p : Int32), 0 ≤ p.toInt → p.toInt ≤ (σ.1 2).toInt → 0 ≤ (B_sk σ k p).toInt ∧ (B_sk σ k p).toInt ≤ (σ.1 2).toInt := by
  intro k
  induction k with
  | zero => intro p h0 h1; exact ⟨h0, h1⟩
  | succ k ih =>
    intro p h0 h1
    rw [B_sk_s]
    simp only [ex_lt]
    by_cases h2 : B_peek (sI 3 p σ) = 32
    · rw [if_pos h2]
      have hl : p.toInt < (σ.1 2).toInt := B_peek_lt (σ := sI 3 p σ) rfl (ex_n1 (Or.inl h2))
      have e := ex_inc hl
      exact ih _ (by omega) (by omega)
    · rw [if_neg h2]
      by_cases h3 : B_peek (sI 3 p σ) = 10
      · rw [if_pos h3]
        have hl : p.toInt < (σ.1 2).toInt := B_peek_lt (σ := sI 3 p σ) rfl (ex_n1 (Or.inr h3))
        have e := ex_inc hl
        exact ih _ (by omega) (by omega)
      · rw [if_neg h3]; exact ⟨h0, h1⟩
theorem B_rrC_p {P : ex_S → Prop} {K : Int32 → Int32 → Int32 → Int32 → Int64 → ex_S} {τ0 : ex_S} {sm q sp nu al : Int32} {wd : Int64} (hK : ∀ sp nu al wd, P (K (q + 1) sp nu al wd)) : P (B_rrC K τ0 sm q sp nu al wd) := by
  unfold B_rrC
  simp only [ex_lt]
  repeat' (with_reducible split)
  all_goals exact hK _ _ _ _
theorem B_rr_i {τ0 : ex_S} {sm : Int32} (hI : B_INV τ0) : ∀ (k : Nat) (q sp nu al : Int32) (wd : Int64), 0 ≤ q.toInt → q.toInt ≤ (τ0.1 2).toInt → B_INV (B_rr τ0 sm k q sp nu al wd) := by
  intro k
  induction k with
  | zero =>
    intro q sp nu al wd h0 h1
    exact B_INV_pos (B_INV_I (B_INV_I (B_INV_L hI) (by decide)) (by decide)) h0 h1
  | succ k ih =>
    intro q sp nu al wd h0 h1
    have hs : B_INV (sI 3 q (sI 7 sp (sI 8 nu (sL 0 wd τ0)))) := B_INV_pos (B_INV_I (B_INV_I (B_INV_L hI) (by decide)) (by decide)) h0 h1
    rw [B_rr_s]
    simp only [ex_lt]
    by_cases h2 : B_isSmall (B_peek (sI 3 q (sI 7 sp (sI 8 nu (sL 0 wd τ0))))) = 0
    · rw [if_pos h2]
      by_cases h3 : B_isDigit (B_peek (sI 3 q (sI 7 sp (sI 8 nu (sL 0 wd τ0))))) = 0
      · rw [if_pos h3]
        repeat' (with_reducible split)
        all_goals exact B_INV_I hs (by decide)
      · rw [if_neg h3]
        have hl : q.toInt < (τ0.1 2).toInt := B_lt hs rfl (Or.inr rfl) h3
        have e := ex_inc hl
        exact B_rrC_p (P := B_INV) (fun _ _ _ _ => ih _ _ _ _ _ (by omega) (by omega))
    · rw [if_neg h2]
      have hl : q.toInt < (τ0.1 2).toInt := B_lt hs rfl (Or.inl rfl) h2
      have e := ex_inc hl
      exact B_rrC_p (P := B_INV) (fun _ _ _ _ => ih _ _ _ _ _ (by omega) (by omega))
theorem B_rr_f {τ0 : ex_S} {sm : Int32} : ∀ (k : Nat) (q sp nu al : Int32) (wd : Int64), B_FR τ0 (B_rr τ0 sm k q sp nu al wd) := by
  intro k
  induction k with
  | zero =>
    intro q sp nu al wd
    exact B_FR_I (by decide) (B_FR_I (by decide) (B_FR_I (by decide) (B_FR_L (B_FR_0 τ0))))
  | succ k ih =>
    intro q sp nu al wd
    rw [B_rr_s]
    simp only [ex_lt]
    repeat' (with_reducible split)
    all_goals (first | exact B_rrC_p (P := B_FR τ0) (fun _ _ _ _ => ih _ _ _ _ _) | exact B_FR_I (by decide) (B_FR_I (by decide) (B_FR_I (by decide) (B_FR_I (by decide) (B_FR_L (B_FR_0 τ0))))))
theorem B_INV_sg {τ : ex_S} {a b : Int32} (hI : B_INV τ) (h : ¬ (B_peek (sI 7 (0 : Int32) (sI 6 (τ.1 3) τ))).toInt < 0) : B_INV (sI 3 ((τ.1 3) + (1 : Int32)) (sI 8 a (sI 5 b (sI 7 (0 : Int32) (sI 6 (τ.1 3) τ))))) := by
  have hl : (τ.1 3).toInt < (τ.1 2).toInt := B_peek_lt (σ := sI 7 (0 : Int32) (sI 6 (τ.1 3) τ)) rfl (fun q => h (by rw [q]; decide))
  have e := ex_inc hl
  have h9 := hI.2.1
  exact B_INV_pos (B_INV_I (B_INV_I (B_INV_I (B_INV_I hI (by decide)) (by decide)) (by decide)) (by decide)) (by omega) (by show ((τ.1 3) + (1 : Int32)).toInt ≤ (τ.1 2).toInt; omega)
theorem B_nxt_rr {τ : ex_S} {sm : Int32} (hI : B_INV τ) : B_INV (B_run τ sm) := by
  rw [B_run_eq]
  exact B_rr_i (B_INV_I hI (by decide)) 941 (τ.1 3) 0 0 1 0 hI.2.1.1 hI.2.1.2
theorem B_run_f (τ : ex_S) (sm : Int32) : B_FR τ (B_run τ sm) := by
  rw [B_run_eq]
  exact B_FR_t (B_rr_f 941 (τ.1 3) 0 0 1 0) (B_FR_I (by decide) (B_FR_0 τ))
theorem np_if {P : ex_S → Prop} {x : Prop} {i : Decidable x} {a b : ex_S} (h1 : x → P a) (h2 : ¬ x → P b) : P (@ite _ x i a b) := by
  by_cases h : x
  · rw [if_pos h]; exact h1 h
  · rw [if_neg h]; exact h2 h
theorem np_lt {α : Type} {P : ex_S → Prop} {v : α} {k : α → ex_S} (h : ∀ y, y = v → P (k y)) : P (ex_lt v k) := h _ rfl
theorem B_INV_sg2 {τ : ex_S} {r a b : Int32} (hI : B_INV τ) (hr : r = B_peek (sI 7 (0 : Int32) (sI 6 (τ.1 3) τ))) (h : ¬ r.toInt < 0) : B_INV (sI 3 ((τ.1 3) + (1 : Int32)) (sI 8 a (sI 5 b (sI 7 (0 : Int32) (sI 6 (τ.1 3) τ))))) := by
  subst hr
  exact B_INV_sg hI h
theorem B_nxt_i {τ : ex_S} (hI : B_INV τ) : B_INV (B_nxt τ) := by
  unfold B_nxt
  repeat' (first | with_reducible refine np_if (P := B_INV) (fun _ => ?_) (fun _ => ?_) | with_reducible refine np_lt (P := B_INV) (fun _ _ => ?_))
  all_goals (first | with_reducible exact B_nxt_rr hI | with_reducible exact B_INV_sg2 hI (by assumption) (by assumption) | (repeat (first | with_reducible exact hI | with_reducible refine B_INV_I ?_ (by decide))))
theorem B_nxt_f (τ : ex_S) : B_FR τ (B_nxt τ) := by
  unfold B_nxt
  repeat' (first | with_reducible refine np_if (P := B_FR τ) (fun _ => ?_) (fun _ => ?_) | with_reducible refine np_lt (P := B_FR τ) (fun _ _ => ?_))
  all_goals (first | with_reducible exact B_run_f _ _ | (repeat (first | with_reducible exact B_FR_0 _ | with_reducible refine B_FR_I (by decide) ?_)))
theorem inv_X11_next (σ : ex_S) (hI : B_INV σ) : B_INV (B_next σ) := by
  unfold B_next
  have h := B_sk_b hI 941 (σ.1 3) hI.2.1.1 hI.2.1.2
  exact B_nxt_i (B_INV_pos hI h.1 h.2)
theorem frB_next (σ : ex_S) : B_FR σ (B_next σ) := by
  unfold B_next
  exact B_FR_t (B_nxt_f _) (B_FR_I (by decide) (B_FR_0 σ))
theorem inv_X11_bad (why : Int32) (σ : ex_S) (hI : B_INV σ) : B_INV (B_bad why σ).2 := by
  show B_INV (sI 10 (σ.1 6) (sI 9 why σ))
  exact B_INV_I (B_INV_I hI (by decide)) (by decide)
theorem frB_bad (why : Int32) (σ : ex_S) : B_FR σ (B_bad why σ).2 := by
  show B_FR σ (sI 10 (σ.1 6) (sI 9 why σ))
  exact B_FR_I (by decide) (B_FR_I (by decide) (B_FR_0 σ))
theorem inv_X11_sign (ch : Int32) (σ : ex_S) (hI : B_INV σ) : B_INV (B_sign ch σ).2 := by
  unfold B_sign
  simp only [ex_bd, ex_lt]
  repeat' (with_reducible split)
  all_goals (repeat' (first
    | with_reducible exact hI
    | with_reducible refine inv_X11_next _ ?_
    | with_reducible refine inv_X11_bad _ _ ?_
    | with_reducible refine B_INV_I ?_ (by decide)
    | with_reducible refine B_INV_L ?_
    | with_reducible refine B_INV_Q ?_
    ))
theorem frB_sign (ch : Int32) (σ : ex_S) : B_FR σ (B_sign ch σ).2 := by
  unfold B_sign
  simp only [ex_bd, ex_lt]
  repeat' (with_reducible split)
  all_goals (repeat' (first
    | with_reducible exact B_FR_0 _
    | with_reducible refine B_FR_t (frB_next _) ?_
    | with_reducible refine B_FR_t (frB_bad _ _) ?_
    | with_reducible refine B_FR_I (by decide) ?_
    | with_reducible refine B_FR_L ?_
    | with_reducible refine B_FR_Q ?_
    ))
theorem inv_X11_takes (lo : Int32) (hi : Int32) (σ : ex_S) (hI : B_INV σ) : B_INV (B_takes lo hi σ).2 := by
  unfold B_takes
  simp only [ex_bd, ex_lt]
  repeat' (with_reducible split)
  all_goals (repeat' (first
    | with_reducible exact hI
    | with_reducible refine inv_X11_next _ ?_
    | with_reducible refine inv_X11_bad _ _ ?_
    | with_reducible refine B_INV_I ?_ (by decide)
    | with_reducible refine B_INV_L ?_
    | with_reducible refine B_INV_Q ?_
    ))
theorem frB_takes (lo : Int32) (hi : Int32) (σ : ex_S) : B_FR σ (B_takes lo hi σ).2 := by
  unfold B_takes
  simp only [ex_bd, ex_lt]
  repeat' (with_reducible split)
  all_goals (repeat' (first
    | with_reducible exact B_FR_0 _
    | with_reducible refine B_FR_t (frB_next _) ?_
    | with_reducible refine B_FR_t (frB_bad _ _) ?_
    | with_reducible refine B_FR_I (by decide) ?_
    | with_reducible refine B_FR_L ?_
    | with_reducible refine B_FR_Q ?_
    ))
theorem inv_X11_takesWay (lo : Int32) (hi : Int32) (σ : ex_S) (hI : B_INV σ) : B_INV (B_takesWay lo hi σ).2 := by
  unfold B_takesWay
  simp only [ex_bd, ex_lt]
  repeat' (with_reducible split)
  all_goals (repeat' (first
    | with_reducible exact hI
    | with_reducible refine inv_X11_next _ ?_
    | with_reducible refine inv_X11_bad _ _ ?_
    | with_reducible refine B_INV_I ?_ (by decide)
    | with_reducible refine B_INV_L ?_
    | with_reducible refine B_INV_Q ?_
    | with_reducible refine inv_X11_takes _ _ _ ?_
    ))
theorem frB_takesWay (lo : Int32) (hi : Int32) (σ : ex_S) : B_FR σ (B_takesWay lo hi σ).2 := by
  unfold B_takesWay
  simp only [ex_bd, ex_lt]
  repeat' (with_reducible split)
  all_goals (repeat' (first
    | with_reducible exact B_FR_0 _
    | with_reducible refine B_FR_t (frB_next _) ?_
    | with_reducible refine B_FR_t (frB_bad _ _) ?_
    | with_reducible refine B_FR_I (by decide) ?_
    | with_reducible refine B_FR_L ?_
    | with_reducible refine B_FR_Q ?_
    | with_reducible refine B_FR_t (frB_takes _ _ _) ?_
    ))
theorem inv_X11_puts (to : Int32) (lo : Int32) (hi : Int32) (σ : ex_S) (hI : B_INV σ) (hto : 3 ≤ (to).toInt ∧ (to).toInt < 100) : B_INV (B_puts to lo hi σ).2 := by
  unfold B_puts
  simp only [ex_bd, ex_lt]
  repeat' (with_reducible split)
  all_goals (repeat' (first
    | with_reducible exact hI
    | with_reducible refine inv_X11_next _ ?_
    | with_reducible refine inv_X11_bad _ _ ?_
    | with_reducible refine B_INV_I ?_ (by decide)
    | with_reducible refine B_INV_L ?_
    | with_reducible refine B_INV_Q ?_
    | with_reducible refine inv_X11_takes _ _ _ ?_
    | with_reducible refine B_INV_h ?_ (ex_to hto)
    ))
theorem frB_puts (to : Int32) (lo : Int32) (hi : Int32) (σ : ex_S) (hto : 3 ≤ (to).toInt ∧ (to).toInt < 100) : B_FR σ (B_puts to lo hi σ).2 := by
  unfold B_puts
  simp only [ex_bd, ex_lt]
  repeat' (with_reducible split)
  all_goals (repeat' (first
    | with_reducible exact B_FR_0 _
    | with_reducible refine B_FR_t (frB_next _) ?_
    | with_reducible refine B_FR_t (frB_bad _ _) ?_
    | with_reducible refine B_FR_I (by decide) ?_
    | with_reducible refine B_FR_L ?_
    | with_reducible refine B_FR_Q ?_
    | with_reducible refine B_FR_t (frB_takes _ _ _) ?_
    | with_reducible refine B_FR_h (ex_to hto) ?_
    ))
theorem inv_X11_fresh (to : Int32) (σ : ex_S) (hI : B_INV σ) (hto : 15 ≤ (to).toInt ∧ (to).toInt < 30) : B_INV (B_fresh to σ).2 := by
  unfold B_fresh
  simp only [ex_bd, ex_lt]
  repeat' (with_reducible split)
  all_goals (repeat' (first
    | with_reducible exact hI
    | with_reducible refine inv_X11_next _ ?_
    | with_reducible refine inv_X11_bad _ _ ?_
    | with_reducible refine B_INV_I ?_ (by decide)
    | with_reducible refine B_INV_L ?_
    | with_reducible refine B_INV_Q ?_
    | with_reducible refine inv_X11_takes _ _ _ ?_
    | with_reducible refine inv_X11_puts _ _ _ _ ?_ hto
    ))
theorem frB_fresh (to : Int32) (σ : ex_S) (hto : 15 ≤ (to).toInt ∧ (to).toInt < 30) : B_FR σ (B_fresh to σ).2 := by
  unfold B_fresh
  simp only [ex_bd, ex_lt]
  repeat' (with_reducible split)
  all_goals (repeat' (first
    | with_reducible exact B_FR_0 _
    | with_reducible refine B_FR_t (frB_next _) ?_
    | with_reducible refine B_FR_t (frB_bad _ _) ?_
    | with_reducible refine B_FR_I (by decide) ?_
    | with_reducible refine B_FR_L ?_
    | with_reducible refine B_FR_Q ?_
    | with_reducible refine B_FR_t (frB_takes _ _ _) ?_
    ))
theorem inv_X11_looksAt (fr : Int32) (ma : Int32) (σ : ex_S) (hI : B_INV σ) (hfm : (0 ≤ (fr).toInt ∧ 0 ≤ (ma).toInt) ∧ (fr).toInt + (ma).toInt ≤ 30) : B_INV (B_looksAt fr ma σ).2 := by
  unfold B_looksAt
  simp only [ex_bd, ex_lt]
  repeat' (with_reducible split)
  all_goals (repeat' (first
    | with_reducible exact hI
    | with_reducible refine inv_X11_next _ ?_
    | with_reducible refine inv_X11_bad _ _ ?_
    | with_reducible refine B_INV_I ?_ (by decide)
    | with_reducible refine B_INV_L ?_
    | with_reducible refine B_INV_Q ?_
    | with_reducible refine inv_X11_takes _ _ _ ?_
    | with_reducible refine inv_X11_puts _ _ _ _ ?_ hto
    ))
theorem frB_looksAt (fr : Int32) (ma : Int32) (σ : ex_S) (hfm : (0 ≤ (fr).toInt ∧ 0 ≤ (ma).toInt) ∧ (fr).toInt + (ma).toInt ≤ 30) : B_FR σ (B_looksAt fr ma σ).2 := by
  unfold B_looksAt
  simp only [ex_bd, ex_lt]
  repeat' (with_reducible split)
  all_goals (repeat' (first
    | with_reducible exact B_FR_0 _
    | with_reducible refine B_FR_t (frB_next _) ?_
    | with_reducible refine B_FR_t (frB_bad _ _) ?_
    | with_reducible refine B_FR_I (by decide) ?_
    | with_reducible refine B_FR_L ?_
    | with_reducible refine B_FR_Q ?_
    | with_reducible refine B_FR_t (frB_takes _ _ _) ?_
    ))
theorem inv_X11_takesName (fr : Int32) (ma : Int32) (σ : ex_S) (hI : B_INV σ) (hfm : (0 ≤ (fr).toInt ∧ 0 ≤ (ma).toInt) ∧ (fr).toInt + (ma).toInt ≤ 30) : B_INV (B_takesName fr ma σ).2 := by
  unfold B_takesName
  simp only [ex_bd, ex_lt]
  repeat' (with_reducible split)
  all_goals (repeat' (first
    | with_reducible exact hI
    | with_reducible refine inv_X11_next _ ?_
    | with_reducible refine inv_X11_bad _ _ ?_
    | with_reducible refine B_INV_I ?_ (by decide)
    | with_reducible refine B_INV_L ?_
    | with_reducible refine B_INV_Q ?_
    | with_reducible refine inv_X11_takes _ _ _ ?_
    | with_reducible refine inv_X11_puts _ _ _ _ ?_ hto
    | with_reducible refine inv_X11_looksAt _ _ _ ?_ hfm
    ))
theorem frB_takesName (fr ma : Int32) (σ : ex_S) (hfm : (0 ≤ (fr).toInt ∧ 0 ≤ (ma).toInt) ∧ (fr).toInt + (ma).toInt ≤ 30) : B_FR σ (B_takesName fr ma σ).2 := by
  unfold B_takesName
  have hq := frB_looksAt fr ma σ hfm
  obtain ⟨r, τ, q⟩ : ∃ r x, B_looksAt fr ma σ = (r, x) := ex_pair _
  rw [q] at hq
  rw [ex_bd_eq q]
  simp only [ex_lt]
  by_cases h : r = 0
  · rw [if_pos h]; exact hq
  · rw [if_neg h]; exact B_FR_t (frB_next τ) hq
theorem inv_X11_once (k : Int32) (to : Int32) (lo : Int32) (hi : Int32) (σ : ex_S) (hI : B_INV σ) (hto : 3 ≤ (to).toInt ∧ (to).toInt < 100) : B_INV (B_once k to lo hi σ).2 := by
  unfold B_once
  simp only [ex_bd, ex_lt]
  repeat' (with_reducible split)
  all_goals (repeat' (first
    | with_reducible exact hI
    | with_reducible refine inv_X11_next _ ?_
    | with_reducible refine inv_X11_bad _ _ ?_
    | with_reducible refine B_INV_I ?_ (by decide)
    | with_reducible refine B_INV_L ?_
    | with_reducible refine B_INV_Q ?_
    | with_reducible refine inv_X11_takes _ _ _ ?_
    | with_reducible refine inv_X11_puts _ _ _ _ ?_ hto
    | with_reducible refine inv_X11_looksAt _ _ _ ?_ hfm
    ))
/-- one counter goes up by one, the rest stays -/
noncomputable def B_UP (c : Nat) (σ τ : ex_S) : Prop := τ.2.2.1 2 c = σ.2.2.1 2 c + (1 : Int32) ∧ (∀ j, j < 3 → ¬ j = c → τ.2.2.1 2 j = σ.2.2.1 2 j) ∧ τ.1 13 = σ.1 13
theorem B_UP_m {c : Nat} {σ τ : ex_S} {i : Nat} {v : Int32} (hc : c < 3) (hi : 3 ≤ i) (hF : B_FR σ τ) : B_UP c σ (sR 2 (upd (upd (τ.2.2.1 2) i v) c (((upd (τ.2.2.1 2) i v) c) + (1 : Int32))) (sR 2 (upd (τ.2.2.1 2) i v) τ)) := by
  refine And.intro ?_ (And.intro (fun j hj hn => ?_) hF.2)
  · show upd (upd (τ.2.2.1 2) i v) c (((upd (τ.2.2.1 2) i v) c) + (1 : Int32)) c = σ.2.2.1 2 c + (1 : Int32)
    rw [ex_u1, ex_u (show ¬ c = i by omega), hF.1 c hc]
  · show upd (upd (τ.2.2.1 2) i v) c (((upd (τ.2.2.1 2) i v) c) + (1 : Int32)) j = σ.2.2.1 2 j
    rw [ex_u hn, ex_u (show ¬ j = i by omega), hF.1 j hj]
theorem B_UP_2 {σ τ : ex_S} (hF : B_FR σ τ) : B_UP 2 σ (sR 2 (upd (τ.2.2.1 2) 2 (((τ.2.2.1 2) 2) + (1 : Int32))) τ) := by
  refine And.intro ?_ (And.intro (fun j hj hn => ?_) hF.2)
  · show upd (τ.2.2.1 2) 2 (((τ.2.2.1 2) 2) + (1 : Int32)) 2 = σ.2.2.1 2 2 + (1 : Int32)
    rw [ex_u1, hF.1 2 (by decide)]
  · show upd (τ.2.2.1 2) 2 (((τ.2.2.1 2) 2) + (1 : Int32)) j = σ.2.2.1 2 j
    rw [ex_u hn, hF.1 j hj]
theorem ex_atN {a : Nat} {x y : Int32} (hy : y.toInt = a) (ha : 3 ≤ a ∧ a ≤ 1000) (hx : 0 ≤ x.toInt ∧ x.toInt ≤ 1000) : 3 ≤ (y + x).toNatClampNeg := by
  have s9 := ex_sum (a := y) (x := x) (by omega) hx
  have c9 := ex_cl (x := y + x) (by rw [s9]; omega)
  rw [s9] at c9
  omega
/-- a line's end: what is kept; it failed, or one counter went up -/
noncomputable def B_KP (c : Nat) (σ : ex_S) (x : Int32 × ex_S) : Prop := B_INV x.2 ∧ (x.1 = 0 ∨ B_UP c σ x.2)
theorem kp_bd {c : Nat} {σ : ex_S} {q : Int32 × ex_S} {k : Int32 → ex_S → Int32 × ex_S} (h : ∀ r τ, q = (r, τ) → B_KP c σ (k r τ)) : B_KP c σ (ex_bd q k) := h _ _ rfl
theorem kp_lt {α : Type} {c : Nat} {σ : ex_S} {v : α} {k : α → Int32 × ex_S} (h : ∀ τ, τ = v → B_KP c σ (k τ)) : B_KP c σ (ex_lt v k) := h _ rfl
theorem kp_if {c : Nat} {σ : ex_S} {x : Prop} {i : Decidable x} {a b : Int32 × ex_S} (h1 : x → B_KP c σ a) (h2 : ¬ x → B_KP c σ b) : B_KP c σ (@ite _ x i a b) := by
  by_cases h : x
  · rw [if_pos h]; exact h1 h
  · rw [if_neg h]; exact h2 h
theorem kp_0 {c : Nat} {σ τ : ex_S} (h : B_INV τ) : B_KP c σ ((0 : Int32), τ) := And.intro h (Or.inl rfl)
theorem kp_1 {c : Nat} {σ τ : ex_S} (h : B_INV τ) (h2 : B_UP c σ τ) : B_KP c σ ((1 : Int32), τ) := And.intro h (Or.inr h2)
theorem kp_bad {c : Nat} {σ τ : ex_S} {w : Int32} (h : B_INV τ) : B_KP c σ (ex_bd (B_bad w τ) (fun r x => (r, x))) := And.intro (inv_X11_bad w τ h) (Or.inl rfl)
theorem B_readTown_k (σ : ex_S) (hI : B_INV σ) : B_KP 0 σ (B_readTown σ) := by
  unfold B_readTown
  refine kp_if (fun h => kp_bad hI) (fun h => ?_)
  have k9 := B_k0 hI
  have n9 := ex_ne7 h
  refine kp_lt (fun τ1 q1 => ?_)
  have i1 : B_INV τ1 := by rw [q1]; exact inv_X11_next (σ) (hI)
  have f1 : B_FR σ τ1 := by rw [q1]; exact B_FR_t (frB_next _) (B_FR_0 σ)
  refine kp_bd (fun r2 τ2 q2 => ?_)
  have i2 : B_INV τ2 := by have z := inv_X11_fresh ((15 : Int32) + ((σ.2.2.1 2) 0)) (τ1) (i1) (by have s9 := ex_sum (a := (15 : Int32)) (x := ((σ.2.2.1 2) 0)) (by decide) (by omega); have e9 : (15 : Int32).toInt = 15 := (by decide); rw [s9]; omega); rw [q2] at z; exact z
  have f2 : B_FR σ τ2 := by have z := B_FR_t (frB_fresh ((15 : Int32) + ((σ.2.2.1 2) 0)) (τ1) (by have s9 := ex_sum (a := (15 : Int32)) (x := ((σ.2.2.1 2) 0)) (by decide) (by omega); have e9 : (15 : Int32).toInt = 15 := (by decide); rw [s9]; omega)) (f1); rw [q2] at z; exact z
  refine kp_if (fun h2 => kp_0 i2) (fun h2 => ?_)
  refine kp_bd (fun r3 τ3 q3 => ?_)
  have i3 : B_INV τ3 := by have z := inv_X11_puts ((6 : Int32) + ((σ.2.2.1 2) 0)) (0 : Int32) (60 : Int32) (τ2) (i2) (by have s9 := ex_sum (a := (6 : Int32)) (x := ((σ.2.2.1 2) 0)) (by decide) (by omega); have e9 : (6 : Int32).toInt = 6 := (by decide); rw [s9]; omega); rw [q3] at z; exact z
  have f3 : B_FR σ τ3 := by have z := B_FR_t (frB_puts ((6 : Int32) + ((σ.2.2.1 2) 0)) (0 : Int32) (60 : Int32) (τ2) (by have s9 := ex_sum (a := (6 : Int32)) (x := ((σ.2.2.1 2) 0)) (by decide) (by omega); have e9 : (6 : Int32).toInt = 6 := (by decide); rw [s9]; omega)) (f2); rw [q3] at z; exact z
  refine kp_if (fun h3 => kp_0 i3) (fun h3 => ?_)
  have i20 : B_INV (sR 2 (upd (τ3.2.2.1 2) (((13 : Int32) + ((σ.2.2.1 2) 0))).toNatClampNeg (0 : Int32)) τ3) := B_INV_h i3 (ex_atN (a := 13) (y := (13 : Int32)) (x := ((σ.2.2.1 2) 0)) (by decide) (by decide) (by omega))
  have f20 : B_FR σ (sR 2 (upd (τ3.2.2.1 2) (((13 : Int32) + ((σ.2.2.1 2) 0))).toNatClampNeg (0 : Int32)) τ3) := B_FR_h (ex_atN (a := 13) (y := (13 : Int32)) (x := ((σ.2.2.1 2) 0)) (by decide) (by decide) (by omega)) f3
  refine kp_lt (fun r21 q21 => ?_)
  refine kp_if (fun h21 => ?_) (fun h21 => ?_)
  · refine kp_lt (fun r22 q22 => ?_)
    refine kp_if (fun h22 => ?_) (fun h22 => ?_)
    · skip
      have a9 : 3 ≤ (((13 : Int32) + ((σ.2.2.1 2) 0))).toNatClampNeg := (ex_atN (a := 13) (y := (13 : Int32)) (x := ((σ.2.2.1 2) 0)) (by decide) (by decide) (by omega))
      have u9 : upd (τ3.2.2.1 2) (((13 : Int32) + ((σ.2.2.1 2) 0))).toNatClampNeg (0) 0 = σ.2.2.1 2 0 := (ex_u (by omega)).trans (f3.1 0 (by decide))
      exact kp_1 (B_INV_0u (B_INV_h i3 a9) (by rw [u9]; omega)) (B_UP_m (by decide) a9 f3)
    · skip
      refine kp_bd (fun r31 τ31 q31 => ?_)
      have i31 : B_INV τ31 := by have z := inv_X11_takesWay (1 : Int32) (30 : Int32) (sR 2 (upd (τ3.2.2.1 2) (((13 : Int32) + ((σ.2.2.1 2) 0))).toNatClampNeg (0 : Int32)) τ3) (i20) ; rw [q31] at z; exact z
      have f31 : B_FR σ τ31 := by have z := B_FR_t (frB_takesWay (1 : Int32) (30 : Int32) (sR 2 (upd (τ3.2.2.1 2) (((13 : Int32) + ((σ.2.2.1 2) 0))).toNatClampNeg (0 : Int32)) τ3) ) (f20); rw [q31] at z; exact z
      refine kp_if (fun h31 => kp_0 i31) (fun h31 => ?_)
      have a9 : 3 ≤ (((13 : Int32) + ((σ.2.2.1 2) 0))).toNatClampNeg := (ex_atN (a := 13) (y := (13 : Int32)) (x := ((σ.2.2.1 2) 0)) (by decide) (by decide) (by omega))
      have u9 : upd (τ31.2.2.1 2) (((13 : Int32) + ((σ.2.2.1 2) 0))).toNatClampNeg (τ31.1 11) 0 = σ.2.2.1 2 0 := (ex_u (by omega)).trans (f31.1 0 (by decide))
      exact kp_1 (B_INV_0u (B_INV_h i31 a9) (by rw [u9]; omega)) (B_UP_m (by decide) a9 f31)
  · skip
    refine kp_bd (fun r31 τ31 q31 => ?_)
    have i31 : B_INV τ31 := by have z := inv_X11_takesWay (1 : Int32) (30 : Int32) (sR 2 (upd (τ3.2.2.1 2) (((13 : Int32) + ((σ.2.2.1 2) 0))).toNatClampNeg (0 : Int32)) τ3) (i20) ; rw [q31] at z; exact z
    have f31 : B_FR σ τ31 := by have z := B_FR_t (frB_takesWay (1 : Int32) (30 : Int32) (sR 2 (upd (τ3.2.2.1 2) (((13 : Int32) + ((σ.2.2.1 2) 0))).toNatClampNeg (0 : Int32)) τ3) ) (f20); rw [q31] at z; exact z
    refine kp_if (fun h31 => kp_0 i31) (fun h31 => ?_)
    have a9 : 3 ≤ (((13 : Int32) + ((σ.2.2.1 2) 0))).toNatClampNeg := (ex_atN (a := 13) (y := (13 : Int32)) (x := ((σ.2.2.1 2) 0)) (by decide) (by decide) (by omega))
    have u9 : upd (τ31.2.2.1 2) (((13 : Int32) + ((σ.2.2.1 2) 0))).toNatClampNeg (τ31.1 11) 0 = σ.2.2.1 2 0 := (ex_u (by omega)).trans (f31.1 0 (by decide))
    exact kp_1 (B_INV_0u (B_INV_h i31 a9) (by rw [u9]; omega)) (B_UP_m (by decide) a9 f31)
theorem B_readTerm_k (σ : ex_S) (hI : B_INV σ) : B_KP 1 σ (B_readTerm σ) := by
  unfold B_readTerm
  refine kp_if (fun h => kp_bad hI) (fun h => ?_)
  have k9 := B_k1 hI
  have n9 := ex_ne12 h
  refine kp_lt (fun τ1 q1 => ?_)
  have i1 : B_INV τ1 := by rw [q1]; exact inv_X11_next (σ) (hI)
  have f1 : B_FR σ τ1 := by rw [q1]; exact B_FR_t (frB_next _) (B_FR_0 σ)
  refine kp_bd (fun r2 τ2 q2 => ?_)
  have i2 : B_INV τ2 := by have z := inv_X11_takesName (15 : Int32) ((τ1.2.2.1 2) 0) (τ1) (i1) (B_fm15 i1); rw [q2] at z; exact z
  have f2 : B_FR σ τ2 := by have z := B_FR_t (frB_takesName (15 : Int32) ((τ1.2.2.1 2) 0) (τ1) (B_fm15 i1)) (f1); rw [q2] at z; exact z
  refine kp_if (fun h2 => kp_0 i2) (fun h2 => ?_)
  refine kp_bd (fun r3 τ3 q3 => ?_)
  have i3 : B_INV τ3 := by have z := inv_X11_puts ((32 : Int32) + ((σ.2.2.1 2) 1)) (0 : Int32) (399 : Int32) (sR 2 (upd (τ2.2.2.1 2) (((20 : Int32) + ((σ.2.2.1 2) 1))).toNatClampNeg (τ2.1 11)) τ2) (B_INV_h i2 (ex_atN (a := 20) (y := (20 : Int32)) (x := ((σ.2.2.1 2) 1)) (by decide) (by decide) (by omega))) (by have s9 := ex_sum (a := (32 : Int32)) (x := ((σ.2.2.1 2) 1)) (by decide) (by omega); have e9 : (32 : Int32).toInt = 32 := (by decide); rw [s9]; omega); rw [q3] at z; exact z
  have f3 : B_FR σ τ3 := by have z := B_FR_t (frB_puts ((32 : Int32) + ((σ.2.2.1 2) 1)) (0 : Int32) (399 : Int32) (sR 2 (upd (τ2.2.2.1 2) (((20 : Int32) + ((σ.2.2.1 2) 1))).toNatClampNeg (τ2.1 11)) τ2) (by have s9 := ex_sum (a := (32 : Int32)) (x := ((σ.2.2.1 2) 1)) (by decide) (by omega); have e9 : (32 : Int32).toInt = 32 := (by decide); rw [s9]; omega)) (B_FR_h (ex_atN (a := 20) (y := (20 : Int32)) (x := ((σ.2.2.1 2) 1)) (by decide) (by decide) (by omega)) f2); rw [q3] at z; exact z
  refine kp_if (fun h3 => kp_0 i3) (fun h3 => ?_)
  refine kp_bd (fun r4 τ4 q4 => ?_)
  have i4 : B_INV τ4 := by have z := inv_X11_puts ((44 : Int32) + ((σ.2.2.1 2) 1)) ((τ3.2.2.1 2) (((32 : Int32) + ((σ.2.2.1 2) 1))).toNatClampNeg) (399 : Int32) (τ3) (i3) (by have s9 := ex_sum (a := (44 : Int32)) (x := ((σ.2.2.1 2) 1)) (by decide) (by omega); have e9 : (44 : Int32).toInt = 44 := (by decide); rw [s9]; omega); rw [q4] at z; exact z
  have f4 : B_FR σ τ4 := by have z := B_FR_t (frB_puts ((44 : Int32) + ((σ.2.2.1 2) 1)) ((τ3.2.2.1 2) (((32 : Int32) + ((σ.2.2.1 2) 1))).toNatClampNeg) (399 : Int32) (τ3) (by have s9 := ex_sum (a := (44 : Int32)) (x := ((σ.2.2.1 2) 1)) (by decide) (by omega); have e9 : (44 : Int32).toInt = 44 := (by decide); rw [s9]; omega)) (f3); rw [q4] at z; exact z
  refine kp_if (fun h4 => kp_0 i4) (fun h4 => ?_)
  refine kp_bd (fun r5 τ5 q5 => ?_)
  have i5 : B_INV τ5 := by have z := inv_X11_takesWay (0 : Int32) (30 : Int32) (τ4) (i4) ; rw [q5] at z; exact z
  have f5 : B_FR σ τ5 := by have z := B_FR_t (frB_takesWay (0 : Int32) (30 : Int32) (τ4) ) (f4); rw [q5] at z; exact z
  refine kp_if (fun h5 => kp_0 i5) (fun h5 => ?_)
  have a9 : 3 ≤ (((56 : Int32) + ((σ.2.2.1 2) 1))).toNatClampNeg := (ex_atN (a := 56) (y := (56 : Int32)) (x := ((σ.2.2.1 2) 1)) (by decide) (by decide) (by omega))
  have u9 : upd (τ5.2.2.1 2) (((56 : Int32) + ((σ.2.2.1 2) 1))).toNatClampNeg (τ5.1 11) 1 = σ.2.2.1 2 1 := (ex_u (by omega)).trans (f5.1 1 (by decide))
  exact kp_1 (B_INV_1u (B_INV_h i5 a9) (by rw [u9]; omega)) (B_UP_m (by decide) a9 f5)
theorem B_readTrain_k (σ : ex_S) (hI : B_INV σ) : B_KP 2 σ (B_readTrain σ) := by
  unfold B_readTrain
  refine kp_if (fun h => kp_bad hI) (fun h => ?_)
  have k9 := B_k2 hI
  have n9 := ex_ne8 h
  refine kp_lt (fun τ1 q1 => ?_)
  have i1 : B_INV τ1 := by rw [q1]; exact inv_X11_next (σ) (hI)
  have f1 : B_FR σ τ1 := by rw [q1]; exact B_FR_t (frB_next _) (B_FR_0 σ)
  refine kp_bd (fun r2 τ2 q2 => ?_)
  have i2 : B_INV τ2 := by have z := inv_X11_fresh ((22 : Int32) + ((σ.2.2.1 2) 2)) (τ1) (i1) (by have s9 := ex_sum (a := (22 : Int32)) (x := ((σ.2.2.1 2) 2)) (by decide) (by omega); have e9 : (22 : Int32).toInt = 22 := (by decide); rw [s9]; omega); rw [q2] at z; exact z
  have f2 : B_FR σ τ2 := by have z := B_FR_t (frB_fresh ((22 : Int32) + ((σ.2.2.1 2) 2)) (τ1) (by have s9 := ex_sum (a := (22 : Int32)) (x := ((σ.2.2.1 2) 2)) (by decide) (by omega); have e9 : (22 : Int32).toInt = 22 := (by decide); rw [s9]; omega)) (f1); rw [q2] at z; exact z
  refine kp_if (fun h2 => kp_0 i2) (fun h2 => ?_)
  refine kp_bd (fun r3 τ3 q3 => ?_)
  have i3 : B_INV τ3 := by have z := inv_X11_takesName (15 : Int32) ((τ2.2.2.1 2) 0) (τ2) (i2) (B_fm15 i2); rw [q3] at z; exact z
  have f3 : B_FR σ τ3 := by have z := B_FR_t (frB_takesName (15 : Int32) ((τ2.2.2.1 2) 0) (τ2) (B_fm15 i2)) (f2); rw [q3] at z; exact z
  refine kp_if (fun h3 => kp_0 i3) (fun h3 => ?_)
  have i20 : B_INV (sR 2 (upd (τ3.2.2.1 2) (((68 : Int32) + ((σ.2.2.1 2) 2))).toNatClampNeg (τ3.1 11)) τ3) := B_INV_h i3 (ex_atN (a := 68) (y := (68 : Int32)) (x := ((σ.2.2.1 2) 2)) (by decide) (by decide) (by omega))
  have f20 : B_FR σ (sR 2 (upd (τ3.2.2.1 2) (((68 : Int32) + ((σ.2.2.1 2) 2))).toNatClampNeg (τ3.1 11)) τ3) := B_FR_h (ex_atN (a := 68) (y := (68 : Int32)) (x := ((σ.2.2.1 2) 2)) (by decide) (by decide) (by omega)) f3
  refine kp_bd (fun r4 τ4 q4 => ?_)
  have i4 : B_INV τ4 := by have z := inv_X11_looksAt (15 : Int32) ((upd (τ3.2.2.1 2) (((68 : Int32) + ((σ.2.2.1 2) 2))).toNatClampNeg (τ3.1 11)) 0) (sR 2 (upd (τ3.2.2.1 2) (((68 : Int32) + ((σ.2.2.1 2) 2))).toNatClampNeg (τ3.1 11)) τ3) (i20) (B_fm15u i20); rw [q4] at z; exact z
  have f4 : B_FR σ τ4 := by have z := B_FR_t (frB_looksAt (15 : Int32) ((upd (τ3.2.2.1 2) (((68 : Int32) + ((σ.2.2.1 2) 2))).toNatClampNeg (τ3.1 11)) 0) (sR 2 (upd (τ3.2.2.1 2) (((68 : Int32) + ((σ.2.2.1 2) 2))).toNatClampNeg (τ3.1 11)) τ3) (B_fm15u i20)) (f20); rw [q4] at z; exact z
  refine kp_if (fun h4 => kp_0 i4) (fun h4 => ?_)
  refine kp_if (fun h21 => kp_bad i4) (fun h21 => ?_)
  refine kp_lt (fun τ5 q5 => ?_)
  have i5 : B_INV τ5 := by rw [q5]; exact inv_X11_next (sR 2 (upd (τ4.2.2.1 2) (((76 : Int32) + ((σ.2.2.1 2) 2))).toNatClampNeg (τ4.1 11)) τ4) (B_INV_h i4 (ex_atN (a := 76) (y := (76 : Int32)) (x := ((σ.2.2.1 2) 2)) (by decide) (by decide) (by omega)))
  have f5 : B_FR σ τ5 := by rw [q5]; exact B_FR_t (frB_next _) (B_FR_h (ex_atN (a := 76) (y := (76 : Int32)) (x := ((σ.2.2.1 2) 2)) (by decide) (by decide) (by omega)) f4)
  refine kp_bd (fun r6 τ6 q6 => ?_)
  have i6 : B_INV τ6 := by have z := inv_X11_puts ((84 : Int32) + ((σ.2.2.1 2) 2)) (0 : Int32) (600 : Int32) (τ5) (i5) (by have s9 := ex_sum (a := (84 : Int32)) (x := ((σ.2.2.1 2) 2)) (by decide) (by omega); have e9 : (84 : Int32).toInt = 84 := (by decide); rw [s9]; omega); rw [q6] at z; exact z
  have f6 : B_FR σ τ6 := by have z := B_FR_t (frB_puts ((84 : Int32) + ((σ.2.2.1 2) 2)) (0 : Int32) (600 : Int32) (τ5) (by have s9 := ex_sum (a := (84 : Int32)) (x := ((σ.2.2.1 2) 2)) (by decide) (by omega); have e9 : (84 : Int32).toInt = 84 := (by decide); rw [s9]; omega)) (f5); rw [q6] at z; exact z
  refine kp_if (fun h6 => kp_0 i6) (fun h6 => ?_)
  refine kp_bd (fun r7 τ7 q7 => ?_)
  have i7 : B_INV τ7 := by have z := inv_X11_puts ((92 : Int32) + ((σ.2.2.1 2) 2)) (1 : Int32) (200 : Int32) (τ6) (i6) (by have s9 := ex_sum (a := (92 : Int32)) (x := ((σ.2.2.1 2) 2)) (by decide) (by omega); have e9 : (92 : Int32).toInt = 92 := (by decide); rw [s9]; omega); rw [q7] at z; exact z
  have f7 : B_FR σ τ7 := by have z := B_FR_t (frB_puts ((92 : Int32) + ((σ.2.2.1 2) 2)) (1 : Int32) (200 : Int32) (τ6) (by have s9 := ex_sum (a := (92 : Int32)) (x := ((σ.2.2.1 2) 2)) (by decide) (by omega); have e9 : (92 : Int32).toInt = 92 := (by decide); rw [s9]; omega)) (f6); rw [q7] at z; exact z
  refine kp_if (fun h7 => kp_0 i7) (fun h7 => ?_)
  exact kp_1 (B_INV_2u i7 (by rw [(f7).1 2 (by decide)]; omega)) (B_UP_2 f7)
theorem inv_X11_readTown (σ : ex_S) (hI : B_INV σ) : B_INV (B_readTown σ).2 := (B_readTown_k σ hI).1
theorem inv_X11_readTerm (σ : ex_S) (hI : B_INV σ) : B_INV (B_readTerm σ).2 := (B_readTerm_k σ hI).1
theorem inv_X11_readTrain (σ : ex_S) (hI : B_INV σ) : B_INV (B_readTrain σ).2 := (B_readTrain_k σ hI).1
theorem inv_X11_line (σ : ex_S) (hI : B_INV σ) : B_INV (B_line σ).2 := by
  unfold B_line
  simp only [ex_bd, ex_lt]
  repeat' (with_reducible split)
  all_goals (repeat' (first
    | with_reducible exact inv_X11_bad _ _ hI
    | with_reducible exact inv_X11_once _ _ _ _ _ hI (by decide)
    | with_reducible exact inv_X11_readTown _ hI
    | with_reducible exact inv_X11_readTerm _ hI
    | with_reducible exact inv_X11_readTrain _ hI
    ))
theorem ex_o8 {o : Int32} (h : 0 ≤ o.toInt ∧ o.toInt ≤ 7) : o = 0 ∨ o = 1 ∨ o = 2 ∨ o = 3 ∨ o = 4 ∨ o = 5 ∨ o = 6 ∨ o = 7 := by
  by_cases h0 : o = 0; · exact Or.inl h0
  by_cases h1 : o = 1; · exact Or.inr (Or.inl h1)
  by_cases h2 : o = 2; · exact Or.inr (Or.inr (Or.inl h2))
  by_cases h3 : o = 3; · exact Or.inr (Or.inr (Or.inr (Or.inl h3)))
  by_cases h4 : o = 4; · exact Or.inr (Or.inr (Or.inr (Or.inr (Or.inl h4))))
  by_cases h5 : o = 5; · exact Or.inr (Or.inr (Or.inr (Or.inr (Or.inr (Or.inl h5)))))
  by_cases h6 : o = 6; · exact Or.inr (Or.inr (Or.inr (Or.inr (Or.inr (Or.inr (Or.inl h6))))))
  by_cases h7 : o = 7; · exact Or.inr (Or.inr (Or.inr (Or.inr (Or.inr (Or.inr (Or.inr h7))))))
  have h9 := ex_out8 h0 h1 h2 h3 h4 h5 h6 h7
  omega
theorem B_bit {o k : Int32} (ho : 0 ≤ o.toInt ∧ o.toInt ≤ 7) (hk : k = 0 ∨ k = 1 ∨ k = 2) (hb : B_bitOf o k = 0) : (0 ≤ (o ||| ((1 : Int32) <<< (k &&& 31))).toInt ∧ (o ||| ((1 : Int32) <<< (k &&& 31))).toInt ≤ 7) ∧ B_nb (o ||| ((1 : Int32) <<< (k &&& 31))) = B_nb o + 1 := by
  unfold B_bitOf at hb
  unfold B_nb
  rcases hk with rfl | rfl | rfl <;> rcases ex_o8 ho with rfl | rfl | rfl | rfl | rfl | rfl | rfl | rfl <;> revert hb <;> decide +kernel
/-- a line either fails or makes the count grow by one -/
noncomputable def B_LN (σ τ : ex_S) : Prop := B_cnt τ = B_cnt σ + 1 ∧ B_ON τ
theorem B_UP_ln {c : Nat} {σ τ : ex_S} (hc : c < 3) (hI : B_INV σ) (hO : B_ON σ) (h : B_UP c σ τ) (hl : (σ.2.2.1 2 c).toInt < 100) : B_LN σ τ := by
  have e100 : (100 : Int32).toInt = 100 := by decide
  have e := ex_inc (p := σ.2.2.1 2 c) (n := 100) (by rw [e100]; exact hl)
  have h1 := congrArg Int32.toInt h.1
  rw [e] at h1
  refine And.intro ?_ ?_
  · unfold B_cnt
    rw [h.2.2]
    have hc3 : c = 0 ∨ c = 1 ∨ c = 2 := by omega
    rcases hc3 with rfl | rfl | rfl
    · rw [h.2.1 1 (by decide) (by decide), h.2.1 2 (by decide) (by decide), h1]; omega
    · rw [h.2.1 0 (by decide) (by decide), h.2.1 2 (by decide) (by decide), h1]; omega
    · rw [h.2.1 0 (by decide) (by decide), h.2.1 1 (by decide) (by decide), h1]; omega
  · unfold B_ON at hO ⊢
    rw [h.2.2]
    exact hO
theorem B_FR_ct {σ τ : ex_S} (h : B_FR σ τ) : B_cnt τ = B_cnt σ := by
  unfold B_cnt
  rw [h.1 0 (by decide), h.1 1 (by decide), h.1 2 (by decide), h.2]
theorem B_once_ln {k to lo hi : Int32} {σ : ex_S} (hO : B_ON σ) (hk : k = 0 ∨ k = 1 ∨ k = 2) (hto : 3 ≤ (to).toInt ∧ (to).toInt < 100) : (B_once k to lo hi σ).1 = 0 ∨ B_LN σ (B_once k to lo hi σ).2 := by
  unfold B_once
  simp only [ex_bd, ex_lt]
  by_cases hb : B_bitOf (σ.1 13) k = 0
  · rw [if_pos hb]
    right
    have f := B_FR_t (frB_puts to lo hi _ hto) (frB_next (sI 13 ((σ.1 13) ||| ((1 : Int32) <<< (k &&& 31))) σ))
    have g := B_bit hO hk hb
    have c := B_FR_ct f
    have hn : (sI 13 ((σ.1 13) ||| ((1 : Int32) <<< (k &&& 31))) σ).1 13 = (σ.1 13) ||| ((1 : Int32) <<< (k &&& 31)) := rfl
    refine And.intro (c.trans ?_) ?_
    · show ((σ.2.2.1 2 0).toInt + (σ.2.2.1 2 1).toInt + (σ.2.2.1 2 2).toInt + B_nb ((σ.1 13) ||| ((1 : Int32) <<< (k &&& 31)))) = B_cnt σ + 1
      rw [g.2]
      unfold B_cnt
      omega
    · unfold B_ON
      rw [f.2, hn]
      exact g.1
  · rw [if_neg hb]
    exact Or.inl rfl
theorem cnt_line {τ σ10 : ex_S} {r9 : Int32} (hI : B_INV τ) (hO : B_ON τ) (q : B_line τ = (r9, σ10)) (h13 : ¬ r9 = 0) : B_cnt σ10 = B_cnt τ + 1 ∧ B_ON σ10 := by
  have k0 := B_k0 hI
  have k1 := B_k1 hI
  have k2 := B_k2 hI
  have t0 : (B_readTown τ).1 = 0 ∨ B_LN τ (B_readTown τ).2 := (B_readTown_k τ hI).2.imp id (fun h => B_UP_ln (by decide) hI hO h (by omega))
  have t1 : (B_readTerm τ).1 = 0 ∨ B_LN τ (B_readTerm τ).2 := (B_readTerm_k τ hI).2.imp id (fun h => B_UP_ln (by decide) hI hO h (by omega))
  have t2 : (B_readTrain τ).1 = 0 ∨ B_LN τ (B_readTrain τ).2 := (B_readTrain_k τ hI).2.imp id (fun h => B_UP_ln (by decide) hI hO h (by omega))
  have s0 : (B_once (0 : Int32) (3 : Int32) (1 : Int32) (10 : Int32) τ).1 = 0 ∨ B_LN τ (B_once (0 : Int32) (3 : Int32) (1 : Int32) (10 : Int32) τ).2 := B_once_ln hO (Or.inl rfl) (by decide)
  have s1 : (B_once (1 : Int32) (4 : Int32) (0 : Int32) (30 : Int32) τ).1 = 0 ∨ B_LN τ (B_once (1 : Int32) (4 : Int32) (0 : Int32) (30 : Int32) τ).2 := B_once_ln hO (Or.inr (Or.inl rfl)) (by decide)
  have s2 : (B_once (2 : Int32) (5 : Int32) (0 : Int32) (12 : Int32) τ).1 = 0 ∨ B_LN τ (B_once (2 : Int32) (5 : Int32) (0 : Int32) (12 : Int32) τ).2 := B_once_ln hO (Or.inr (Or.inr rfl)) (by decide)
  have h : (B_line τ).1 = 0 ∨ B_LN τ (B_line τ).2 := by
    unfold B_line
    simp only [ex_bd, ex_lt]
    repeat' (with_reducible split)
    all_goals (first | with_reducible exact t0 | with_reducible exact t1 | with_reducible exact t2 | with_reducible exact s0 | with_reducible exact s1 | with_reducible exact s2 | exact Or.inl rfl)
  rw [q] at h
  exact h.resolve_left h13
theorem cnt_sign {σ10 σ15 : ex_S} {ch r14 : Int32} (q : B_sign ch σ10 = (r14, σ15)) : B_cnt σ15 = B_cnt σ10 ∧ σ15.1 13 = σ10.1 13 := by
  have f := frB_sign ch σ10
  rw [q] at f
  exact And.intro (B_FR_ct f) f.2
theorem B_cnt_le {σ : ex_S} (hI : B_INV σ) : B_cnt σ ≤ 30 := by
  have k0 := B_k0 hI
  have k1 := B_k1 hI
  have k2 := B_k2 hI
  have n := B_nb_le (σ.1 13)
  unfold B_cnt
  omega
theorem B_cnt_lo {σ : ex_S} (hI : B_INV σ) : 0 ≤ B_cnt σ := by
  have k0 := B_k0 hI
  have k1 := B_k1 hI
  have k2 := B_k2 hI
  have n := B_nb_le (σ.1 13)
  unfold B_cnt
  omega
theorem B_on0 {σ : ex_S} : B_ON (B_next (B_clears (sI 13 (0 : Int32) σ))) := by
  have f := (frB_next (B_clears (sI 13 (0 : Int32) σ))).2
  unfold B_ON
  rw [f]
  show 0 ≤ (0 : Int32).toInt ∧ (0 : Int32).toInt ≤ 7
  decide
theorem B_INV_0 {σ : ex_S} (h : 0 ≤ (σ.1 1).toInt ∧ (σ.1 1).toInt ≤ 940) : B_INV (B_clears (sI 13 (0 : Int32) (sI 12 (0 : Int32) (sI 9 (0 : Int32) (B_taken (900 : Int32) (sI 0 (0 : Int32) σ)))))) := by
  unfold B_INV
  show (0 ≤ (σ.1 1).toInt ∧ (σ.1 1).toInt ≤ 940) ∧ (0 ≤ (0 : Int32).toInt ∧ (0 : Int32).toInt ≤ (σ.1 1).toInt) ∧ (0 ≤ (0 : Int32).toInt ∧ (0 : Int32).toInt ≤ 7) ∧ (0 ≤ (0 : Int32).toInt ∧ (0 : Int32).toInt ≤ 12) ∧ (0 ≤ (0 : Int32).toInt ∧ (0 : Int32).toInt ≤ 8)
  have e0 : (0 : Int32).toInt = 0 := by decide
  rw [e0]
  omega
