/-! THE LAW'S FRAME -/
theorem RS.cl {h h' : zH} (q : RS h) (hD : ∀ c p j, c < 50 → c ≠ 12 → zhD h' c p j = zhD h c p j) (hN : zhN h' = zhN h) (hL : zhL h' = zhL h) : RS h' := ⟨by rw [hN]; exact q.N0, by rw [hN]; exact q.N1, by rw [hN]; exact q.N20, by rw [hN]; exact q.N21, by rw [hN]; exact q.N2, by rw [hN]; exact q.N22, by rw [hN]; exact q.N23, by rw [hN]; exact q.N24, by rw [hN]; exact q.N25, by rw [hN]; exact q.N3, by rw [hN]; exact q.N26, by rw [hN]; exact q.N27, by rw [hN]; exact q.N4, by rw [hN]; exact q.N5, by rw [hN]; exact q.N28, by rw [hN]; exact q.N29, by rw [hN]; exact q.N30, by rw [hN]; exact q.N31, by rw [hN]; exact q.N51, by rw [hN]; exact q.N52, by rw [hL]; exact q.L20_0, by rw [hL]; exact q.L21_0, by rw [hL]; exact q.L22_0, by rw [hL]; exact q.L23_0, by rw [hL]; exact q.L24_0, by rw [hL]; exact q.L25_0, by rw [hL]; exact q.L26_0, by rw [hL]; exact q.L26_1, by rw [hL]; exact q.L27_0, by rw [hL]; exact q.L27_1, by rw [hL]; exact q.L28_0, by rw [hL]; exact q.L29_0, by rw [hL]; exact q.L30_0, by rw [hL]; exact q.L31_0, by rw [hL]; exact q.L51_0, by rw [hL]; exact q.L52_0, (hD 0 0 0 (by decide) (by decide)).trans q.D0_0_0, (hD 0 0 1 (by decide) (by decide)).trans q.D0_0_1, (hD 0 0 2 (by decide) (by decide)).trans q.D0_0_2, (hD 1 0 0 (by decide) (by decide)).trans q.D1_0_0, (hD 1 0 1 (by decide) (by decide)).trans q.D1_0_1, (hD 2 0 0 (by decide) (by decide)).trans q.D2_0_0, (hD 2 0 1 (by decide) (by decide)).trans q.D2_0_1, (hD 2 0 2 (by decide) (by decide)).trans q.D2_0_2, (hD 2 0 3 (by decide) (by decide)).trans q.D2_0_3, (hD 2 0 6 (by decide) (by decide)).trans q.D2_0_6, (hD 2 0 7 (by decide) (by decide)).trans q.D2_0_7, (hD 23 0 0 (by decide) (by decide)).trans q.D23_0_0, (hD 23 0 1 (by decide) (by decide)).trans q.D23_0_1, (hD 3 0 0 (by decide) (by decide)).trans q.D3_0_0, (hD 3 0 1 (by decide) (by decide)).trans q.D3_0_1, (hD 3 1 0 (by decide) (by decide)).trans q.D3_1_0, (hD 3 1 1 (by decide) (by decide)).trans q.D3_1_1, (hD 5 0 0 (by decide) (by decide)).trans q.D5_0_0, (hD 5 0 1 (by decide) (by decide)).trans q.D5_0_1, (hD 5 0 2 (by decide) (by decide)).trans q.D5_0_2, (hD 5 0 3 (by decide) (by decide)).trans q.D5_0_3, fun i hi => (hD 30 0 i (by decide) (by decide)).trans (q.T i hi)⟩
theorem RD.cl {h h' : zH} (q : RD h) (hD : ∀ c p j, c < 50 → c ≠ 12 → zhD h' c p j = zhD h c p j) (hN : zhN h' = zhN h) (hL : zhL h' = zhL h) : RD h' := by
  unfold RD at q ⊢
  simp only [hN, hL, fun p => hD 7 p 2 (by decide) (by decide), fun p => hD 9 p 16 (by decide) (by decide), fun p => hD 9 p 17 (by decide) (by decide), fun p => hD 6 p 1 (by decide) (by decide), fun p => hD 6 p 0 (by decide) (by decide), fun p => hD 10 p 2 (by decide) (by decide), fun p => hD 10 p 3 (by decide) (by decide), fun p => hD 10 p 4 (by decide) (by decide), fun p => hD 10 p 5 (by decide) (by decide), fun p => hD 10 p 6 (by decide) (by decide), fun p => hD 10 p 7 (by decide) (by decide), fun p => hD 11 p 2 (by decide) (by decide), fun p => hD 11 p 3 (by decide) (by decide), fun p => hD 11 p 4 (by decide) (by decide)]
  exact q
theorem RKd_cl {c j : Nat} (h : RKd c j = true) : c < 50 ∧ c ≠ 12 := by
  unfold RKd at h
  split at h
  all_goals first | exact ⟨by decide, by decide⟩ | cases h
theorem RLd_cl {c j : Nat} (h : RLd c j = true) : c < 50 ∧ c ≠ 12 := by
  unfold RLd at h
  split at h
  all_goals first | exact ⟨by decide, by decide⟩ | cases h
theorem RMd_cl {c j : Nat} (h : RMd c j = true) : c < 50 ∧ c ≠ 12 := by
  unfold RMd at h
  split at h
  all_goals first | exact ⟨by decide, by decide⟩ | cases h
theorem BHd_cl {c j : Nat} (h : BHd c j = true) : c < 50 ∧ c ≠ 12 := by
  unfold BHd at h
  split at h
  all_goals first | exact ⟨by decide, by decide⟩ | cases h
theorem THd_cl {c j : Nat} (h : THd c j = true) : c < 50 ∧ c ≠ 12 := by
  unfold THd at h
  split at h
  all_goals first | exact ⟨by decide, by decide⟩ | cases h
theorem TDd_cl {c j : Nat} (h : TDd c j = true) : c < 50 ∧ c ≠ 12 := by
  unfold TDd at h
  split at h
  all_goals first | exact ⟨by decide, by decide⟩ | cases h
theorem GHd_cl {c j : Nat} (h : GHd c j = true) : c < 50 ∧ c ≠ 12 := by
  unfold GHd at h
  split at h
  all_goals first | exact ⟨by decide, by decide⟩ | cases h
theorem SHd_cl {c j : Nat} (h : SHd c j = true) : c < 50 ∧ c ≠ 12 := by
  unfold SHd at h
  split at h
  all_goals first | exact ⟨by decide, by decide⟩ | cases h
theorem USd_cl {c j : Nat} (h : USd c j = true) : c < 50 ∧ c ≠ 12 := by
  unfold USd at h
  split at h
  all_goals first | exact ⟨by decide, by decide⟩ | cases h
theorem UGd_cl {c j : Nat} (h : UGd c j = true) : c < 50 ∧ c ≠ 12 := by
  unfold UGd at h
  split at h
  all_goals first | exact ⟨by decide, by decide⟩ | cases h
theorem ULd_cl {c j : Nat} (h : ULd c j = true) : c < 50 ∧ c ≠ 12 := by
  unfold ULd at h
  split at h
  all_goals first | exact ⟨by decide, by decide⟩ | cases h
theorem TBd_cl {c j : Nat} (h : TBd c j = true) : c < 50 ∧ c ≠ 12 := by
  unfold TBd at h
  split at h
  all_goals first | exact ⟨by decide, by decide⟩ | cases h
theorem TLd_cl {c j : Nat} (h : TLd c j = true) : c < 50 ∧ c ≠ 12 := by
  unfold TLd at h
  split at h
  all_goals first | exact ⟨by decide, by decide⟩ | cases h
section
variable {ρ : Type} {h h' : zH} {A B B' : zA} {K L n : Nat} {bc tc gc : Nat → Nat} {N M : Int}
/-- what lies outside the class's kinds may change -/
theorem RR.cl (q : RR A h K L bc tc gc n B N M) (hD : ∀ c p j, c < 50 → c ≠ 12 → zhD h' c p j = zhD h c p j) (hN : zhN h' = zhN h) (hL : zhL h' = zhL h) (hC : zhC h' = zhC h) (hS : zhS h' = zhS h) (nrh : RH h' B') : RR A h' K L bc tc gc n B' N M := ⟨q.rs.cl hD hN hL, q.rd.cl hD hN hL, q.rk.fr (fun _ _ _ => rfl) (fun c p j z => hD c p j (RKd_cl z).1 (RKd_cl z).2) hN, q.rl.fr (fun _ _ _ => rfl) (fun c p j z => hD c p j (RLd_cl z).1 (RLd_cl z).2) hN, q.rm.fr (fun _ _ _ => rfl) (fun c p j z => hD c p j (RMd_cl z).1 (RMd_cl z).2) hN, q.rc, q.bi, q.bh.fr (fun _ _ _ => rfl) (fun c p j z => hD c p j (BHd_cl z).1 (BHd_cl z).2) hN hL, q.th.fr (fun _ _ _ => rfl) (fun c p j z => hD c p j (THd_cl z).1 (THd_cl z).2) hN hL, q.td.fr (fun _ _ _ => rfl) (fun c p j z => hD c p j (TDd_cl z).1 (TDd_cl z).2) hN hL, q.gh.fr (fun _ _ _ => rfl) (fun c p j z => hD c p j (GHd_cl z).1 (GHd_cl z).2) hN hL, q.sh.fr (fun _ _ _ => rfl) (fun c p j z => hD c p j (SHd_cl z).1 (SHd_cl z).2) hN hL, q.us.fr (fun _ _ _ => rfl) (fun c p j z => hD c p j (USd_cl z).1 (USd_cl z).2) hN hL, q.ug.fr (fun _ _ _ => rfl) (fun c p j z => hD c p j (UGd_cl z).1 (UGd_cl z).2) hN hL, q.ul.fr (fun _ _ _ => rfl) (fun c p j z => hD c p j (ULd_cl z).1 (ULd_cl z).2) hN hL, q.su, q.ta, q.tb.fr (fun _ _ _ => rfl) (fun c p j z => hD c p j (TBd_cl z).1 (TBd_cl z).2) hN hL, q.tl.fr (fun _ _ _ => rfl) (fun c p j z => hD c p j (TLd_cl z).1 (TLd_cl z).2) hN hL, q.bd, nrh, q.iv, q.rn.fr (fun _ _ _ => rfl) hC hS⟩
def zBB (B A : zA) : zA := fun c j => if zmk c = true then A c j else B c j
theorem zmk5_of {c : Nat} (h : zmk c = true) : zmk5 c = true := by
  unfold zmk at h
  unfold zmk5
  rw [Bool.or_eq_true] at h
  rw [Bool.or_eq_true, Bool.or_eq_true]
  exact h.elim (fun z => Or.inl (Or.inl z)) Or.inr
theorem RH.mh (q : RH h B) : RH (mh h A) (zBB B A) := by
  refine ⟨fun c j hc => ?_, fun c hc => q.2 c hc⟩
  unfold zBB
  cases hz : zmk c with
  | true => rw [if_pos rfl]; exact mh_D hz
  | false => rw [if_neg (by decide), mh_cl hz]; exact q.1 c j hc
theorem RH.out (q : RH h B) {c : Nat} {v : Int} (hc : c = 51 ∨ c = 52) : RH (zset h c 0 0 v) (au B c 0 v) := by
  refine ⟨fun c' j hc' => ?_, fun c' hc' => ?_⟩
  · rw [zD_set]
    unfold au
    by_cases hz : c' = c ∧ j = 0
    · rw [if_pos ⟨hz.1, rfl, hz.2⟩, if_pos hz]
    · rw [if_neg (fun z => hz ⟨z.1, z.2.2⟩), if_neg hz]
      exact q.1 c' j hc'
  · rw [au_ne (show 53 ≠ c by omega)]
    exact q.2 c' hc'
theorem mk_big {c : Nat} (h : c < 50) (h2 : c ≠ 12) : zmk c = false := by
  unfold zmk
  rw [Bool.or_eq_false_iff]
  refine ⟨?_, ?_⟩
  · cases hb : Nat.beq c 12 with
    | false => rfl
    | true => exact absurd (Nat.eq_of_beq_eq_true hb) h2
  · rw [Bool.and_eq_false_iff]
    refine Or.inl ?_
    cases hb : Nat.ble 60 c with
    | false => rfl
    | true =>
      have := Nat.le_of_ble_eq_true hb
      omega
theorem RR.mh (q : RR A h K L bc tc gc n B N M) {A' : zA} : RR A (mh h A') K L bc tc gc n (zBB B A') N M := q.cl (fun c p j h1 h2 => mh_cl (mk_big h1 h2)) rfl rfl rfl rfl q.rh.mh
theorem RR.out (q : RR A h K L bc tc gc n B N M) {c : Nat} {v : Int} (hc : c = 51 ∨ c = 52) : RR A (zset h c 0 0 v) K L bc tc gc n (au B c 0 v) N M := q.cl (fun c' p j h1 h2 => by rw [zD_ne (by omega)]) rfl rfl rfl rfl (q.rh.out hc)
theorem RN.mono {A : zA} (q : RN A h L N M) {N2 M2 : Int} (hN : N ≤ N2) (hM : M ≤ M2) : RN A h L N2 M2 := ⟨Int.le_trans q.1 hN, Int.le_trans q.2 hM⟩
theorem BD.mono {A : zA} (q : BD A n) {n2 : Nat} (h : n ≤ n2) : BD A n2 := by
  refine ⟨fun j hj => ?_, fun b hb => ?_⟩
  · obtain ⟨y1, y2, y3⟩ := q.1 j hj
    exact ⟨y1, by omega, fun z => by have := y3 z; omega⟩
  · have := q.2 b hb
    omega
theorem RR.mono (q : RR A h K L bc tc gc n B N M) {n2 : Nat} {N2 M2 : Int} (hn : n ≤ n2) (hN : N ≤ N2) (hM : M ≤ M2) : RR A h K L bc tc gc n2 B N2 M2 := ⟨q.rs, q.rd, q.rk, q.rl, q.rm, q.rc, q.bi, q.bh, q.th, q.td, q.gh, q.sh, q.us, q.ug, q.ul, q.su, q.ta, q.tb, q.tl, q.bd.mono hn, q.rh, q.iv, q.rn.mono hN hM⟩
/-- the model stands -/
theorem zmks_in {c : Nat} (h : c ∈ zmks) : zmk c = true ∧ c ≠ 12 ∧ c ≠ 50 ∧ c ≠ 51 ∧ c ≠ 52 := by
  have key : ∀ c ∈ zmks, zmk c = true ∧ c ≠ 12 ∧ c ≠ 50 ∧ c ≠ 51 ∧ c ≠ 52 := by decide +kernel
  exact key c h
theorem zmfs_pt {k : Nat} (h : k ∈ zmfs) : zpt k = true ∧ k ≠ 0 := by
  have key : ∀ k ∈ zmfs, zpt k = true ∧ k ≠ 0 := by decide +kernel
  exact key k h
theorem zmok_rh (q : RH h B) (hb : ∀ k ∈ zmfs, B 12 k = 0) : zmok h = true := by
  refine zmok_mk (q.2 12 rfl).1 (fun c hc => ?_) (fun k hk => by rw [q.1 12 k rfl]; exact hb k hk)
  obtain ⟨m1, m2, m3, m4, m5⟩ := zmks_in hc
  obtain ⟨y1, y2⟩ := q.2 c (zmk5_of m1)
  have y3 := y2 m2
  rw [if_neg m3, if_neg (by omega)] at y3
  exact ⟨y1, by omega⟩
/-- the heap holds the model's rows -/
theorem mh_own {A : zA} (hb : ∀ c j, zmk c = true → zhD h c 0 j = A c j) : mh h A = h := by
  conv => rhs; rw [← mh_ma h]
  unfold mh
  refine congrArg (fun f => (h.1, h.2.1, f, h.2.2.2)) (funext fun c' => funext fun p' => funext fun j' => ?_)
  by_cases hz : zmk c' = true ∧ p' = 0
  · rw [if_pos hz, if_pos hz]
    exact (hb c' j' hz.1).symm
  · rw [if_neg hz, if_neg hz]
/-- a place of the script -/
theorem z50 (q : RH h B) {len a i : Nat} (hlen : B 53 0 = (len : Int)) (ha : a + i < len) (hl : len ≤ 3072) {F : Nat → Nat → Option ρ} : (zob h 50 ((0 : Nat) : Int) fun p => zix (zhL h 50 p) (wr ((a : Int) + (i : Int))) fun j => F p j) = F 0 (a + i) := by
  obtain ⟨y1, y2⟩ := q.2 50 rfl
  have y3 := y2 (by decide)
  rw [if_pos rfl, hlen] at y3
  rw [zob_n (show 0 < zhN h 50 by omega), show zhL h 50 0 = len by omega, wr_nn (by omega), zix_n ha]
theorem z51 (q : RH h B) {c : Nat} (hc : c = 51 ∨ c = 52) {F : Nat → Nat → Option ρ} : (zob h c ((0 : Nat) : Int) fun p => zix (zhL h c p) 0 fun j => F p j) = F 0 0 := by
  obtain ⟨y1, y2⟩ := q.2 c (by rcases hc with rfl | rfl <;> rfl)
  have y3 := y2 (by omega)
  rw [if_neg (by omega), if_pos hc] at y3
  rw [zob_n (show 0 < zhN h c by omega), show zhL h c 0 = 1 by omega]
  exact zix_n (i := 0) (by decide)
theorem z12 (q : RH h B) {F : Nat → Option ρ} : zob h 12 ((0 : Nat) : Int) F = F 0 := zob_n (by rw [(q.2 12 rfl).1]; decide)
theorem zmch1 (q : RH h B) (hb : ∀ k ∈ zmfs, B 12 k = 0) {x : Option ρ} : zmch h ((0 : Nat) : Int) x = x := if_pos ⟨rfl, zmok_rh q hb⟩
theorem zl_eq {x : Int} : zlcmp x x = 0 := by
  unfold zlcmp
  rw [if_neg (by omega), if_pos rfl]
end
