/-! ===== THE REFERENCE'S ROWS ALONE MATTER TO IT ===== -/
/-- the reference's rows out of N, all others out of K -/
def MG (N K : WNm) : WNm := fun i => if i ≤ 52 then N i else K i
theorem MG_at (N K : WNm) {i : Nat} (h : i ≤ 52) : MG N K i = N i := if_pos h
theorem MG_u2 (N K : WNm) {i : Nat} (h : i ≤ 52) (j : Nat) (v : Int32) : u2 (MG N K) i j v = MG (u2 N i j v) K := by
  funext a b
  by_cases ha : a ≤ 52
  · rw [MG_at _ _ ha]
    unfold u2
    rw [MG_at _ _ ha]
  · have e : ¬ a = i := by omega
    unfold u2 MG
    rw [if_neg ha, if_neg ha, if_neg (fun z => e z.1)]
theorem MG_self (N : WNm) : MG N N = N := by funext i; unfold MG; split <;> rfl
abbrev MP (p : Int32 × WNm) (K : WNm) : Int32 × WNm := (p.1, MG p.2 K)
theorem MP_ite {P : Prop} [Decidable P] (a b : Int32 × WNm) (K : WNm) : MP (if P then a else b) K = if P then MP a K else MP b K := by split <;> rfl
theorem MG_ite {P : Prop} [Decidable P] (a b K : WNm) : MG (if P then a else b) K = if P then MG a K else MG b K := by split <;> rfl
section
variable (N K : WNm)
theorem c_purse (p v : Int32) : mPurse (MG N K) p v = MP (mPurse N p v) K := by unfold mPurse; rw [MP_ite, MP_ite]; simp [MG_at, MG_u2]
theorem c_wind (d w : Int32) : mWind (MG N K) d w = MP (mWind N d w) K := by unfold mWind; rw [MP_ite, MP_ite]; simp [MG_at, MG_u2]
theorem c_galley (r b s h : Int32) : mGalley (MG N K) r b s h = MP (mGalley N r b s h) K := by unfold mGalley; rw [MP_ite, MP_ite, MP_ite, MP_ite, MP_ite]; simp [MG_at, MG_u2]
theorem c_bid (x p c : Int32) : mBid (MG N K) x p c = MP (mBid N x p c) K := by unfold mBid; simp only [MP_ite]; simp [MG_at, MG_u2]
theorem c_let3 (x : Int32) : mLet3 (MG N K) x = MG (mLet3 N x) K := by unfold mLet3; simp [MG_at, MG_u2]
theorem c_let (x : Int32) : mLet (MG N K) x = MP (mLet N x) K := by unfold mLet; simp only [MP_ite, c_let3]; simp [MG_at, MG_u2]
theorem c_part1 (x a n : Int32) : mPart1 (MG N K) x a n = MG (mPart1 N x a n) K := by unfold mPart1; simp [MG_at, MG_u2]
theorem c_part2 (x a b n : Int32) : mPart2 (MG N K) x a b n = MG (mPart2 N x a b n) K := by unfold mPart2; simp [MG_at, MG_u2, c_part1]
theorem c_part (x a b n : Int32) : mPart (MG N K) x a b n = MP (mPart N x a b n) K := by unfold mPart; simp only [MP_ite, c_part2]; simp [MG_at, MG_u2]
theorem c_coins (w : Int32) : mCoins (MG N K) w = MP (mCoins N w) K := by unfold mCoins; simp only [MP_ite]; simp [MG_at]
theorem c_start (x : Int32) : mStart (MG N K) x = MP (mStart N x) K := by unfold mStart; simp only [MP_ite]; simp [MG_at, MG_u2]
theorem c_known (k : Int32) (p : Nat) : ∀ n, mKnown (MG N K) k p n = mKnown N k p n
  | 0 => rfl
  | n + 1 => by rw [mKnown, mKnown, c_known k p n]; simp [MG_at]
theorem c_knownP (k p : Int32) : mKnownP (MG N K) k p = MP (mKnownP N k p) K := by unfold mKnownP; simp only [MP_ite, c_known]; simp [MG_at]
theorem c_balesAs (x : Int32) (n : Nat) : mBalesAs (MG N K) x n = mBalesAs N x n := by unfold mBalesAs; simp [MG_at]
theorem c_balesOn (x : Int32) (n : Nat) : mBalesOn (MG N K) x n = mBalesOn N x n := by unfold mBalesOn; simp [MG_at]
theorem c_roomOn (x : Int32) (n : Nat) : mRoomOn (MG N K) x n = mRoomOn N x n := by unfold mRoomOn; simp [MG_at]
theorem c_weightOn (x : Int32) (P : Prop) [Decidable P] (n : Nat) : mWeightOn (MG N K) x P n = mWeightOn N x P n := by unfold mWeightOn; simp [MG_at]
theorem c_inPort (x : Int32) (n : Nat) : mInPort (MG N K) x n = mInPort N x n := by unfold mInPort; simp [MG_at]
theorem c_becomes (b : Nat) (w : Int32) : mBecomes (MG N K) b w = MG (mBecomes N b w) K := by unfold mBecomes; simp [MG_at, MG_u2]
theorem c_about (b w : Int32) : mAbout (MG N K) b w = MP (mAbout N b w) K := by unfold mAbout; simp only [MP_ite]; simp [MG_at]
theorem c_count (w : Int32) : mCount (MG N K) w = MP (mCount N w) K := by unfold mCount; simp only [MP_ite, c_balesAs]; simp [MG_at, c_balesAs]
theorem c_ship (x w : Int32) : mShip (MG N K) x w = MP (mShip N x w) K := by unfold mShip; simp only [MP_ite, c_balesOn, c_roomOn, c_weightOn]; simp [MG_at, c_balesOn, c_roomOn, c_weightOn]
theorem c_baleN (a b c d : Int32) : mBaleN (MG N K) a b c d = MG (mBaleN N a b c d) K := by unfold mBaleN; simp [MG_at, MG_u2]
theorem c_bale (a b c d : Int32) : mBale (MG N K) a b c d = MP (mBale N a b c d) K := by unfold mBale; simp only [MP_ite, c_baleN]; simp [MG_at]
theorem c_port1 (x : Int32) : mPort1 (MG N K) x = MG (mPort1 N x) K := by unfold mPort1; simp [MG_at, MG_u2]
theorem c_port2 (x : Int32) : mPort2 (MG N K) x = MG (mPort2 N x) K := by unfold mPort2; simp [MG_at, MG_u2, c_port1]
theorem c_port3 (x : Int32) : mPort3 (MG N K) x = MG (mPort3 N x) K := by unfold mPort3; simp [MG_at, MG_u2, c_port2]
theorem c_portOk (x : Int32) : mPortOk (MG N K) x = MP (mPortOk N x) K := by unfold mPortOk; simp only [MP_ite, c_port3]; simp [MG_at]
theorem c_port (x : Int32) : mPort (MG N K) x = MP (mPort N x) K := by unfold mPort; simp only [MP_ite, c_portOk]; simp [MG_at]
theorem c_left (x : Int32) : ∀ n, mLeft (MG N K) x n = mLeft N x n
  | 0 => rfl
  | n + 1 => by rw [mLeft, mLeft, c_left x n]; simp [MG_at]
theorem c_parts (x p : Int32) : mParts (MG N K) x p = MP (mParts N x p) K := by unfold mParts; simp only [MP_ite, c_left]; simp [MG_at]
theorem c_feedN (v : Int32) : ∀ n, mFeedN (MG N K) v n = MG (mFeedN N v n) K
  | 0 => rfl
  | n + 1 => by rw [mFeedN, mFeedN, c_feedN v n]; simp [MG_at, MG_u2]
theorem c_feed (n v : Int32) : mFeed (MG N K) n v = MP (mFeed N n v) K := by unfold mFeed; simp only [MP_ite, c_feedN]; simp [MG_at]
theorem c_ofBale (w b : Int32) : mOfBale (MG N K) w b = mOfBale N w b := by unfold mOfBale; simp [MG_at]
theorem c_value (w k x b : Int32) : mValue (MG N K) w k x b = mValue N w k x b := by unfold mValue; simp [MG_at, c_inPort, c_weightOn, c_ofBale]
theorem c_ev (s0 : Nat) (val : Int32 → Int32) : ∀ n, mEv (MG N K) s0 val n = mEv N s0 val n
  | 0 => rfl
  | n + 1 => by rw [mEv, mEv, c_ev s0 val n]; simp [MG_at]
theorem c_says (k x b : Int32) : mSays (MG N K) k x b = mSays N k x b := by unfold mSays; simp [MG_at, c_known, c_ev, c_value]
theorem c_saysP (k x b : Int32) : mSaysP (MG N K) k x b = mSaysP N k x b := by unfold mSaysP; simp [MG_at, c_says]
theorem c_giveP (f : Int32) (a : Nat) : ∀ n, mGiveP (MG N K) f a n = MG (mGiveP N f a n) K
  | 0 => rfl
  | n + 1 => by rw [mGiveP, mGiveP, c_giveP f a n]; simp [MG_at, MG_u2]
theorem c_giveL (f : Int32) (a : Nat) : ∀ n, mGiveL (MG N K) f a n = mGiveL N f a n
  | 0 => rfl
  | n + 1 => by rw [mGiveL, mGiveL, c_giveL f a n, c_giveP]; simp [MG_at]
theorem c_give3 (k a : Nat) : mGive3 (MG N K) k a = MG (mGive3 N k a) K := by unfold mGive3; simp [MG_at, MG_u2, c_becomes]
theorem c_give (k a : Nat) : mGive (MG N K) k a = MG (mGive N k a) K := by unfold mGive; simp [MG_at, MG_u2, c_give3, c_giveP, c_giveL]
theorem c_more (a : Nat) : mMore (MG N K) a = mMore N a := by unfold mMore; simp [MG_at]
theorem c_sail1 (a : Nat) : mSail1 (MG N K) a = MG (mSail1 N a) K := by unfold mSail1; simp [MG_at, MG_u2, c_more]
theorem c_sail2 (a : Nat) : mSail2 (MG N K) a = MG (mSail2 N a) K := by unfold mSail2; simp [MG_at, MG_u2, c_sail1]
theorem c_sailB (a : Nat) (p : Int32) : ∀ n, mSailB (MG N K) a p n = MG (mSailB N a p n) K
  | 0 => rfl
  | n + 1 => by rw [mSailB, mSailB, c_sailB a p n]; simp only [MG_ite, c_give]; simp [MG_at]
theorem c_sail (nB a : Nat) : mSail (MG N K) nB a = MG (mSail N nB a) K := by unfold mSail; simp only [MG_ite, c_sail2, c_sailB, c_sail1]; simp [MG_at, c_sailB]
theorem c_stay (a : Nat) : mStay (MG N K) a = mStay N a := by unfold mStay; simp [c_says]
theorem c_leaves (nG a : Nat) : mLeaves (MG N K) nG a = mLeaves N nG a := by unfold mLeaves mHolds; simp [MG_at, c_stay, c_says]
theorem c_wish (a b : Nat) : mWish (MG N K) a b = mWish N a b := by unfold mWish; simp [MG_at, c_says]
theorem c_load1 (nB a j : Nat) : mLoad1 (MG N K) nB a j = MG (mLoad1 N nB a j) K := by unfold mLoad1; simp only [MG_ite, c_roomOn, c_weightOn, c_becomes]; simp [MG_at, MG_u2]
end
theorem c_load (K : WNm) (ω : Nat → Int32) (nB a : Nat) : ∀ f τ L, mLoad ω nB a f τ (MG L K) = MG (mLoad ω nB a f τ L) K
  | 0, _, _ => rfl
  | f + 1, τ, L => by
    rw [mLoad, mLoad]
    cases best ω (fun b => τ b = 0) nB with
    | none => rfl
    | some j =>
      simp only
      rw [c_load1, c_load K ω nB a f]
theorem c_goEnd (L K : WNm) (p : Int32) (a : Nat) : mGoEnd (MG L K) p a = MG (mGoEnd L p a) K := by unfold mGoEnd; simp [MG_at, MG_u2]
theorem c_go (N K : WNm) (nB a : Nat) : mGo (MG N K) nB a = MG (mGo N nB a) K := by
  unfold mGo
  have e : mWish (MG N K) a = mWish N a := funext (c_wish N K a)
  rw [MG_ite, e, c_load, c_goEnd, MG_at _ _ (by decide), MG_at _ _ (by decide), MG_u2 _ _ (by decide)]
theorem cif_MG {P : Prop} (a b K : WNm) : cif P (MG a K) (MG b K) = MG (cif P a b) K := by
  by_cases h : P
  · rw [cif_pos h, cif_pos h]
  · rw [cif_neg h, cif_neg h]
theorem c_dayG (N K : WNm) (nB nG : Nat) : ∀ a, mDayG (MG N K) nB nG a = MG (mDayG N nB nG a) K
  | 0 => rfl
  | a + 1 => by
    rw [mDayG, mDayG, c_dayG N K nB nG a, c_leaves, c_go, cif_MG, c_sail]
    simp only [MG_ite]
    simp [MG_at]
theorem c_days (N K : WNm) (nB nG : Nat) : ∀ k, mDays (MG N K) nB nG k = MG (mDays N nB nG k) K
  | 0 => rfl
  | k + 1 => by rw [mDays, mDays, c_days N K nB nG k, MG_u2 _ _ (by decide), c_dayG, MG_at _ _ (by decide)]
theorem c_day (N K : WNm) (n : Int32) : mDay (MG N K) n = MP (mDay N n) K := by unfold mDay; simp only [MP_ite, c_days]; simp [MG_at, c_days]
theorem c_all (N K : WNm) (x : Int32) : ∀ n, mAll (MG N K) x n = mAll N x n
  | 0 => by rw [mAll, mAll, MG_at _ _ (by decide)]
  | n + 1 => by rw [mAll, mAll, c_all N K x n]; simp [MG_at]
theorem c_throw1 (L K : WNm) (j : Nat) : mThrow1 (MG L K) j = MG (mThrow1 L j) K := by unfold mThrow1; simp [MG_at, MG_u2, c_becomes]
theorem c_heavy (L K : WNm) (x : Int32) (n : Nat) : mHeavy (MG L K) x n = mHeavy L x n := by unfold mHeavy; simp [MG_at]
theorem c_throw (K : WNm) (x w : Int32) (nB : Nat) : ∀ f ls gn L, mThrow x w nB f ls gn (MG L K) = MP (mThrow x w nB f ls gn L) K
  | 0, _, _, _ => rfl
  | f + 1, ls, gn, L => by
    rw [mThrow, mThrow, c_heavy, MP_ite]
    cases mHeavy L x nB with
    | none => rfl
    | some j =>
      simp only
      rw [c_throw1, c_throw K x w nB f]
      rfl
theorem c_shN (N K F : WNm) (x ls : Int32) (al : Int64) : ∀ n, mShN (MG N K) x ls al (MG F K) n = MG (mShN N x ls al F n) K
  | 0 => rfl
  | n + 1 => by rw [mShN, mShN, c_shN N K F x ls al n]; simp only [MG_ite]; simp [MG_at, MG_u2]
theorem c_shL (N K F : WNm) (x ls : Int32) (al : Int64) : ∀ n, mShL (MG N K) x ls al (MG F K) n = mShL N x ls al F n
  | 0 => rfl
  | n + 1 => by rw [mShL, mShL, c_shL N K F x ls al n, c_shN]; simp [MG_at]
theorem c_tossEnd (N K F : WNm) (x ls : Int32) (n : Nat) : mTossEnd (MG N K) x ls (MG F K) n = MG (mTossEnd N x ls F n) K := by
  unfold mTossEnd
  rw [c_all, c_shN, c_shL, MG_u2 _ _ (by decide), MG_at _ _ (by decide)]
theorem c_tossOk (N K : WNm) (x w : Int32) (nB : Nat) : mTossOk (MG N K) x w nB = MP (mTossOk N x w nB) K := by
  unfold mTossOk
  rw [c_throw, c_tossEnd]
theorem c_toss (N K : WNm) (x w : Int32) : mToss (MG N K) x w = MP (mToss N x w) K := by unfold mToss; simp only [MP_ite, c_balesOn, c_tossOk]; simp [MG_at, c_balesOn, c_tossOk]
