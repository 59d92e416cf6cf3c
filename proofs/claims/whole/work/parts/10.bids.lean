/-! the cells that the constructors make -/
theorem kd_X : kd_ 25165831 = 7 := rfl
theorem ln_X : ln_ 25165831 = 0 := rfl
theorem kd_ACT : kd_ 25428756 = 20 := rfl
theorem ln_ACT : ln_ 25428756 = 12 := rfl
theorem kd_REP : kd_ 25690901 = 21 := rfl
theorem ln_REP : ln_ 25690901 = 12 := rfl
theorem kd_FI : kd_ 25952258 = 2 := rfl
theorem ln_FI : ln_ 25952258 = 0 := rfl
theorem kd_BEST : kd_ 26230803 = 19 := rfl
theorem ln_BEST : ln_ 26230803 = 256 := rfl
theorem kd_PR : kd_ 26477264 = 16 := rfl
theorem ln_PR : ln_ 26477264 = 11 := rfl
theorem kd_PW : kd_ 26739411 = 19 := rfl
theorem ln_PW : ln_ 26739411 = 11 := rfl
theorem kd_PL : kd_ 27000838 = 6 := rfl
theorem ln_PL : ln_ 27000838 = 0 := rfl
theorem kd_MEM : kd_ 27263504 = 16 := rfl
theorem ln_MEM : ln_ 27263504 = 8 := rfl
theorem kd_CHG : kd_ 27529232 = 16 := rfl
theorem ln_CHG : ln_ 27529232 = 64 := rfl
theorem kd_BEH : kd_ 27918352 = 16 := rfl
theorem ln_BEH : ln_ 27918352 = 2048 := rfl
theorem kd_SEQ : kd_ 28049936 = 16 := rfl
theorem ln_SEQ : ln_ 28049936 = 8 := rfl
theorem kd_LE : kd_ 28311555 = 3 := rfl
theorem ln_LE : ln_ 28311555 = 0 := rfl
theorem kd_LI : kd_ 28586512 = 16 := rfl
theorem ln_LI : ln_ 28586512 = 200 := rfl
theorem kd_LD : kd_ 28848656 = 16 := rfl
theorem ln_LD : ln_ 28848656 = 200 := rfl
theorem kd_LH : kd_ 29110800 = 16 := rfl
theorem ln_LH : ln_ 29110800 = 200 := rfl
theorem kd_LL : kd_ 29361424 = 16 := rfl
theorem ln_LL : ln_ 29361424 = 20 := rfl
theorem kd_TP : kd_ 29673489 = 17 := rfl
theorem ln_TP : ln_ 29673489 = 800 := rfl
theorem kd_RD : kd_ 29884421 = 5 := rfl
theorem ln_RD : ln_ 29884421 = 0 := rfl
theorem kd_TK : kd_ 30197846 = 22 := rfl
theorem ln_TK : ln_ 30197846 = 801 := rfl
theorem kd_PLC : kd_ 30459984 = 16 := rfl
theorem ln_PLC : ln_ 30459984 = 801 := rfl
theorem kd_NUM : kd_ 30722128 = 16 := rfl
theorem ln_NUM : ln_ 30722128 = 801 := rfl
theorem kd_G1 : kd_ 30932993 = 1 := rfl
theorem ln_G1 : ln_ 30932993 = 0 := rfl
theorem kd_W1 : kd_ 31195798 = 22 := rfl
theorem ln_W1 : ln_ 31195798 = 10 := rfl
theorem kd_N1 : kd_ 31457936 = 16 := rfl
theorem ln_N1 : ln_ 31457936 = 10 := rfl
theorem kd_P1 : kd_ 31720080 = 16 := rfl
theorem ln_P1 : ln_ 31720080 = 10 := rfl
theorem kd_T1 : kd_ 32032784 = 16 := rfl
theorem ln_T1 : ln_ 32032784 = 800 := rfl
theorem kd_G2 : kd_ 32243713 = 1 := rfl
theorem ln_G2 : ln_ 32243713 = 0 := rfl
theorem kd_W2 : kd_ 32506518 = 22 := rfl
theorem ln_W2 : ln_ 32506518 = 10 := rfl
theorem kd_N2 : kd_ 32768656 = 16 := rfl
theorem ln_N2 : ln_ 32768656 = 10 := rfl
theorem kd_P2 : kd_ 33030800 = 16 := rfl
theorem ln_P2 : ln_ 33030800 = 10 := rfl
theorem kd_T2 : kd_ 33343504 = 16 := rfl
theorem ln_T2 : ln_ 33343504 = 800 := rfl
theorem kd_M : kd_ 33554440 = 8 := rfl
theorem ln_M : ln_ 33554440 = 0 := rfl
theorem kd_mFee : kd_ 33817360 = 16 := rfl
theorem ln_mFee : ln_ 33817360 = 12 := rfl
theorem kd_mBirth : kd_ 34079504 = 16 := rfl
theorem ln_mBirth : ln_ 34079504 = 12 := rfl
theorem kd_mJoined : kd_ 34341648 = 16 := rfl
theorem ln_mJoined : ln_ 34341648 = 12 := rfl
theorem kd_mGuest : kd_ 34603794 = 18 := rfl
theorem ln_mGuest : ln_ 34603794 = 12 := rfl
theorem kd_mIn : kd_ 34865938 = 18 := rfl
theorem ln_mIn : ln_ 34865938 = 12 := rfl
theorem kd_mGrade : kd_ 35136528 = 16 := rfl
theorem ln_mGrade : ln_ 35136528 = 144 := rfl
theorem kd_mMin : kd_ 35390224 = 16 := rfl
theorem ln_mMin : ln_ 35390224 = 12 := rfl
theorem kd_mTak : kd_ 35652368 = 16 := rfl
theorem ln_mTak : ln_ 35652368 = 12 := rfl
theorem kd_mSto : kd_ 35914512 = 16 := rfl
theorem ln_mSto : ln_ 35914512 = 12 := rfl
theorem kd_mWei : kd_ 36176656 = 16 := rfl
theorem ln_mWei : ln_ 36176656 = 12 := rfl
theorem kd_mRoles : kd_ 36438800 = 16 := rfl
theorem ln_mRoles : ln_ 36438800 = 12 := rfl
theorem kd_mKinds : kd_ 36706320 = 16 := rfl
theorem ln_mKinds : ln_ 36706320 = 96 := rfl
theorem kd_mLeast : kd_ 36968464 = 16 := rfl
theorem ln_mLeast : ln_ 36968464 = 96 := rfl
theorem kd_mNeed : kd_ 37230610 = 18 := rfl
theorem ln_mNeed : ln_ 37230610 = 96 := rfl
theorem kd_mDM : kd_ 37487376 = 16 := rfl
theorem ln_mDM : ln_ 37487376 = 12 := rfl
theorem kd_mBoth : kd_ 37751056 = 16 := rfl
theorem ln_mBoth : ln_ 37751056 = 36 := rfl
theorem kd_mHand : kd_ 38011408 = 16 := rfl
theorem ln_mHand : ln_ 38011408 = 8 := rfl
theorem kd_mOld : kd_ 38273552 = 16 := rfl
theorem ln_mOld : ln_ 38273552 = 8 := rfl
theorem kd_mHas : kd_ 38535696 = 16 := rfl
theorem ln_mHas : ln_ 38535696 = 8 := rfl
theorem kd_mTab : kd_ 38813712 = 16 := rfl
theorem ln_mTab : ln_ 38813712 = 256 := rfl
theorem kd_mFur : kd_ 39075856 = 16 := rfl
theorem ln_mFur : ln_ 39075856 = 256 := rfl
theorem kd_mOrder : kd_ 39322128 = 16 := rfl
theorem ln_mOrder : ln_ 39322128 = 8 := rfl
theorem kd_mTried : kd_ 39584272 = 16 := rfl
theorem ln_mTried : ln_ 39584272 = 8 := rfl
theorem kd_mFI : kd_ 39858704 = 16 := rfl
theorem ln_mFI : ln_ 39858704 = 200 := rfl
theorem kd_mFD : kd_ 40120848 = 16 := rfl
theorem ln_mFD : ln_ 40120848 = 200 := rfl
theorem kd_mFH : kd_ 40382992 = 16 := rfl
theorem ln_mFH : ln_ 40382992 = 200 := rfl
theorem kd_mTape : kd_ 40683537 = 17 := rfl
theorem ln_mTape : ln_ 40683537 = 800 := rfl
theorem kd_mText : kd_ 40945681 = 17 := rfl
theorem ln_mText : ln_ 40945681 = 800 := rfl
theorem kd_mKind : kd_ 41157264 = 16 := rfl
theorem ln_mKind : ln_ 41157264 = 10 := rfl
theorem kd_mAmount : kd_ 41419408 = 16 := rfl
theorem ln_mAmount : ln_ 41419408 = 10 := rfl
theorem kd_mBegins : kd_ 41681552 = 16 := rfl
theorem ln_mBegins : ln_ 41681552 = 10 := rfl
theorem kd_mNKind : kd_ 41943696 = 16 := rfl
theorem ln_mNKind : ln_ 41943696 = 10 := rfl
theorem kd_mNAmount : kd_ 42205840 = 16 := rfl
theorem ln_mNAmount : ln_ 42205840 = 10 := rfl
theorem kd_mNBegins : kd_ 42467984 = 16 := rfl
theorem ln_mNBegins : ln_ 42467984 = 10 := rfl
theorem kd_OUT : kd_ 42729555 = 19 := rfl
theorem ln_OUT : ln_ 42729555 = 1 := rfl
def MS_ (h : AH) : Prop := hR_ h 33554440 2 = some 33817360 ∧ hR_ h 33554440 3 = some 34079504 ∧ hR_ h 33554440 4 = some 34341648 ∧ hR_ h 33554440 5 = some 34603794 ∧ hR_ h 33554440 6 = some 34865938 ∧ hR_ h 33554440 7 = some 35136528 ∧ hR_ h 33554440 9 = some 35390224 ∧ hR_ h 33554440 10 = some 35652368 ∧ hR_ h 33554440 11 = some 35914512 ∧ hR_ h 33554440 12 = some 36176656 ∧ hR_ h 33554440 13 = some 36438800 ∧ hR_ h 33554440 14 = some 36706320 ∧ hR_ h 33554440 15 = some 36968464 ∧ hR_ h 33554440 16 = some 37230610 ∧ hR_ h 33554440 17 = some 37487376 ∧ hR_ h 33554440 18 = some 37751056 ∧ hR_ h 33554440 20 = some 38011408 ∧ hR_ h 33554440 21 = some 38273552 ∧ hR_ h 33554440 23 = some 38535696 ∧ hR_ h 33554440 29 = some 39322128 ∧ hR_ h 33554440 30 = some 39584272 ∧ hR_ h 33554440 35 = some 39858704 ∧ hR_ h 33554440 36 = some 40120848 ∧ hR_ h 33554440 37 = some 40382992 ∧ hR_ h 33554440 38 = some 40683537 ∧ hR_ h 33554440 40 = some 40945681 ∧ hR_ h 33554440 42 = some 41157264 ∧ hR_ h 33554440 43 = some 41419408 ∧ hR_ h 33554440 44 = some 41681552 ∧ hR_ h 33554440 45 = some 41943696 ∧ hR_ h 33554440 46 = some 42205840 ∧ hR_ h 33554440 47 = some 42467984
theorem MS_.r2 {h : AH} (H : MS_ h) : hR_ h 33554440 2 = some 33817360 := H.1
theorem MS_.r3 {h : AH} (H : MS_ h) : hR_ h 33554440 3 = some 34079504 := H.2.1
theorem MS_.r4 {h : AH} (H : MS_ h) : hR_ h 33554440 4 = some 34341648 := H.2.2.1
theorem MS_.r5 {h : AH} (H : MS_ h) : hR_ h 33554440 5 = some 34603794 := H.2.2.2.1
theorem MS_.r6 {h : AH} (H : MS_ h) : hR_ h 33554440 6 = some 34865938 := H.2.2.2.2.1
theorem MS_.r7 {h : AH} (H : MS_ h) : hR_ h 33554440 7 = some 35136528 := H.2.2.2.2.2.1
theorem MS_.r9 {h : AH} (H : MS_ h) : hR_ h 33554440 9 = some 35390224 := H.2.2.2.2.2.2.1
theorem MS_.r10 {h : AH} (H : MS_ h) : hR_ h 33554440 10 = some 35652368 := H.2.2.2.2.2.2.2.1
theorem MS_.r11 {h : AH} (H : MS_ h) : hR_ h 33554440 11 = some 35914512 := H.2.2.2.2.2.2.2.2.1
theorem MS_.r12 {h : AH} (H : MS_ h) : hR_ h 33554440 12 = some 36176656 := H.2.2.2.2.2.2.2.2.2.1
theorem MS_.r13 {h : AH} (H : MS_ h) : hR_ h 33554440 13 = some 36438800 := H.2.2.2.2.2.2.2.2.2.2.1
theorem MS_.r14 {h : AH} (H : MS_ h) : hR_ h 33554440 14 = some 36706320 := H.2.2.2.2.2.2.2.2.2.2.2.1
theorem MS_.r15 {h : AH} (H : MS_ h) : hR_ h 33554440 15 = some 36968464 := H.2.2.2.2.2.2.2.2.2.2.2.2.1
theorem MS_.r16 {h : AH} (H : MS_ h) : hR_ h 33554440 16 = some 37230610 := H.2.2.2.2.2.2.2.2.2.2.2.2.2.1
theorem MS_.r17 {h : AH} (H : MS_ h) : hR_ h 33554440 17 = some 37487376 := H.2.2.2.2.2.2.2.2.2.2.2.2.2.2.1
theorem MS_.r18 {h : AH} (H : MS_ h) : hR_ h 33554440 18 = some 37751056 := H.2.2.2.2.2.2.2.2.2.2.2.2.2.2.2.1
theorem MS_.r20 {h : AH} (H : MS_ h) : hR_ h 33554440 20 = some 38011408 := H.2.2.2.2.2.2.2.2.2.2.2.2.2.2.2.2.1
theorem MS_.r21 {h : AH} (H : MS_ h) : hR_ h 33554440 21 = some 38273552 := H.2.2.2.2.2.2.2.2.2.2.2.2.2.2.2.2.2.1
theorem MS_.r23 {h : AH} (H : MS_ h) : hR_ h 33554440 23 = some 38535696 := H.2.2.2.2.2.2.2.2.2.2.2.2.2.2.2.2.2.2.1
theorem MS_.r29 {h : AH} (H : MS_ h) : hR_ h 33554440 29 = some 39322128 := H.2.2.2.2.2.2.2.2.2.2.2.2.2.2.2.2.2.2.2.1
theorem MS_.r30 {h : AH} (H : MS_ h) : hR_ h 33554440 30 = some 39584272 := H.2.2.2.2.2.2.2.2.2.2.2.2.2.2.2.2.2.2.2.2.1
theorem MS_.r35 {h : AH} (H : MS_ h) : hR_ h 33554440 35 = some 39858704 := H.2.2.2.2.2.2.2.2.2.2.2.2.2.2.2.2.2.2.2.2.2.1
theorem MS_.r36 {h : AH} (H : MS_ h) : hR_ h 33554440 36 = some 40120848 := H.2.2.2.2.2.2.2.2.2.2.2.2.2.2.2.2.2.2.2.2.2.2.1
theorem MS_.r37 {h : AH} (H : MS_ h) : hR_ h 33554440 37 = some 40382992 := H.2.2.2.2.2.2.2.2.2.2.2.2.2.2.2.2.2.2.2.2.2.2.2.1
theorem MS_.r38 {h : AH} (H : MS_ h) : hR_ h 33554440 38 = some 40683537 := H.2.2.2.2.2.2.2.2.2.2.2.2.2.2.2.2.2.2.2.2.2.2.2.2.1
theorem MS_.r40 {h : AH} (H : MS_ h) : hR_ h 33554440 40 = some 40945681 := H.2.2.2.2.2.2.2.2.2.2.2.2.2.2.2.2.2.2.2.2.2.2.2.2.2.1
theorem MS_.r42 {h : AH} (H : MS_ h) : hR_ h 33554440 42 = some 41157264 := H.2.2.2.2.2.2.2.2.2.2.2.2.2.2.2.2.2.2.2.2.2.2.2.2.2.2.1
theorem MS_.r43 {h : AH} (H : MS_ h) : hR_ h 33554440 43 = some 41419408 := H.2.2.2.2.2.2.2.2.2.2.2.2.2.2.2.2.2.2.2.2.2.2.2.2.2.2.2.1
theorem MS_.r44 {h : AH} (H : MS_ h) : hR_ h 33554440 44 = some 41681552 := H.2.2.2.2.2.2.2.2.2.2.2.2.2.2.2.2.2.2.2.2.2.2.2.2.2.2.2.2.1
theorem MS_.r45 {h : AH} (H : MS_ h) : hR_ h 33554440 45 = some 41943696 := H.2.2.2.2.2.2.2.2.2.2.2.2.2.2.2.2.2.2.2.2.2.2.2.2.2.2.2.2.2.1
theorem MS_.r46 {h : AH} (H : MS_ h) : hR_ h 33554440 46 = some 42205840 := H.2.2.2.2.2.2.2.2.2.2.2.2.2.2.2.2.2.2.2.2.2.2.2.2.2.2.2.2.2.2.1
theorem MS_.r47 {h : AH} (H : MS_ h) : hR_ h 33554440 47 = some 42467984 := H.2.2.2.2.2.2.2.2.2.2.2.2.2.2.2.2.2.2.2.2.2.2.2.2.2.2.2.2.2.2.2
def CS_ (h : AH) : Prop := hR_ h 25165831 0 = some 25428756 ∧ hR_ h 25165831 2 = some 25690901 ∧ hR_ h 25165831 4 = some 25952258 ∧ hR_ h 25165831 7 = some 27000838 ∧ hR_ h 25165831 8 = some 28311555 ∧ hR_ h 25165831 9 = some 29673489 ∧ hR_ h 25165831 11 = some 29884421 ∧ hR_ h 25952258 0 = some 26230803 ∧ hR_ h 25952258 1 = some 26477264 ∧ hR_ h 25952258 2 = some 26739411 ∧ hR_ h 27000838 0 = some 27263504 ∧ hR_ h 27000838 1 = some 27529232 ∧ hR_ h 27000838 2 = some 27918352 ∧ hR_ h 27000838 3 = some 28049936 ∧ hR_ h 28311555 1 = some 28586512 ∧ hR_ h 28311555 2 = some 28848656 ∧ hR_ h 28311555 3 = some 29110800 ∧ hR_ h 28311555 4 = some 29361424 ∧ hR_ h 29884421 0 = some 30197846 ∧ hR_ h 29884421 1 = some 30459984 ∧ hR_ h 29884421 2 = some 30722128 ∧ hR_ h 30932993 1 = some 31195798 ∧ hR_ h 30932993 2 = some 31457936 ∧ hR_ h 30932993 3 = some 31720080 ∧ hR_ h 30932993 4 = some 32032784 ∧ hR_ h 32243713 1 = some 32506518 ∧ hR_ h 32243713 2 = some 32768656 ∧ hR_ h 32243713 3 = some 33030800 ∧ hR_ h 32243713 4 = some 33343504
theorem CS_.x0 {h : AH} (H : CS_ h) : hR_ h 25165831 0 = some 25428756 := H.1
theorem CS_.x2 {h : AH} (H : CS_ h) : hR_ h 25165831 2 = some 25690901 := H.2.1
theorem CS_.x4 {h : AH} (H : CS_ h) : hR_ h 25165831 4 = some 25952258 := H.2.2.1
theorem CS_.x7 {h : AH} (H : CS_ h) : hR_ h 25165831 7 = some 27000838 := H.2.2.2.1
theorem CS_.x8 {h : AH} (H : CS_ h) : hR_ h 25165831 8 = some 28311555 := H.2.2.2.2.1
theorem CS_.x9 {h : AH} (H : CS_ h) : hR_ h 25165831 9 = some 29673489 := H.2.2.2.2.2.1
theorem CS_.x11 {h : AH} (H : CS_ h) : hR_ h 25165831 11 = some 29884421 := H.2.2.2.2.2.2.1
theorem CS_.f0 {h : AH} (H : CS_ h) : hR_ h 25952258 0 = some 26230803 := H.2.2.2.2.2.2.2.1
theorem CS_.f1 {h : AH} (H : CS_ h) : hR_ h 25952258 1 = some 26477264 := H.2.2.2.2.2.2.2.2.1
theorem CS_.f2 {h : AH} (H : CS_ h) : hR_ h 25952258 2 = some 26739411 := H.2.2.2.2.2.2.2.2.2.1
theorem CS_.p0 {h : AH} (H : CS_ h) : hR_ h 27000838 0 = some 27263504 := H.2.2.2.2.2.2.2.2.2.2.1
theorem CS_.p1 {h : AH} (H : CS_ h) : hR_ h 27000838 1 = some 27529232 := H.2.2.2.2.2.2.2.2.2.2.2.1
theorem CS_.p2 {h : AH} (H : CS_ h) : hR_ h 27000838 2 = some 27918352 := H.2.2.2.2.2.2.2.2.2.2.2.2.1
theorem CS_.p3 {h : AH} (H : CS_ h) : hR_ h 27000838 3 = some 28049936 := H.2.2.2.2.2.2.2.2.2.2.2.2.2.1
theorem CS_.l1 {h : AH} (H : CS_ h) : hR_ h 28311555 1 = some 28586512 := H.2.2.2.2.2.2.2.2.2.2.2.2.2.2.1
theorem CS_.l2 {h : AH} (H : CS_ h) : hR_ h 28311555 2 = some 28848656 := H.2.2.2.2.2.2.2.2.2.2.2.2.2.2.2.1
theorem CS_.l3 {h : AH} (H : CS_ h) : hR_ h 28311555 3 = some 29110800 := H.2.2.2.2.2.2.2.2.2.2.2.2.2.2.2.2.1
theorem CS_.l4 {h : AH} (H : CS_ h) : hR_ h 28311555 4 = some 29361424 := H.2.2.2.2.2.2.2.2.2.2.2.2.2.2.2.2.2.1
theorem CS_.d0 {h : AH} (H : CS_ h) : hR_ h 29884421 0 = some 30197846 := H.2.2.2.2.2.2.2.2.2.2.2.2.2.2.2.2.2.2.1
theorem CS_.d1 {h : AH} (H : CS_ h) : hR_ h 29884421 1 = some 30459984 := H.2.2.2.2.2.2.2.2.2.2.2.2.2.2.2.2.2.2.2.1
theorem CS_.d2 {h : AH} (H : CS_ h) : hR_ h 29884421 2 = some 30722128 := H.2.2.2.2.2.2.2.2.2.2.2.2.2.2.2.2.2.2.2.2.1
theorem CS_.g1 {h : AH} (H : CS_ h) : hR_ h 30932993 1 = some 31195798 := H.2.2.2.2.2.2.2.2.2.2.2.2.2.2.2.2.2.2.2.2.2.1
theorem CS_.g2 {h : AH} (H : CS_ h) : hR_ h 30932993 2 = some 31457936 := H.2.2.2.2.2.2.2.2.2.2.2.2.2.2.2.2.2.2.2.2.2.2.1
theorem CS_.g3 {h : AH} (H : CS_ h) : hR_ h 30932993 3 = some 31720080 := H.2.2.2.2.2.2.2.2.2.2.2.2.2.2.2.2.2.2.2.2.2.2.2.1
theorem CS_.g4 {h : AH} (H : CS_ h) : hR_ h 30932993 4 = some 32032784 := H.2.2.2.2.2.2.2.2.2.2.2.2.2.2.2.2.2.2.2.2.2.2.2.2.1
theorem CS_.k1 {h : AH} (H : CS_ h) : hR_ h 32243713 1 = some 32506518 := H.2.2.2.2.2.2.2.2.2.2.2.2.2.2.2.2.2.2.2.2.2.2.2.2.2.1
theorem CS_.k2 {h : AH} (H : CS_ h) : hR_ h 32243713 2 = some 32768656 := H.2.2.2.2.2.2.2.2.2.2.2.2.2.2.2.2.2.2.2.2.2.2.2.2.2.2.1
theorem CS_.k3 {h : AH} (H : CS_ h) : hR_ h 32243713 3 = some 33030800 := H.2.2.2.2.2.2.2.2.2.2.2.2.2.2.2.2.2.2.2.2.2.2.2.2.2.2.2.1
theorem CS_.k4 {h : AH} (H : CS_ h) : hR_ h 32243713 4 = some 33343504 := H.2.2.2.2.2.2.2.2.2.2.2.2.2.2.2.2.2.2.2.2.2.2.2.2.2.2.2.2
theorem MS_.eq {h h1 : AH} (e : hR_ h1 33554440 = hR_ h 33554440) (H : MS_ h) : MS_ h1 := by unfold MS_ at H ⊢; rw [e]; exact H
theorem CS_.eq {h h1 : AH} (e0 : hR_ h1 25952258 = hR_ h 25952258) (e1 : hR_ h1 30932993 = hR_ h 30932993) (e2 : hR_ h1 32243713 = hR_ h 32243713) (e3 : hR_ h1 28311555 = hR_ h 28311555) (e4 : hR_ h1 27000838 = hR_ h 27000838) (e5 : hR_ h1 29884421 = hR_ h 29884421) (e6 : hR_ h1 25165831 = hR_ h 25165831) (H : CS_ h) : CS_ h1 := by unfold CS_ at H ⊢; rw [e0, e1, e2, e3, e4, e5, e6]; exact H
