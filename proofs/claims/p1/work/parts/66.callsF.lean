set_option maxHeartbeats 4000000 in
set_option maxRecDepth 20000 in
theorem p_lay (v1 v2 v3 : Int32) (post1 : Int32 → MM → Int64 → Prop) (H : ∀ r1 M1 t1, (∀ post2 : Int32 → MM → Int64 → Prop, (∀ M2 t2, post2 r1 M2 t2) → wpX11_lay post2 M1 t1 v1 v2 v3) → post1 r1 M1 t1) : wpX10_lay post1 M0 0 v1 v2 v3 := by
  rcases tri v1 0 3 with hv1 | hv1 | hv1
  · skip
    try unfold wpX10_lay
    try unfold wpX10_isSheet
    refine ifp (i_lt (k := 0) (by decide +kernel) (by omega)) ?_
    refine ifp (by decide +kernel) ?_
    refine H _ _ _ (fun post2 h2 => ?_)
    try unfold wpX11_lay
    try unfold wpX11_isSheet
    try unfold wpX11_in
    refine ifp (lc_lt (k := 0) (by decide +kernel) (by rw [Int32.toInt_toInt64]; omega)) ?_
    refine ifp (by decide +kernel) ?_
    refine ifp (by decide +kernel) ?_
    exact fin2 h2 (by first | rfl | decide +kernel)
  · skip
    obtain ⟨cv1, rfl, hcv1⟩ := code_of (hi := 3) hv1 (by decide)
    rcases (by omega : cv1 = 0 ∨ cv1 = 1 ∨ cv1 = 2 ∨ cv1 = 3) with h | h | h | h <;> subst h
    · skip
      try unfold wpX10_lay
      try unfold wpX10_isSheet
      refine ifn (by decide +kernel) ?_
      refine ifn (by decide +kernel) ?_
      refine ifn (by decide +kernel) ?_
      refine And.intro (by unfold vp_in; decide +kernel) ?_
      refine And.intro (by decide +kernel) ?_
      try unfold wpX8_faultAt
      refine And.intro (by decide +kernel) ?_
      refine ifn (by decide +kernel) ?_
      refine ifn (by decide +kernel) ?_
      refine H _ _ _ (fun post2 h2 => ?_)
      try unfold wpX11_lay
      try unfold wpX11_isSheet
      try unfold wpX11_in
      refine ifn (by decide +kernel) ?_
      refine ifn (by decide +kernel) ?_
      refine ifn (by decide +kernel) ?_
      try unfold wpX11_in
      refine ifn (by decide +kernel) ?_
      refine ifn (by decide +kernel) ?_
      refine ifn (by decide +kernel) ?_
      refine ifn (by decide +kernel) ?_
      refine And.intro (by unfold vp_in; decide +kernel) ?_
      refine ifp (by decide +kernel) ?_
      exact fin2 h2 (by first | rfl | decide +kernel)
    · skip
      try unfold wpX10_lay
      try unfold wpX10_isSheet
      refine ifn (by decide +kernel) ?_
      refine ifn (by decide +kernel) ?_
      refine ifn (by decide +kernel) ?_
      refine And.intro (by unfold vp_in; decide +kernel) ?_
      refine And.intro (by decide +kernel) ?_
      try unfold wpX8_faultAt
      refine And.intro (by decide +kernel) ?_
      refine ifn (by decide +kernel) ?_
      refine ifn (by decide +kernel) ?_
      refine H _ _ _ (fun post2 h2 => ?_)
      try unfold wpX11_lay
      try unfold wpX11_isSheet
      try unfold wpX11_in
      refine ifn (by decide +kernel) ?_
      refine ifn (by decide +kernel) ?_
      refine ifn (by decide +kernel) ?_
      try unfold wpX11_in
      refine ifn (by decide +kernel) ?_
      refine ifn (by decide +kernel) ?_
      refine ifn (by decide +kernel) ?_
      refine ifn (by decide +kernel) ?_
      refine And.intro (by unfold vp_in; decide +kernel) ?_
      refine ifp (by decide +kernel) ?_
      exact fin2 h2 (by first | rfl | decide +kernel)
    · skip
      try unfold wpX10_lay
      try unfold wpX10_isSheet
      refine ifn (by decide +kernel) ?_
      refine ifn (by decide +kernel) ?_
      refine ifn (by decide +kernel) ?_
      refine And.intro (by unfold vp_in; decide +kernel) ?_
      refine And.intro (by decide +kernel) ?_
      try unfold wpX8_faultAt
      refine And.intro (by decide +kernel) ?_
      refine ifn (by decide +kernel) ?_
      refine ifn (by decide +kernel) ?_
      refine H _ _ _ (fun post2 h2 => ?_)
      try unfold wpX11_lay
      try unfold wpX11_isSheet
      try unfold wpX11_in
      refine ifn (by decide +kernel) ?_
      refine ifn (by decide +kernel) ?_
      refine ifn (by decide +kernel) ?_
      try unfold wpX11_in
      refine ifn (by decide +kernel) ?_
      refine ifn (by decide +kernel) ?_
      refine ifn (by decide +kernel) ?_
      refine ifn (by decide +kernel) ?_
      refine And.intro (by unfold vp_in; decide +kernel) ?_
      refine ifp (by decide +kernel) ?_
      exact fin2 h2 (by first | rfl | decide +kernel)
    · skip
      try unfold wpX10_lay
      try unfold wpX10_isSheet
      refine ifn (by decide +kernel) ?_
      refine ifn (by decide +kernel) ?_
      refine ifn (by decide +kernel) ?_
      refine And.intro (by unfold vp_in; decide +kernel) ?_
      refine And.intro (by decide +kernel) ?_
      try unfold wpX8_faultAt
      refine And.intro (by decide +kernel) ?_
      refine ifn (by decide +kernel) ?_
      refine ifn (by decide +kernel) ?_
      refine H _ _ _ (fun post2 h2 => ?_)
      try unfold wpX11_lay
      try unfold wpX11_isSheet
      try unfold wpX11_in
      refine ifn (by decide +kernel) ?_
      refine ifn (by decide +kernel) ?_
      refine ifn (by decide +kernel) ?_
      try unfold wpX11_in
      refine ifn (by decide +kernel) ?_
      refine ifn (by decide +kernel) ?_
      refine ifn (by decide +kernel) ?_
      refine ifn (by decide +kernel) ?_
      refine And.intro (by unfold vp_in; decide +kernel) ?_
      refine ifp (by decide +kernel) ?_
      exact fin2 h2 (by first | rfl | decide +kernel)
  · skip
    try unfold wpX10_lay
    try unfold wpX10_isSheet
    refine ifn (i_nlt (k := 0) (by decide +kernel) (by omega)) ?_
    refine ifp (i_ge (k := 4) (by decide +kernel) (by omega)) ?_
    refine ifp (by decide +kernel) ?_
    refine H _ _ _ (fun post2 h2 => ?_)
    try unfold wpX11_lay
    try unfold wpX11_isSheet
    try unfold wpX11_in
    refine ifn (lc_nlt (k := 0) (by decide +kernel) (by rw [Int32.toInt_toInt64]; omega)) ?_
    refine ifp (lc_gt (k := 3) (by decide +kernel) (by rw [Int32.toInt_toInt64]; omega)) ?_
    refine ifp (by decide +kernel) ?_
    refine ifp (by decide +kernel) ?_
    exact fin2 h2 (by first | rfl | decide +kernel)
set_option maxHeartbeats 4000000 in
set_option maxRecDepth 20000 in
theorem p_read (v1 v2 v3 v4 : Int32) (post1 : Int32 → MM → Int64 → Prop) (H : ∀ r1 M1 t1, (∀ post2 : Int32 → MM → Int64 → Prop, (∀ M2 t2, post2 r1 M2 t2) → wpX11_read post2 M1 t1 v1 v2 v3 v4) → post1 r1 M1 t1) : wpX10_read post1 M0 0 v1 v2 v3 v4 := by
  rcases tri v1 0 3 with hv1 | hv1 | hv1
  · skip
    try unfold wpX10_read
    try unfold wpX10_isSheet
    refine ifp (i_lt (k := 0) (by decide +kernel) (by omega)) ?_
    refine ifp (by decide +kernel) ?_
    refine H _ _ _ (fun post2 h2 => ?_)
    try unfold wpX11_read
    try unfold wpX11_isSheet
    try unfold wpX11_in
    refine ifp (lc_lt (k := 0) (by decide +kernel) (by rw [Int32.toInt_toInt64]; omega)) ?_
    refine ifp (by decide +kernel) ?_
    refine ifp (by decide +kernel) ?_
    exact fin2 h2 (by first | rfl | decide +kernel)
  · skip
    obtain ⟨cv1, rfl, hcv1⟩ := code_of (hi := 3) hv1 (by decide)
    rcases (by omega : cv1 = 0 ∨ cv1 = 1 ∨ cv1 = 2 ∨ cv1 = 3) with h | h | h | h <;> subst h
    · skip
      rcases tri v2 0 2 with hv2 | hv2 | hv2
      · skip
        try unfold wpX10_read
        try unfold wpX10_isSheet
        refine ifn (by decide +kernel) ?_
        refine ifn (by decide +kernel) ?_
        refine ifn (by decide +kernel) ?_
        try unfold wpX10_isLane
        refine ifp (i_lt (k := 0) (by decide +kernel) (by omega)) ?_
        refine ifp (by decide +kernel) ?_
        refine H _ _ _ (fun post2 h2 => ?_)
        try unfold wpX11_read
        try unfold wpX11_isSheet
        try unfold wpX11_in
        refine ifn (by decide +kernel) ?_
        refine ifn (by decide +kernel) ?_
        refine ifn (by decide +kernel) ?_
        try unfold wpX11_in
        refine ifp (lc_lt (k := 0) (by decide +kernel) (by rw [Int32.toInt_toInt64]; omega)) ?_
        refine ifp (by decide +kernel) ?_
        refine ifp (by decide +kernel) ?_
        exact fin2 h2 (by first | rfl | decide +kernel)
      · skip
        rcases tri v4 0 0 with hv4 | hv4 | hv4
        · skip
          try unfold wpX10_read
          try unfold wpX10_isSheet
          refine ifn (by decide +kernel) ?_
          refine ifn (by decide +kernel) ?_
          refine ifn (by decide +kernel) ?_
          try unfold wpX10_isLane
          refine ifn (i_nlt (k := 0) (by decide +kernel) (by omega)) ?_
          refine ifn (i_nge (k := 3) (by decide +kernel) (by omega)) ?_
          refine ifn (by decide +kernel) ?_
          refine ifp (i_lt (k := 0) (by decide +kernel) (by omega)) ?_
          refine H _ _ _ (fun post2 h2 => ?_)
          try unfold wpX11_read
          try unfold wpX11_isSheet
          try unfold wpX11_in
          refine ifn (by decide +kernel) ?_
          refine ifn (by decide +kernel) ?_
          refine ifn (by decide +kernel) ?_
          try unfold wpX11_in
          refine ifn (lc_nlt (k := 0) (by decide +kernel) (by rw [Int32.toInt_toInt64]; omega)) ?_
          refine ifn (lc_ngt (k := 2) (by decide +kernel) (by rw [Int32.toInt_toInt64]; omega)) ?_
          refine ifn (by decide +kernel) ?_
          refine ifn (by decide +kernel) ?_
          try unfold wpX11_in
          refine ifp (lc_lt (k := 0) (by decide +kernel) (by rw [Int32.toInt_toInt64]; omega)) ?_
          refine ifp (by decide +kernel) ?_
          exact fin2 h2 (by first | rfl | decide +kernel)
        · skip
          obtain ⟨cv4, rfl, hcv4⟩ := code_of (hi := 0) hv4 (by decide)
          rcases (by omega : cv4 = 0) with h <;> subst h
          · skip
            try unfold wpX10_read
            try unfold wpX10_isSheet
            refine ifn (by decide +kernel) ?_
            refine ifn (by decide +kernel) ?_
            refine ifn (by decide +kernel) ?_
            try unfold wpX10_isLane
            refine ifn (i_nlt (k := 0) (by decide +kernel) (by omega)) ?_
            refine ifn (i_nge (k := 3) (by decide +kernel) (by omega)) ?_
            refine ifn (by decide +kernel) ?_
            refine ifn (by decide +kernel) ?_
            refine ifp (by decide +kernel) ?_
            refine And.intro (by unfold vp_in; decide +kernel) ?_
            refine And.intro (by decide +kernel) ?_
            try unfold wpX8_faultOfReading
            refine And.intro (by decide +kernel) ?_
            try unfold wpX8_wholeThings
            refine And.intro (by decide +kernel) ?_
            refine ifp (by decide +kernel) ?_
            refine ifn (by decide +kernel) ?_
            refine ifp (by decide +kernel) ?_
            try unfold wX10_read_66
            refine ⟨0 + 1 + 1 + 1 + 1 + 1 + 1 + 1 + 1 + 1 + 1 + 1 + 1, ?_⟩
            try unfold wX10_read_71
            refine ifp (by decide +kernel) ?_
            refine ⟨0 + 1 + 1 + 1 + 1 + 1 + 1 + 1 + 1 + 1 + 1 + 1 + 1, ?_⟩
            try unfold wX10_read_142
            refine ifp (by decide +kernel) ?_
            intro W1 hW1; subst hW1
            refine H _ _ _ (fun post2 h2 => ?_)
            try unfold wpX11_read
            try unfold wpX11_isSheet
            try unfold wpX11_in
            refine ifn (by decide +kernel) ?_
            refine ifn (by decide +kernel) ?_
            refine ifn (by decide +kernel) ?_
            try unfold wpX11_in
            refine ifn (lc_nlt (k := 0) (by decide +kernel) (by rw [Int32.toInt_toInt64]; omega)) ?_
            refine ifn (lc_ngt (k := 2) (by decide +kernel) (by rw [Int32.toInt_toInt64]; omega)) ?_
            refine ifn (by decide +kernel) ?_
            refine ifn (by decide +kernel) ?_
            try unfold wpX11_in
            refine ifn (by decide +kernel) ?_
            refine ifn (by decide +kernel) ?_
            refine ifn (by decide +kernel) ?_
            refine ⟨0 + 1 + 1 + 1 + 1 + 1 + 1 + 1 + 1 + 1 + 1 + 1 + 1, ?_⟩
            try unfold wX11_read_32
            refine ifp (by decide +kernel) ?_
            try unfold wX11_read_205
            intro W2 hW2; subst hW2
            refine ⟨0 + 1 + 1 + 1 + 1 + 1 + 1 + 1 + 1 + 1 + 1 + 1 + 1, ?_⟩
            try unfold wX11_read_214
            refine ifp (by decide +kernel) ?_
            exact fin2 h2 (by first | rfl | decide +kernel)
        · skip
          try unfold wpX10_read
          try unfold wpX10_isSheet
          refine ifn (by decide +kernel) ?_
          refine ifn (by decide +kernel) ?_
          refine ifn (by decide +kernel) ?_
          try unfold wpX10_isLane
          refine ifn (i_nlt (k := 0) (by decide +kernel) (by omega)) ?_
          refine ifn (i_nge (k := 3) (by decide +kernel) (by omega)) ?_
          refine ifn (by decide +kernel) ?_
          refine ifn (i_nlt (k := 0) (by decide +kernel) (by omega)) ?_
          refine ifs (fun hc => ?_) (fun hc => ?_)
          · have hk1 := i_le_to (k := 13) (by decide +kernel) hc
            refine And.intro (by unfold vp_in; decide +kernel) ?_
            refine And.intro (by decide +kernel) ?_
            try unfold wpX8_faultOfReading
            refine And.intro (by decide +kernel) ?_
            try unfold wpX8_wholeThings
            refine And.intro (by decide +kernel) ?_
            refine ifp (by decide +kernel) ?_
            refine ifp (i_gt (k := 0) (by decide +kernel) (by omega)) ?_
            refine And.intro (by decide +kernel) ?_
            refine ifn (by decide +kernel) ?_
            refine ifn (by decide +kernel) ?_
            refine And.intro (by decide +kernel) ?_
            try unfold wpX8_wholeThings
            refine And.intro (by decide +kernel) ?_
            refine ifp (by decide +kernel) ?_
            try unfold wX10_read_66
            refine ⟨0 + 1 + 1 + 1 + 1 + 1 + 1 + 1 + 1 + 1 + 1 + 1 + 1, ?_⟩
            try unfold wX10_read_71
            refine ifp (by decide +kernel) ?_
            refine ⟨0 + 1 + 1 + 1 + 1 + 1 + 1 + 1 + 1 + 1 + 1 + 1 + 1, ?_⟩
            try unfold wX10_read_142
            refine ifp (by decide +kernel) ?_
            intro W2 hW2; subst hW2
            refine H _ _ _ (fun post2 h2 => ?_)
            try unfold wpX11_read
            try unfold wpX11_isSheet
            try unfold wpX11_in
            refine ifn (by decide +kernel) ?_
            refine ifn (by decide +kernel) ?_
            refine ifn (by decide +kernel) ?_
            try unfold wpX11_in
            refine ifn (lc_nlt (k := 0) (by decide +kernel) (by rw [Int32.toInt_toInt64]; omega)) ?_
            refine ifn (lc_ngt (k := 2) (by decide +kernel) (by rw [Int32.toInt_toInt64]; omega)) ?_
            refine ifn (by decide +kernel) ?_
            refine ifn (by decide +kernel) ?_
            try unfold wpX11_in
            refine ifn (lc_nlt (k := 0) (by decide +kernel) (by rw [Int32.toInt_toInt64]; omega)) ?_
            refine ifn (lc_ngt (k := 13) (by decide +kernel) (by rw [Int32.toInt_toInt64]; omega)) ?_
            refine ifn (by decide +kernel) ?_
            refine ⟨0 + 1 + 1 + 1 + 1 + 1 + 1 + 1 + 1 + 1 + 1 + 1 + 1, ?_⟩
            try unfold wX11_read_32
            refine ifn (i_nle (k := 0) (by decide +kernel) (by omega)) ?_
            refine ifp (by decide +kernel) ?_
            refine ⟨0 + 1 + 1 + 1 + 1 + 1 + 1 + 1 + 1 + 1 + 1 + 1 + 1, ?_⟩
            try unfold wX11_read_47
            refine ifn (by decide +kernel) ?_
            refine ifp (by decide +kernel) ?_
            refine And.intro (by unfold vp_in; decide +kernel) ?_
            refine ifp (by decide +kernel) ?_
            try unfold wX11_read_126
            try unfold wX11_read_47
            refine ifn (by decide +kernel) ?_
            refine ifn (by decide +kernel) ?_
            try unfold wX11_read_134
            refine ifn (by decide +kernel) ?_
            try unfold wX11_read_199
            try unfold wX11_read_32
            refine ifs (fun hc => ?_) (fun hc => ?_)
            · have hk3 := i_le_to (k := 1) (by decide +kernel) hc
              try unfold wX11_read_205
              intro W4 hW4; subst hW4
              refine ⟨0 + 1 + 1 + 1 + 1 + 1 + 1 + 1 + 1 + 1 + 1 + 1 + 1, ?_⟩
              try unfold wX11_read_214
              refine ifp (by decide +kernel) ?_
              exact fin2 h2 (by first | rfl | decide +kernel)
            · have hk5 := i_nle_to (k := 1) (by decide +kernel) hc
              refine ifn (by decide +kernel) ?_
              try unfold wX11_read_205
              intro W6 hW6; subst hW6
              refine ⟨0 + 1 + 1 + 1 + 1 + 1 + 1 + 1 + 1 + 1 + 1 + 1 + 1, ?_⟩
              try unfold wX11_read_214
              refine ifp (by decide +kernel) ?_
              exact fin2 h2 (by first | rfl | decide +kernel)
          · have hk7 := i_nle_to (k := 13) (by decide +kernel) hc
            refine H _ _ _ (fun post2 h2 => ?_)
            try unfold wpX11_read
            try unfold wpX11_isSheet
            try unfold wpX11_in
            refine ifn (by decide +kernel) ?_
            refine ifn (by decide +kernel) ?_
            refine ifn (by decide +kernel) ?_
            try unfold wpX11_in
            refine ifn (lc_nlt (k := 0) (by decide +kernel) (by rw [Int32.toInt_toInt64]; omega)) ?_
            refine ifn (lc_ngt (k := 2) (by decide +kernel) (by rw [Int32.toInt_toInt64]; omega)) ?_
            refine ifn (by decide +kernel) ?_
            refine ifn (by decide +kernel) ?_
            try unfold wpX11_in
            refine ifn (lc_nlt (k := 0) (by decide +kernel) (by rw [Int32.toInt_toInt64]; omega)) ?_
            refine ifp (lc_gt (k := 13) (by decide +kernel) (by rw [Int32.toInt_toInt64]; omega)) ?_
            refine ifp (by decide +kernel) ?_
            exact fin2 h2 (by first | rfl | decide +kernel)
      · skip
        try unfold wpX10_read
        try unfold wpX10_isSheet
        refine ifn (by decide +kernel) ?_
        refine ifn (by decide +kernel) ?_
        refine ifn (by decide +kernel) ?_
        try unfold wpX10_isLane
        refine ifn (i_nlt (k := 0) (by decide +kernel) (by omega)) ?_
        refine ifp (i_ge (k := 3) (by decide +kernel) (by omega)) ?_
        refine ifp (by decide +kernel) ?_
        refine H _ _ _ (fun post2 h2 => ?_)
        try unfold wpX11_read
        try unfold wpX11_isSheet
        try unfold wpX11_in
        refine ifn (by decide +kernel) ?_
        refine ifn (by decide +kernel) ?_
        refine ifn (by decide +kernel) ?_
        try unfold wpX11_in
        refine ifn (lc_nlt (k := 0) (by decide +kernel) (by rw [Int32.toInt_toInt64]; omega)) ?_
        refine ifp (lc_gt (k := 2) (by decide +kernel) (by rw [Int32.toInt_toInt64]; omega)) ?_
        refine ifp (by decide +kernel) ?_
        refine ifp (by decide +kernel) ?_
        exact fin2 h2 (by first | rfl | decide +kernel)
    · skip
      rcases tri v2 0 2 with hv2 | hv2 | hv2
      · skip
        try unfold wpX10_read
        try unfold wpX10_isSheet
        refine ifn (by decide +kernel) ?_
        refine ifn (by decide +kernel) ?_
        refine ifn (by decide +kernel) ?_
        try unfold wpX10_isLane
        refine ifp (i_lt (k := 0) (by decide +kernel) (by omega)) ?_
        refine ifp (by decide +kernel) ?_
        refine H _ _ _ (fun post2 h2 => ?_)
        try unfold wpX11_read
        try unfold wpX11_isSheet
        try unfold wpX11_in
        refine ifn (by decide +kernel) ?_
        refine ifn (by decide +kernel) ?_
        refine ifn (by decide +kernel) ?_
        try unfold wpX11_in
        refine ifp (lc_lt (k := 0) (by decide +kernel) (by rw [Int32.toInt_toInt64]; omega)) ?_
        refine ifp (by decide +kernel) ?_
        refine ifp (by decide +kernel) ?_
        exact fin2 h2 (by first | rfl | decide +kernel)
      · skip
        rcases tri v4 0 0 with hv4 | hv4 | hv4
        · skip
          try unfold wpX10_read
          try unfold wpX10_isSheet
          refine ifn (by decide +kernel) ?_
          refine ifn (by decide +kernel) ?_
          refine ifn (by decide +kernel) ?_
          try unfold wpX10_isLane
          refine ifn (i_nlt (k := 0) (by decide +kernel) (by omega)) ?_
          refine ifn (i_nge (k := 3) (by decide +kernel) (by omega)) ?_
          refine ifn (by decide +kernel) ?_
          refine ifp (i_lt (k := 0) (by decide +kernel) (by omega)) ?_
          refine H _ _ _ (fun post2 h2 => ?_)
          try unfold wpX11_read
          try unfold wpX11_isSheet
          try unfold wpX11_in
          refine ifn (by decide +kernel) ?_
          refine ifn (by decide +kernel) ?_
          refine ifn (by decide +kernel) ?_
          try unfold wpX11_in
          refine ifn (lc_nlt (k := 0) (by decide +kernel) (by rw [Int32.toInt_toInt64]; omega)) ?_
          refine ifn (lc_ngt (k := 2) (by decide +kernel) (by rw [Int32.toInt_toInt64]; omega)) ?_
          refine ifn (by decide +kernel) ?_
          refine ifn (by decide +kernel) ?_
          try unfold wpX11_in
          refine ifp (lc_lt (k := 0) (by decide +kernel) (by rw [Int32.toInt_toInt64]; omega)) ?_
          refine ifp (by decide +kernel) ?_
          exact fin2 h2 (by first | rfl | decide +kernel)
        · skip
          obtain ⟨cv4, rfl, hcv4⟩ := code_of (hi := 0) hv4 (by decide)
          rcases (by omega : cv4 = 0) with h <;> subst h
          · skip
            try unfold wpX10_read
            try unfold wpX10_isSheet
            refine ifn (by decide +kernel) ?_
            refine ifn (by decide +kernel) ?_
            refine ifn (by decide +kernel) ?_
            try unfold wpX10_isLane
            refine ifn (i_nlt (k := 0) (by decide +kernel) (by omega)) ?_
            refine ifn (i_nge (k := 3) (by decide +kernel) (by omega)) ?_
            refine ifn (by decide +kernel) ?_
            refine ifn (by decide +kernel) ?_
            refine ifp (by decide +kernel) ?_
            refine And.intro (by unfold vp_in; decide +kernel) ?_
            refine And.intro (by decide +kernel) ?_
            try unfold wpX8_faultOfReading
            refine And.intro (by decide +kernel) ?_
            try unfold wpX8_wholeThings
            refine And.intro (by decide +kernel) ?_
            refine ifp (by decide +kernel) ?_
            refine ifn (by decide +kernel) ?_
            refine ifp (by decide +kernel) ?_
            try unfold wX10_read_66
            refine ⟨0 + 1 + 1 + 1 + 1 + 1 + 1 + 1 + 1 + 1 + 1 + 1 + 1, ?_⟩
            try unfold wX10_read_71
            refine ifp (by decide +kernel) ?_
            refine ⟨0 + 1 + 1 + 1 + 1 + 1 + 1 + 1 + 1 + 1 + 1 + 1 + 1, ?_⟩
            try unfold wX10_read_142
            refine ifp (by decide +kernel) ?_
            intro W1 hW1; subst hW1
            refine H _ _ _ (fun post2 h2 => ?_)
            try unfold wpX11_read
            try unfold wpX11_isSheet
            try unfold wpX11_in
            refine ifn (by decide +kernel) ?_
            refine ifn (by decide +kernel) ?_
            refine ifn (by decide +kernel) ?_
            try unfold wpX11_in
            refine ifn (lc_nlt (k := 0) (by decide +kernel) (by rw [Int32.toInt_toInt64]; omega)) ?_
            refine ifn (lc_ngt (k := 2) (by decide +kernel) (by rw [Int32.toInt_toInt64]; omega)) ?_
            refine ifn (by decide +kernel) ?_
            refine ifn (by decide +kernel) ?_
            try unfold wpX11_in
            refine ifn (by decide +kernel) ?_
            refine ifn (by decide +kernel) ?_
            refine ifn (by decide +kernel) ?_
            refine ⟨0 + 1 + 1 + 1 + 1 + 1 + 1 + 1 + 1 + 1 + 1 + 1 + 1, ?_⟩
            try unfold wX11_read_32
            refine ifp (by decide +kernel) ?_
            try unfold wX11_read_205
            intro W2 hW2; subst hW2
            refine ⟨0 + 1 + 1 + 1 + 1 + 1 + 1 + 1 + 1 + 1 + 1 + 1 + 1, ?_⟩
            try unfold wX11_read_214
            refine ifp (by decide +kernel) ?_
            exact fin2 h2 (by first | rfl | decide +kernel)
        · skip
          try unfold wpX10_read
          try unfold wpX10_isSheet
          refine ifn (by decide +kernel) ?_
          refine ifn (by decide +kernel) ?_
          refine ifn (by decide +kernel) ?_
          try unfold wpX10_isLane
          refine ifn (i_nlt (k := 0) (by decide +kernel) (by omega)) ?_
          refine ifn (i_nge (k := 3) (by decide +kernel) (by omega)) ?_
          refine ifn (by decide +kernel) ?_
          refine ifn (i_nlt (k := 0) (by decide +kernel) (by omega)) ?_
          refine ifs (fun hc => ?_) (fun hc => ?_)
          · have hk1 := i_le_to (k := 13) (by decide +kernel) hc
            refine And.intro (by unfold vp_in; decide +kernel) ?_
            refine And.intro (by decide +kernel) ?_
            try unfold wpX8_faultOfReading
            refine And.intro (by decide +kernel) ?_
            try unfold wpX8_wholeThings
            refine And.intro (by decide +kernel) ?_
            refine ifp (by decide +kernel) ?_
            refine ifp (i_gt (k := 0) (by decide +kernel) (by omega)) ?_
            refine And.intro (by decide +kernel) ?_
            refine ifn (by decide +kernel) ?_
            refine ifn (by decide +kernel) ?_
            refine And.intro (by decide +kernel) ?_
            try unfold wpX8_wholeThings
            refine And.intro (by decide +kernel) ?_
            refine ifp (by decide +kernel) ?_
            try unfold wX10_read_66
            refine ⟨0 + 1 + 1 + 1 + 1 + 1 + 1 + 1 + 1 + 1 + 1 + 1 + 1, ?_⟩
            try unfold wX10_read_71
            refine ifp (by decide +kernel) ?_
            refine ⟨0 + 1 + 1 + 1 + 1 + 1 + 1 + 1 + 1 + 1 + 1 + 1 + 1, ?_⟩
            try unfold wX10_read_142
            refine ifp (by decide +kernel) ?_
            intro W2 hW2; subst hW2
            refine H _ _ _ (fun post2 h2 => ?_)
            try unfold wpX11_read
            try unfold wpX11_isSheet
            try unfold wpX11_in
            refine ifn (by decide +kernel) ?_
            refine ifn (by decide +kernel) ?_
            refine ifn (by decide +kernel) ?_
            try unfold wpX11_in
            refine ifn (lc_nlt (k := 0) (by decide +kernel) (by rw [Int32.toInt_toInt64]; omega)) ?_
            refine ifn (lc_ngt (k := 2) (by decide +kernel) (by rw [Int32.toInt_toInt64]; omega)) ?_
            refine ifn (by decide +kernel) ?_
            refine ifn (by decide +kernel) ?_
            try unfold wpX11_in
            refine ifn (lc_nlt (k := 0) (by decide +kernel) (by rw [Int32.toInt_toInt64]; omega)) ?_
            refine ifn (lc_ngt (k := 13) (by decide +kernel) (by rw [Int32.toInt_toInt64]; omega)) ?_
            refine ifn (by decide +kernel) ?_
            refine ⟨0 + 1 + 1 + 1 + 1 + 1 + 1 + 1 + 1 + 1 + 1 + 1 + 1, ?_⟩
            try unfold wX11_read_32
            refine ifn (i_nle (k := 0) (by decide +kernel) (by omega)) ?_
            refine ifp (by decide +kernel) ?_
            refine ⟨0 + 1 + 1 + 1 + 1 + 1 + 1 + 1 + 1 + 1 + 1 + 1 + 1, ?_⟩
            try unfold wX11_read_47
            refine ifn (by decide +kernel) ?_
            refine ifp (by decide +kernel) ?_
            refine And.intro (by unfold vp_in; decide +kernel) ?_
            refine ifp (by decide +kernel) ?_
            try unfold wX11_read_126
            try unfold wX11_read_47
            refine ifn (by decide +kernel) ?_
            refine ifn (by decide +kernel) ?_
            try unfold wX11_read_134
            refine ifn (by decide +kernel) ?_
            try unfold wX11_read_199
            try unfold wX11_read_32
            refine ifs (fun hc => ?_) (fun hc => ?_)
            · have hk3 := i_le_to (k := 1) (by decide +kernel) hc
              try unfold wX11_read_205
              intro W4 hW4; subst hW4
              refine ⟨0 + 1 + 1 + 1 + 1 + 1 + 1 + 1 + 1 + 1 + 1 + 1 + 1, ?_⟩
              try unfold wX11_read_214
              refine ifp (by decide +kernel) ?_
              exact fin2 h2 (by first | rfl | decide +kernel)
            · have hk5 := i_nle_to (k := 1) (by decide +kernel) hc
              refine ifn (by decide +kernel) ?_
              try unfold wX11_read_205
              intro W6 hW6; subst hW6
              refine ⟨0 + 1 + 1 + 1 + 1 + 1 + 1 + 1 + 1 + 1 + 1 + 1 + 1, ?_⟩
              try unfold wX11_read_214
              refine ifp (by decide +kernel) ?_
              exact fin2 h2 (by first | rfl | decide +kernel)
          · have hk7 := i_nle_to (k := 13) (by decide +kernel) hc
            refine H _ _ _ (fun post2 h2 => ?_)
            try unfold wpX11_read
            try unfold wpX11_isSheet
            try unfold wpX11_in
            refine ifn (by decide +kernel) ?_
            refine ifn (by decide +kernel) ?_
            refine ifn (by decide +kernel) ?_
            try unfold wpX11_in
            refine ifn (lc_nlt (k := 0) (by decide +kernel) (by rw [Int32.toInt_toInt64]; omega)) ?_
            refine ifn (lc_ngt (k := 2) (by decide +kernel) (by rw [Int32.toInt_toInt64]; omega)) ?_
            refine ifn (by decide +kernel) ?_
            refine ifn (by decide +kernel) ?_
            try unfold wpX11_in
            refine ifn (lc_nlt (k := 0) (by decide +kernel) (by rw [Int32.toInt_toInt64]; omega)) ?_
            refine ifp (lc_gt (k := 13) (by decide +kernel) (by rw [Int32.toInt_toInt64]; omega)) ?_
            refine ifp (by decide +kernel) ?_
            exact fin2 h2 (by first | rfl | decide +kernel)
      · skip
        try unfold wpX10_read
        try unfold wpX10_isSheet
        refine ifn (by decide +kernel) ?_
        refine ifn (by decide +kernel) ?_
        refine ifn (by decide +kernel) ?_
        try unfold wpX10_isLane
        refine ifn (i_nlt (k := 0) (by decide +kernel) (by omega)) ?_
        refine ifp (i_ge (k := 3) (by decide +kernel) (by omega)) ?_
        refine ifp (by decide +kernel) ?_
        refine H _ _ _ (fun post2 h2 => ?_)
        try unfold wpX11_read
        try unfold wpX11_isSheet
        try unfold wpX11_in
        refine ifn (by decide +kernel) ?_
        refine ifn (by decide +kernel) ?_
        refine ifn (by decide +kernel) ?_
        try unfold wpX11_in
        refine ifn (lc_nlt (k := 0) (by decide +kernel) (by rw [Int32.toInt_toInt64]; omega)) ?_
        refine ifp (lc_gt (k := 2) (by decide +kernel) (by rw [Int32.toInt_toInt64]; omega)) ?_
        refine ifp (by decide +kernel) ?_
        refine ifp (by decide +kernel) ?_
        exact fin2 h2 (by first | rfl | decide +kernel)
    · skip
      rcases tri v2 0 2 with hv2 | hv2 | hv2
      · skip
        try unfold wpX10_read
        try unfold wpX10_isSheet
        refine ifn (by decide +kernel) ?_
        refine ifn (by decide +kernel) ?_
        refine ifn (by decide +kernel) ?_
        try unfold wpX10_isLane
        refine ifp (i_lt (k := 0) (by decide +kernel) (by omega)) ?_
        refine ifp (by decide +kernel) ?_
        refine H _ _ _ (fun post2 h2 => ?_)
        try unfold wpX11_read
        try unfold wpX11_isSheet
        try unfold wpX11_in
        refine ifn (by decide +kernel) ?_
        refine ifn (by decide +kernel) ?_
        refine ifn (by decide +kernel) ?_
        try unfold wpX11_in
        refine ifp (lc_lt (k := 0) (by decide +kernel) (by rw [Int32.toInt_toInt64]; omega)) ?_
        refine ifp (by decide +kernel) ?_
        refine ifp (by decide +kernel) ?_
        exact fin2 h2 (by first | rfl | decide +kernel)
      · skip
        rcases tri v4 0 0 with hv4 | hv4 | hv4
        · skip
          try unfold wpX10_read
          try unfold wpX10_isSheet
          refine ifn (by decide +kernel) ?_
          refine ifn (by decide +kernel) ?_
          refine ifn (by decide +kernel) ?_
          try unfold wpX10_isLane
          refine ifn (i_nlt (k := 0) (by decide +kernel) (by omega)) ?_
          refine ifn (i_nge (k := 3) (by decide +kernel) (by omega)) ?_
          refine ifn (by decide +kernel) ?_
          refine ifp (i_lt (k := 0) (by decide +kernel) (by omega)) ?_
          refine H _ _ _ (fun post2 h2 => ?_)
          try unfold wpX11_read
          try unfold wpX11_isSheet
          try unfold wpX11_in
          refine ifn (by decide +kernel) ?_
          refine ifn (by decide +kernel) ?_
          refine ifn (by decide +kernel) ?_
          try unfold wpX11_in
          refine ifn (lc_nlt (k := 0) (by decide +kernel) (by rw [Int32.toInt_toInt64]; omega)) ?_
          refine ifn (lc_ngt (k := 2) (by decide +kernel) (by rw [Int32.toInt_toInt64]; omega)) ?_
          refine ifn (by decide +kernel) ?_
          refine ifn (by decide +kernel) ?_
          try unfold wpX11_in
          refine ifp (lc_lt (k := 0) (by decide +kernel) (by rw [Int32.toInt_toInt64]; omega)) ?_
          refine ifp (by decide +kernel) ?_
          exact fin2 h2 (by first | rfl | decide +kernel)
        · skip
          obtain ⟨cv4, rfl, hcv4⟩ := code_of (hi := 0) hv4 (by decide)
          rcases (by omega : cv4 = 0) with h <;> subst h
          · skip
            try unfold wpX10_read
            try unfold wpX10_isSheet
            refine ifn (by decide +kernel) ?_
            refine ifn (by decide +kernel) ?_
            refine ifn (by decide +kernel) ?_
            try unfold wpX10_isLane
            refine ifn (i_nlt (k := 0) (by decide +kernel) (by omega)) ?_
            refine ifn (i_nge (k := 3) (by decide +kernel) (by omega)) ?_
            refine ifn (by decide +kernel) ?_
            refine ifn (by decide +kernel) ?_
            refine ifp (by decide +kernel) ?_
            refine And.intro (by unfold vp_in; decide +kernel) ?_
            refine And.intro (by decide +kernel) ?_
            try unfold wpX8_faultOfReading
            refine And.intro (by decide +kernel) ?_
            try unfold wpX8_wholeThings
            refine And.intro (by decide +kernel) ?_
            refine ifp (by decide +kernel) ?_
            refine ifn (by decide +kernel) ?_
            refine ifp (by decide +kernel) ?_
            try unfold wX10_read_66
            refine ⟨0 + 1 + 1 + 1 + 1 + 1 + 1 + 1 + 1 + 1 + 1 + 1 + 1, ?_⟩
            try unfold wX10_read_71
            refine ifp (by decide +kernel) ?_
            refine ⟨0 + 1 + 1 + 1 + 1 + 1 + 1 + 1 + 1 + 1 + 1 + 1 + 1, ?_⟩
            try unfold wX10_read_142
            refine ifp (by decide +kernel) ?_
            intro W1 hW1; subst hW1
            refine H _ _ _ (fun post2 h2 => ?_)
            try unfold wpX11_read
            try unfold wpX11_isSheet
            try unfold wpX11_in
            refine ifn (by decide +kernel) ?_
            refine ifn (by decide +kernel) ?_
            refine ifn (by decide +kernel) ?_
            try unfold wpX11_in
            refine ifn (lc_nlt (k := 0) (by decide +kernel) (by rw [Int32.toInt_toInt64]; omega)) ?_
            refine ifn (lc_ngt (k := 2) (by decide +kernel) (by rw [Int32.toInt_toInt64]; omega)) ?_
            refine ifn (by decide +kernel) ?_
            refine ifn (by decide +kernel) ?_
            try unfold wpX11_in
            refine ifn (by decide +kernel) ?_
            refine ifn (by decide +kernel) ?_
            refine ifn (by decide +kernel) ?_
            refine ⟨0 + 1 + 1 + 1 + 1 + 1 + 1 + 1 + 1 + 1 + 1 + 1 + 1, ?_⟩
            try unfold wX11_read_32
            refine ifp (by decide +kernel) ?_
            try unfold wX11_read_205
            intro W2 hW2; subst hW2
            refine ⟨0 + 1 + 1 + 1 + 1 + 1 + 1 + 1 + 1 + 1 + 1 + 1 + 1, ?_⟩
            try unfold wX11_read_214
            refine ifp (by decide +kernel) ?_
            exact fin2 h2 (by first | rfl | decide +kernel)
        · skip
          try unfold wpX10_read
          try unfold wpX10_isSheet
          refine ifn (by decide +kernel) ?_
          refine ifn (by decide +kernel) ?_
          refine ifn (by decide +kernel) ?_
          try unfold wpX10_isLane
          refine ifn (i_nlt (k := 0) (by decide +kernel) (by omega)) ?_
          refine ifn (i_nge (k := 3) (by decide +kernel) (by omega)) ?_
          refine ifn (by decide +kernel) ?_
          refine ifn (i_nlt (k := 0) (by decide +kernel) (by omega)) ?_
          refine ifs (fun hc => ?_) (fun hc => ?_)
          · have hk1 := i_le_to (k := 13) (by decide +kernel) hc
            refine And.intro (by unfold vp_in; decide +kernel) ?_
            refine And.intro (by decide +kernel) ?_
            try unfold wpX8_faultOfReading
            refine And.intro (by decide +kernel) ?_
            try unfold wpX8_wholeThings
            refine And.intro (by decide +kernel) ?_
            refine ifp (by decide +kernel) ?_
            refine ifp (i_gt (k := 0) (by decide +kernel) (by omega)) ?_
            refine And.intro (by decide +kernel) ?_
            refine ifn (by decide +kernel) ?_
            refine ifn (by decide +kernel) ?_
            refine And.intro (by decide +kernel) ?_
            try unfold wpX8_wholeThings
            refine And.intro (by decide +kernel) ?_
            refine ifp (by decide +kernel) ?_
            try unfold wX10_read_66
            refine ⟨0 + 1 + 1 + 1 + 1 + 1 + 1 + 1 + 1 + 1 + 1 + 1 + 1, ?_⟩
            try unfold wX10_read_71
            refine ifp (by decide +kernel) ?_
            refine ⟨0 + 1 + 1 + 1 + 1 + 1 + 1 + 1 + 1 + 1 + 1 + 1 + 1, ?_⟩
            try unfold wX10_read_142
            refine ifp (by decide +kernel) ?_
            intro W2 hW2; subst hW2
            refine H _ _ _ (fun post2 h2 => ?_)
            try unfold wpX11_read
            try unfold wpX11_isSheet
            try unfold wpX11_in
            refine ifn (by decide +kernel) ?_
            refine ifn (by decide +kernel) ?_
            refine ifn (by decide +kernel) ?_
            try unfold wpX11_in
            refine ifn (lc_nlt (k := 0) (by decide +kernel) (by rw [Int32.toInt_toInt64]; omega)) ?_
            refine ifn (lc_ngt (k := 2) (by decide +kernel) (by rw [Int32.toInt_toInt64]; omega)) ?_
            refine ifn (by decide +kernel) ?_
            refine ifn (by decide +kernel) ?_
            try unfold wpX11_in
            refine ifn (lc_nlt (k := 0) (by decide +kernel) (by rw [Int32.toInt_toInt64]; omega)) ?_
            refine ifn (lc_ngt (k := 13) (by decide +kernel) (by rw [Int32.toInt_toInt64]; omega)) ?_
            refine ifn (by decide +kernel) ?_
            refine ⟨0 + 1 + 1 + 1 + 1 + 1 + 1 + 1 + 1 + 1 + 1 + 1 + 1, ?_⟩
            try unfold wX11_read_32
            refine ifn (i_nle (k := 0) (by decide +kernel) (by omega)) ?_
            refine ifp (by decide +kernel) ?_
            refine ⟨0 + 1 + 1 + 1 + 1 + 1 + 1 + 1 + 1 + 1 + 1 + 1 + 1, ?_⟩
            try unfold wX11_read_47
            refine ifn (by decide +kernel) ?_
            refine ifp (by decide +kernel) ?_
            refine And.intro (by unfold vp_in; decide +kernel) ?_
            refine ifp (by decide +kernel) ?_
            try unfold wX11_read_126
            try unfold wX11_read_47
            refine ifn (by decide +kernel) ?_
            refine ifn (by decide +kernel) ?_
            try unfold wX11_read_134
            refine ifn (by decide +kernel) ?_
            try unfold wX11_read_199
            try unfold wX11_read_32
            refine ifs (fun hc => ?_) (fun hc => ?_)
            · have hk3 := i_le_to (k := 1) (by decide +kernel) hc
              try unfold wX11_read_205
              intro W4 hW4; subst hW4
              refine ⟨0 + 1 + 1 + 1 + 1 + 1 + 1 + 1 + 1 + 1 + 1 + 1 + 1, ?_⟩
              try unfold wX11_read_214
              refine ifp (by decide +kernel) ?_
              exact fin2 h2 (by first | rfl | decide +kernel)
            · have hk5 := i_nle_to (k := 1) (by decide +kernel) hc
              refine ifn (by decide +kernel) ?_
              try unfold wX11_read_205
              intro W6 hW6; subst hW6
              refine ⟨0 + 1 + 1 + 1 + 1 + 1 + 1 + 1 + 1 + 1 + 1 + 1 + 1, ?_⟩
              try unfold wX11_read_214
              refine ifp (by decide +kernel) ?_
              exact fin2 h2 (by first | rfl | decide +kernel)
          · have hk7 := i_nle_to (k := 13) (by decide +kernel) hc
            refine H _ _ _ (fun post2 h2 => ?_)
            try unfold wpX11_read
            try unfold wpX11_isSheet
            try unfold wpX11_in
            refine ifn (by decide +kernel) ?_
            refine ifn (by decide +kernel) ?_
            refine ifn (by decide +kernel) ?_
            try unfold wpX11_in
            refine ifn (lc_nlt (k := 0) (by decide +kernel) (by rw [Int32.toInt_toInt64]; omega)) ?_
            refine ifn (lc_ngt (k := 2) (by decide +kernel) (by rw [Int32.toInt_toInt64]; omega)) ?_
            refine ifn (by decide +kernel) ?_
            refine ifn (by decide +kernel) ?_
            try unfold wpX11_in
            refine ifn (lc_nlt (k := 0) (by decide +kernel) (by rw [Int32.toInt_toInt64]; omega)) ?_
            refine ifp (lc_gt (k := 13) (by decide +kernel) (by rw [Int32.toInt_toInt64]; omega)) ?_
            refine ifp (by decide +kernel) ?_
            exact fin2 h2 (by first | rfl | decide +kernel)
      · skip
        try unfold wpX10_read
        try unfold wpX10_isSheet
        refine ifn (by decide +kernel) ?_
        refine ifn (by decide +kernel) ?_
        refine ifn (by decide +kernel) ?_
        try unfold wpX10_isLane
        refine ifn (i_nlt (k := 0) (by decide +kernel) (by omega)) ?_
        refine ifp (i_ge (k := 3) (by decide +kernel) (by omega)) ?_
        refine ifp (by decide +kernel) ?_
        refine H _ _ _ (fun post2 h2 => ?_)
        try unfold wpX11_read
        try unfold wpX11_isSheet
        try unfold wpX11_in
        refine ifn (by decide +kernel) ?_
        refine ifn (by decide +kernel) ?_
        refine ifn (by decide +kernel) ?_
        try unfold wpX11_in
        refine ifn (lc_nlt (k := 0) (by decide +kernel) (by rw [Int32.toInt_toInt64]; omega)) ?_
        refine ifp (lc_gt (k := 2) (by decide +kernel) (by rw [Int32.toInt_toInt64]; omega)) ?_
        refine ifp (by decide +kernel) ?_
        refine ifp (by decide +kernel) ?_
        exact fin2 h2 (by first | rfl | decide +kernel)
    · skip
      rcases tri v2 0 2 with hv2 | hv2 | hv2
      · skip
        try unfold wpX10_read
        try unfold wpX10_isSheet
        refine ifn (by decide +kernel) ?_
        refine ifn (by decide +kernel) ?_
        refine ifn (by decide +kernel) ?_
        try unfold wpX10_isLane
        refine ifp (i_lt (k := 0) (by decide +kernel) (by omega)) ?_
        refine ifp (by decide +kernel) ?_
        refine H _ _ _ (fun post2 h2 => ?_)
        try unfold wpX11_read
        try unfold wpX11_isSheet
        try unfold wpX11_in
        refine ifn (by decide +kernel) ?_
        refine ifn (by decide +kernel) ?_
        refine ifn (by decide +kernel) ?_
        try unfold wpX11_in
        refine ifp (lc_lt (k := 0) (by decide +kernel) (by rw [Int32.toInt_toInt64]; omega)) ?_
        refine ifp (by decide +kernel) ?_
        refine ifp (by decide +kernel) ?_
        exact fin2 h2 (by first | rfl | decide +kernel)
      · skip
        rcases tri v4 0 0 with hv4 | hv4 | hv4
        · skip
          try unfold wpX10_read
          try unfold wpX10_isSheet
          refine ifn (by decide +kernel) ?_
          refine ifn (by decide +kernel) ?_
          refine ifn (by decide +kernel) ?_
          try unfold wpX10_isLane
          refine ifn (i_nlt (k := 0) (by decide +kernel) (by omega)) ?_
          refine ifn (i_nge (k := 3) (by decide +kernel) (by omega)) ?_
          refine ifn (by decide +kernel) ?_
          refine ifp (i_lt (k := 0) (by decide +kernel) (by omega)) ?_
          refine H _ _ _ (fun post2 h2 => ?_)
          try unfold wpX11_read
          try unfold wpX11_isSheet
          try unfold wpX11_in
          refine ifn (by decide +kernel) ?_
          refine ifn (by decide +kernel) ?_
          refine ifn (by decide +kernel) ?_
          try unfold wpX11_in
          refine ifn (lc_nlt (k := 0) (by decide +kernel) (by rw [Int32.toInt_toInt64]; omega)) ?_
          refine ifn (lc_ngt (k := 2) (by decide +kernel) (by rw [Int32.toInt_toInt64]; omega)) ?_
          refine ifn (by decide +kernel) ?_
          refine ifn (by decide +kernel) ?_
          try unfold wpX11_in
          refine ifp (lc_lt (k := 0) (by decide +kernel) (by rw [Int32.toInt_toInt64]; omega)) ?_
          refine ifp (by decide +kernel) ?_
          exact fin2 h2 (by first | rfl | decide +kernel)
        · skip
          obtain ⟨cv4, rfl, hcv4⟩ := code_of (hi := 0) hv4 (by decide)
          rcases (by omega : cv4 = 0) with h <;> subst h
          · skip
            try unfold wpX10_read
            try unfold wpX10_isSheet
            refine ifn (by decide +kernel) ?_
            refine ifn (by decide +kernel) ?_
            refine ifn (by decide +kernel) ?_
            try unfold wpX10_isLane
            refine ifn (i_nlt (k := 0) (by decide +kernel) (by omega)) ?_
            refine ifn (i_nge (k := 3) (by decide +kernel) (by omega)) ?_
            refine ifn (by decide +kernel) ?_
            refine ifn (by decide +kernel) ?_
            refine ifp (by decide +kernel) ?_
            refine And.intro (by unfold vp_in; decide +kernel) ?_
            refine And.intro (by decide +kernel) ?_
            try unfold wpX8_faultOfReading
            refine And.intro (by decide +kernel) ?_
            try unfold wpX8_wholeThings
            refine And.intro (by decide +kernel) ?_
            refine ifp (by decide +kernel) ?_
            refine ifn (by decide +kernel) ?_
            refine ifp (by decide +kernel) ?_
            try unfold wX10_read_66
            refine ⟨0 + 1 + 1 + 1 + 1 + 1 + 1 + 1 + 1 + 1 + 1 + 1 + 1, ?_⟩
            try unfold wX10_read_71
            refine ifp (by decide +kernel) ?_
            refine ⟨0 + 1 + 1 + 1 + 1 + 1 + 1 + 1 + 1 + 1 + 1 + 1 + 1, ?_⟩
            try unfold wX10_read_142
            refine ifp (by decide +kernel) ?_
            intro W1 hW1; subst hW1
            refine H _ _ _ (fun post2 h2 => ?_)
            try unfold wpX11_read
            try unfold wpX11_isSheet
            try unfold wpX11_in
            refine ifn (by decide +kernel) ?_
            refine ifn (by decide +kernel) ?_
            refine ifn (by decide +kernel) ?_
            try unfold wpX11_in
            refine ifn (lc_nlt (k := 0) (by decide +kernel) (by rw [Int32.toInt_toInt64]; omega)) ?_
            refine ifn (lc_ngt (k := 2) (by decide +kernel) (by rw [Int32.toInt_toInt64]; omega)) ?_
            refine ifn (by decide +kernel) ?_
            refine ifn (by decide +kernel) ?_
            try unfold wpX11_in
            refine ifn (by decide +kernel) ?_
            refine ifn (by decide +kernel) ?_
            refine ifn (by decide +kernel) ?_
            refine ⟨0 + 1 + 1 + 1 + 1 + 1 + 1 + 1 + 1 + 1 + 1 + 1 + 1, ?_⟩
            try unfold wX11_read_32
            refine ifp (by decide +kernel) ?_
            try unfold wX11_read_205
            intro W2 hW2; subst hW2
            refine ⟨0 + 1 + 1 + 1 + 1 + 1 + 1 + 1 + 1 + 1 + 1 + 1 + 1, ?_⟩
            try unfold wX11_read_214
            refine ifp (by decide +kernel) ?_
            exact fin2 h2 (by first | rfl | decide +kernel)
        · skip
          try unfold wpX10_read
          try unfold wpX10_isSheet
          refine ifn (by decide +kernel) ?_
          refine ifn (by decide +kernel) ?_
          refine ifn (by decide +kernel) ?_
          try unfold wpX10_isLane
          refine ifn (i_nlt (k := 0) (by decide +kernel) (by omega)) ?_
          refine ifn (i_nge (k := 3) (by decide +kernel) (by omega)) ?_
          refine ifn (by decide +kernel) ?_
          refine ifn (i_nlt (k := 0) (by decide +kernel) (by omega)) ?_
          refine ifs (fun hc => ?_) (fun hc => ?_)
          · have hk1 := i_le_to (k := 13) (by decide +kernel) hc
            refine And.intro (by unfold vp_in; decide +kernel) ?_
            refine And.intro (by decide +kernel) ?_
            try unfold wpX8_faultOfReading
            refine And.intro (by decide +kernel) ?_
            try unfold wpX8_wholeThings
            refine And.intro (by decide +kernel) ?_
            refine ifp (by decide +kernel) ?_
            refine ifp (i_gt (k := 0) (by decide +kernel) (by omega)) ?_
            refine And.intro (by decide +kernel) ?_
            refine ifn (by decide +kernel) ?_
            refine ifn (by decide +kernel) ?_
            refine And.intro (by decide +kernel) ?_
            try unfold wpX8_wholeThings
            refine And.intro (by decide +kernel) ?_
            refine ifp (by decide +kernel) ?_
            try unfold wX10_read_66
            refine ⟨0 + 1 + 1 + 1 + 1 + 1 + 1 + 1 + 1 + 1 + 1 + 1 + 1, ?_⟩
            try unfold wX10_read_71
            refine ifp (by decide +kernel) ?_
            refine ⟨0 + 1 + 1 + 1 + 1 + 1 + 1 + 1 + 1 + 1 + 1 + 1 + 1, ?_⟩
            try unfold wX10_read_142
            refine ifp (by decide +kernel) ?_
            intro W2 hW2; subst hW2
            refine H _ _ _ (fun post2 h2 => ?_)
            try unfold wpX11_read
            try unfold wpX11_isSheet
            try unfold wpX11_in
            refine ifn (by decide +kernel) ?_
            refine ifn (by decide +kernel) ?_
            refine ifn (by decide +kernel) ?_
            try unfold wpX11_in
            refine ifn (lc_nlt (k := 0) (by decide +kernel) (by rw [Int32.toInt_toInt64]; omega)) ?_
            refine ifn (lc_ngt (k := 2) (by decide +kernel) (by rw [Int32.toInt_toInt64]; omega)) ?_
            refine ifn (by decide +kernel) ?_
            refine ifn (by decide +kernel) ?_
            try unfold wpX11_in
            refine ifn (lc_nlt (k := 0) (by decide +kernel) (by rw [Int32.toInt_toInt64]; omega)) ?_
            refine ifn (lc_ngt (k := 13) (by decide +kernel) (by rw [Int32.toInt_toInt64]; omega)) ?_
            refine ifn (by decide +kernel) ?_
            refine ⟨0 + 1 + 1 + 1 + 1 + 1 + 1 + 1 + 1 + 1 + 1 + 1 + 1, ?_⟩
            try unfold wX11_read_32
            refine ifn (i_nle (k := 0) (by decide +kernel) (by omega)) ?_
            refine ifp (by decide +kernel) ?_
            refine ⟨0 + 1 + 1 + 1 + 1 + 1 + 1 + 1 + 1 + 1 + 1 + 1 + 1, ?_⟩
            try unfold wX11_read_47
            refine ifn (by decide +kernel) ?_
            refine ifp (by decide +kernel) ?_
            refine And.intro (by unfold vp_in; decide +kernel) ?_
            refine ifp (by decide +kernel) ?_
            try unfold wX11_read_126
            try unfold wX11_read_47
            refine ifn (by decide +kernel) ?_
            refine ifn (by decide +kernel) ?_
            try unfold wX11_read_134
            refine ifn (by decide +kernel) ?_
            try unfold wX11_read_199
            try unfold wX11_read_32
            refine ifs (fun hc => ?_) (fun hc => ?_)
            · have hk3 := i_le_to (k := 1) (by decide +kernel) hc
              try unfold wX11_read_205
              intro W4 hW4; subst hW4
              refine ⟨0 + 1 + 1 + 1 + 1 + 1 + 1 + 1 + 1 + 1 + 1 + 1 + 1, ?_⟩
              try unfold wX11_read_214
              refine ifp (by decide +kernel) ?_
              exact fin2 h2 (by first | rfl | decide +kernel)
            · have hk5 := i_nle_to (k := 1) (by decide +kernel) hc
              refine ifn (by decide +kernel) ?_
              try unfold wX11_read_205
              intro W6 hW6; subst hW6
              refine ⟨0 + 1 + 1 + 1 + 1 + 1 + 1 + 1 + 1 + 1 + 1 + 1 + 1, ?_⟩
              try unfold wX11_read_214
              refine ifp (by decide +kernel) ?_
              exact fin2 h2 (by first | rfl | decide +kernel)
          · have hk7 := i_nle_to (k := 13) (by decide +kernel) hc
            refine H _ _ _ (fun post2 h2 => ?_)
            try unfold wpX11_read
            try unfold wpX11_isSheet
            try unfold wpX11_in
            refine ifn (by decide +kernel) ?_
            refine ifn (by decide +kernel) ?_
            refine ifn (by decide +kernel) ?_
            try unfold wpX11_in
            refine ifn (lc_nlt (k := 0) (by decide +kernel) (by rw [Int32.toInt_toInt64]; omega)) ?_
            refine ifn (lc_ngt (k := 2) (by decide +kernel) (by rw [Int32.toInt_toInt64]; omega)) ?_
            refine ifn (by decide +kernel) ?_
            refine ifn (by decide +kernel) ?_
            try unfold wpX11_in
            refine ifn (lc_nlt (k := 0) (by decide +kernel) (by rw [Int32.toInt_toInt64]; omega)) ?_
            refine ifp (lc_gt (k := 13) (by decide +kernel) (by rw [Int32.toInt_toInt64]; omega)) ?_
            refine ifp (by decide +kernel) ?_
            exact fin2 h2 (by first | rfl | decide +kernel)
      · skip
        try unfold wpX10_read
        try unfold wpX10_isSheet
        refine ifn (by decide +kernel) ?_
        refine ifn (by decide +kernel) ?_
        refine ifn (by decide +kernel) ?_
        try unfold wpX10_isLane
        refine ifn (i_nlt (k := 0) (by decide +kernel) (by omega)) ?_
        refine ifp (i_ge (k := 3) (by decide +kernel) (by omega)) ?_
        refine ifp (by decide +kernel) ?_
        refine H _ _ _ (fun post2 h2 => ?_)
        try unfold wpX11_read
        try unfold wpX11_isSheet
        try unfold wpX11_in
        refine ifn (by decide +kernel) ?_
        refine ifn (by decide +kernel) ?_
        refine ifn (by decide +kernel) ?_
        try unfold wpX11_in
        refine ifn (lc_nlt (k := 0) (by decide +kernel) (by rw [Int32.toInt_toInt64]; omega)) ?_
        refine ifp (lc_gt (k := 2) (by decide +kernel) (by rw [Int32.toInt_toInt64]; omega)) ?_
        refine ifp (by decide +kernel) ?_
        refine ifp (by decide +kernel) ?_
        exact fin2 h2 (by first | rfl | decide +kernel)
  · skip
    try unfold wpX10_read
    try unfold wpX10_isSheet
    refine ifn (i_nlt (k := 0) (by decide +kernel) (by omega)) ?_
    refine ifp (i_ge (k := 4) (by decide +kernel) (by omega)) ?_
    refine ifp (by decide +kernel) ?_
    refine H _ _ _ (fun post2 h2 => ?_)
    try unfold wpX11_read
    try unfold wpX11_isSheet
    try unfold wpX11_in
    refine ifn (lc_nlt (k := 0) (by decide +kernel) (by rw [Int32.toInt_toInt64]; omega)) ?_
    refine ifp (lc_gt (k := 3) (by decide +kernel) (by rw [Int32.toInt_toInt64]; omega)) ?_
    refine ifp (by decide +kernel) ?_
    refine ifp (by decide +kernel) ?_
    exact fin2 h2 (by first | rfl | decide +kernel)
theorem ev_count {cv1 : Nat} (he : epX10_count (fun cr cM ct => epX11_count (fun c2 _ _ => eqN cr c2) cM ct cv1) uM0 0 cv1 = true) (post1 : Int32 → MM → Int64 → Prop) (H : ∀ r1 M1 t1, (∀ post2 : Int32 → MM → Int64 → Prop, (∀ M2 t2, post2 r1 M2 t2) → wpX11_count post2 M1 t1 (nI cv1)) → post1 r1 M1 t1) : wpX10_count post1 M0 0 (nI cv1) :=
  spX10_count (q := fun cr cM ct => epX11_count (fun c2 _ _ => eqN cr c2) cM ct cv1) (fun r M tl cr cM ct hr hM ht h => H r M tl (fun post2 h2 => spX11_count (q := fun c2 _ _ => eqN cr c2) (fun r2 M2 t2 cr2 cM2 ct2 hr2 _ _ hh => fin2 h2 ((c_eq hr hr2).mpr hh)) hM ht rfl h)) dM0 rfl rfl he
set_option maxRecDepth 100000 in
theorem he_count : ∀ cv1, cv1 < 7 → epX10_count (fun cr cM ct => epX11_count (fun c2 _ _ => eqN cr c2) cM ct cv1) uM0 0 cv1 = true := by decide +kernel
set_option maxHeartbeats 4000000 in
set_option maxRecDepth 20000 in
theorem p_count (v1 : Int32) (post1 : Int32 → MM → Int64 → Prop) (H : ∀ r1 M1 t1, (∀ post2 : Int32 → MM → Int64 → Prop, (∀ M2 t2, post2 r1 M2 t2) → wpX11_count post2 M1 t1 v1) → post1 r1 M1 t1) : wpX10_count post1 M0 0 v1 := by
  rcases tri v1 0 6 with hv1 | hv1 | hv1
  · skip
    try unfold wpX10_count
    refine ifn (i_ne (k := 0) (by decide +kernel) (by omega)) ?_
    refine ifn (i_ne (k := 1) (by decide +kernel) (by omega)) ?_
    refine ifn (i_ne (k := 2) (by decide +kernel) (by omega)) ?_
    refine ifn (i_ne (k := 3) (by decide +kernel) (by omega)) ?_
    refine ifn (i_ne (k := 4) (by decide +kernel) (by omega)) ?_
    refine ifn (i_ne (k := 5) (by decide +kernel) (by omega)) ?_
    refine ifn (i_ne (k := 6) (by decide +kernel) (by omega)) ?_
    refine H _ _ _ (fun post2 h2 => ?_)
    try unfold wpX11_count
    refine ⟨0 + 1 + 1 + 1 + 1 + 1 + 1 + 1 + 1 + 1 + 1 + 1 + 1, ?_⟩
    try unfold wX11_count_4
    refine ifn (by decide +kernel) ?_
    try unfold wpX11_matchOf
    try unfold wpX11_matchBy
    refine ifp (by decide +kernel) ?_
    try unfold wX11_matchBy_17
    try unfold wpX11_in
    refine ifn (by decide +kernel) ?_
    refine ifn (by decide +kernel) ?_
    refine ifn (by decide +kernel) ?_
    refine ifn (by decide +kernel) ?_
    try unfold wX11_count_29
    try unfold wpX11_flag
    refine ifn (by decide +kernel) ?_
    try unfold wX11_count_4
    refine ifn (by decide +kernel) ?_
    try unfold wpX11_matchOf
    try unfold wpX11_matchBy
    refine ifp (by decide +kernel) ?_
    try unfold wX11_matchBy_17
    try unfold wpX11_in
    refine ifn (by decide +kernel) ?_
    refine ifn (by decide +kernel) ?_
    refine ifn (by decide +kernel) ?_
    refine ifn (by decide +kernel) ?_
    try unfold wX11_count_29
    try unfold wpX11_flag
    refine ifn (by decide +kernel) ?_
    try unfold wX11_count_4
    refine ifn (by decide +kernel) ?_
    try unfold wpX11_matchOf
    try unfold wpX11_matchBy
    refine ifp (by decide +kernel) ?_
    try unfold wX11_matchBy_17
    try unfold wpX11_in
    refine ifn (by decide +kernel) ?_
    refine ifn (by decide +kernel) ?_
    refine ifn (by decide +kernel) ?_
    refine ifn (by decide +kernel) ?_
    try unfold wX11_count_29
    try unfold wpX11_flag
    refine ifn (by decide +kernel) ?_
    try unfold wX11_count_4
    refine ifn (by decide +kernel) ?_
    try unfold wpX11_matchOf
    try unfold wpX11_matchBy
    refine ifp (by decide +kernel) ?_
    try unfold wX11_matchBy_17
    try unfold wpX11_in
    refine ifn (by decide +kernel) ?_
    refine ifn (by decide +kernel) ?_
    refine ifn (by decide +kernel) ?_
    refine ifn (by decide +kernel) ?_
    try unfold wX11_count_29
    try unfold wpX11_flag
    refine ifn (by decide +kernel) ?_
    try unfold wX11_count_4
    refine ifn (by decide +kernel) ?_
    try unfold wpX11_matchOf
    try unfold wpX11_matchBy
    refine ifp (by decide +kernel) ?_
    try unfold wX11_matchBy_17
    try unfold wpX11_in
    refine ifn (by decide +kernel) ?_
    refine ifn (by decide +kernel) ?_
    refine ifn (by decide +kernel) ?_
    refine ifn (by decide +kernel) ?_
    try unfold wX11_count_29
    try unfold wpX11_flag
    refine ifn (by decide +kernel) ?_
    try unfold wX11_count_4
    refine ifp (by decide +kernel) ?_
    refine ifn (i_ne (k := 0) (by decide +kernel) (by omega)) ?_
    refine ifn (i_ne (k := 1) (by decide +kernel) (by omega)) ?_
    refine ifn (i_ne (k := 2) (by decide +kernel) (by omega)) ?_
    refine ifn (i_ne (k := 3) (by decide +kernel) (by omega)) ?_
    refine ifn (i_ne (k := 4) (by decide +kernel) (by omega)) ?_
    refine ifn (i_ne (k := 5) (by decide +kernel) (by omega)) ?_
    refine ifn (i_ne (k := 6) (by decide +kernel) (by omega)) ?_
    exact fin2 h2 (by first | rfl | decide +kernel)
  · skip
    obtain ⟨cv1, rfl, hcv1⟩ := code_of (hi := 6) hv1 (by decide)
    exact ev_count (he_count cv1 hcv1) post1 H
  · skip
    try unfold wpX10_count
    refine ifn (i_ne (k := 0) (by decide +kernel) (by omega)) ?_
    refine ifn (i_ne (k := 1) (by decide +kernel) (by omega)) ?_
    refine ifn (i_ne (k := 2) (by decide +kernel) (by omega)) ?_
    refine ifn (i_ne (k := 3) (by decide +kernel) (by omega)) ?_
    refine ifn (i_ne (k := 4) (by decide +kernel) (by omega)) ?_
    refine ifn (i_ne (k := 5) (by decide +kernel) (by omega)) ?_
    refine ifn (i_ne (k := 6) (by decide +kernel) (by omega)) ?_
    refine H _ _ _ (fun post2 h2 => ?_)
    try unfold wpX11_count
    refine ⟨0 + 1 + 1 + 1 + 1 + 1 + 1 + 1 + 1 + 1 + 1 + 1 + 1, ?_⟩
    try unfold wX11_count_4
    refine ifn (by decide +kernel) ?_
    try unfold wpX11_matchOf
    try unfold wpX11_matchBy
    refine ifp (by decide +kernel) ?_
    try unfold wX11_matchBy_17
    try unfold wpX11_in
    refine ifn (by decide +kernel) ?_
    refine ifn (by decide +kernel) ?_
    refine ifn (by decide +kernel) ?_
    refine ifn (by decide +kernel) ?_
    try unfold wX11_count_29
    try unfold wpX11_flag
    refine ifn (by decide +kernel) ?_
    try unfold wX11_count_4
    refine ifn (by decide +kernel) ?_
    try unfold wpX11_matchOf
    try unfold wpX11_matchBy
    refine ifp (by decide +kernel) ?_
    try unfold wX11_matchBy_17
    try unfold wpX11_in
    refine ifn (by decide +kernel) ?_
    refine ifn (by decide +kernel) ?_
    refine ifn (by decide +kernel) ?_
    refine ifn (by decide +kernel) ?_
    try unfold wX11_count_29
    try unfold wpX11_flag
    refine ifn (by decide +kernel) ?_
    try unfold wX11_count_4
    refine ifn (by decide +kernel) ?_
    try unfold wpX11_matchOf
    try unfold wpX11_matchBy
    refine ifp (by decide +kernel) ?_
    try unfold wX11_matchBy_17
    try unfold wpX11_in
    refine ifn (by decide +kernel) ?_
    refine ifn (by decide +kernel) ?_
    refine ifn (by decide +kernel) ?_
    refine ifn (by decide +kernel) ?_
    try unfold wX11_count_29
    try unfold wpX11_flag
    refine ifn (by decide +kernel) ?_
    try unfold wX11_count_4
    refine ifn (by decide +kernel) ?_
    try unfold wpX11_matchOf
    try unfold wpX11_matchBy
    refine ifp (by decide +kernel) ?_
    try unfold wX11_matchBy_17
    try unfold wpX11_in
    refine ifn (by decide +kernel) ?_
    refine ifn (by decide +kernel) ?_
    refine ifn (by decide +kernel) ?_
    refine ifn (by decide +kernel) ?_
    try unfold wX11_count_29
    try unfold wpX11_flag
    refine ifn (by decide +kernel) ?_
    try unfold wX11_count_4
    refine ifn (by decide +kernel) ?_
    try unfold wpX11_matchOf
    try unfold wpX11_matchBy
    refine ifp (by decide +kernel) ?_
    try unfold wX11_matchBy_17
    try unfold wpX11_in
    refine ifn (by decide +kernel) ?_
    refine ifn (by decide +kernel) ?_
    refine ifn (by decide +kernel) ?_
    refine ifn (by decide +kernel) ?_
    try unfold wX11_count_29
    try unfold wpX11_flag
    refine ifn (by decide +kernel) ?_
    try unfold wX11_count_4
    refine ifp (by decide +kernel) ?_
    refine ifn (i_ne (k := 0) (by decide +kernel) (by omega)) ?_
    refine ifn (i_ne (k := 1) (by decide +kernel) (by omega)) ?_
    refine ifn (i_ne (k := 2) (by decide +kernel) (by omega)) ?_
    refine ifn (i_ne (k := 3) (by decide +kernel) (by omega)) ?_
    refine ifn (i_ne (k := 4) (by decide +kernel) (by omega)) ?_
    refine ifn (i_ne (k := 5) (by decide +kernel) (by omega)) ?_
    refine ifn (i_ne (k := 6) (by decide +kernel) (by omega)) ?_
    exact fin2 h2 (by first | rfl | decide +kernel)
theorem ev_sheet {cv1 cv2 cv3 : Nat} (he : epX10_sheet (fun cr cM ct => epX11_sheet (fun c2 _ _ => eqN cr c2) cM ct cv1 cv2 cv3) uM0 0 cv1 cv2 cv3 = true) (post1 : Int32 → MM → Int64 → Prop) (H : ∀ r1 M1 t1, (∀ post2 : Int32 → MM → Int64 → Prop, (∀ M2 t2, post2 r1 M2 t2) → wpX11_sheet post2 M1 t1 (nI cv1) (nI cv2) (nI cv3)) → post1 r1 M1 t1) : wpX10_sheet post1 M0 0 (nI cv1) (nI cv2) (nI cv3) :=
  spX10_sheet (q := fun cr cM ct => epX11_sheet (fun c2 _ _ => eqN cr c2) cM ct cv1 cv2 cv3) (fun r M tl cr cM ct hr hM ht h => H r M tl (fun post2 h2 => spX11_sheet (q := fun c2 _ _ => eqN cr c2) (fun r2 M2 t2 cr2 cM2 ct2 hr2 _ _ hh => fin2 h2 ((c_eq hr hr2).mpr hh)) hM ht rfl rfl rfl h)) dM0 rfl rfl rfl rfl he
set_option maxRecDepth 100000 in
theorem he_sheet : ∀ cv1, cv1 < 4 → ∀ cv2, cv2 < 3 → ∀ cv3, cv3 < 41 → epX10_sheet (fun cr cM ct => epX11_sheet (fun c2 _ _ => eqN cr c2) cM ct cv1 cv2 cv3) uM0 0 cv1 cv2 cv3 = true := by decide +kernel
set_option maxHeartbeats 4000000 in
set_option maxRecDepth 20000 in
theorem p_sheet (v1 v2 v3 : Int32) (post1 : Int32 → MM → Int64 → Prop) (H : ∀ r1 M1 t1, (∀ post2 : Int32 → MM → Int64 → Prop, (∀ M2 t2, post2 r1 M2 t2) → wpX11_sheet post2 M1 t1 v1 v2 v3) → post1 r1 M1 t1) : wpX10_sheet post1 M0 0 v1 v2 v3 := by
  rcases tri v1 0 3 with hv1 | hv1 | hv1
  · skip
    try unfold wpX10_sheet
    try unfold wpX10_isSheet
    refine ifp (i_lt (k := 0) (by decide +kernel) (by omega)) ?_
    refine ifp (by decide +kernel) ?_
    refine H _ _ _ (fun post2 h2 => ?_)
    try unfold wpX11_sheet
    try unfold wpX11_isSheet
    try unfold wpX11_in
    refine ifp (lc_lt (k := 0) (by decide +kernel) (by rw [Int32.toInt_toInt64]; omega)) ?_
    refine ifp (by decide +kernel) ?_
    refine ifp (by decide +kernel) ?_
    exact fin2 h2 (by first | rfl | decide +kernel)
  · skip
    rcases tri v2 0 2 with hv2 | hv2 | hv2
    · skip
      try unfold wpX10_sheet
      try unfold wpX10_isSheet
      refine ifn (i_nlt (k := 0) (by decide +kernel) (by omega)) ?_
      refine ifn (i_nge (k := 4) (by decide +kernel) (by omega)) ?_
      refine ifn (by decide +kernel) ?_
      try unfold wpX10_isLane
      refine ifp (i_lt (k := 0) (by decide +kernel) (by omega)) ?_
      refine ifp (by decide +kernel) ?_
      refine H _ _ _ (fun post2 h2 => ?_)
      try unfold wpX11_sheet
      try unfold wpX11_isSheet
      try unfold wpX11_in
      refine ifn (lc_nlt (k := 0) (by decide +kernel) (by rw [Int32.toInt_toInt64]; omega)) ?_
      refine ifn (lc_ngt (k := 3) (by decide +kernel) (by rw [Int32.toInt_toInt64]; omega)) ?_
      refine ifn (by decide +kernel) ?_
      try unfold wpX11_in
      refine ifp (lc_lt (k := 0) (by decide +kernel) (by rw [Int32.toInt_toInt64]; omega)) ?_
      refine ifp (by decide +kernel) ?_
      refine ifp (by decide +kernel) ?_
      exact fin2 h2 (by first | rfl | decide +kernel)
    · skip
      rcases tri v3 0 40 with hv3 | hv3 | hv3
      · skip
        try unfold wpX10_sheet
        try unfold wpX10_isSheet
        refine ifn (i_nlt (k := 0) (by decide +kernel) (by omega)) ?_
        refine ifn (i_nge (k := 4) (by decide +kernel) (by omega)) ?_
        refine ifn (by decide +kernel) ?_
        try unfold wpX10_isLane
        refine ifn (i_nlt (k := 0) (by decide +kernel) (by omega)) ?_
        refine ifn (i_nge (k := 3) (by decide +kernel) (by omega)) ?_
        refine ifn (by decide +kernel) ?_
        refine ifp (i_le (k := 40) (by decide +kernel) (by omega)) ?_
        refine ifn (i_nge (k := 0) (by decide +kernel) (by omega)) ?_
        refine H _ _ _ (fun post2 h2 => ?_)
        try unfold wpX11_sheet
        try unfold wpX11_isSheet
        try unfold wpX11_in
        refine ifn (lc_nlt (k := 0) (by decide +kernel) (by rw [Int32.toInt_toInt64]; omega)) ?_
        refine ifn (lc_ngt (k := 3) (by decide +kernel) (by rw [Int32.toInt_toInt64]; omega)) ?_
        refine ifn (by decide +kernel) ?_
        try unfold wpX11_in
        refine ifn (lc_nlt (k := 0) (by decide +kernel) (by rw [Int32.toInt_toInt64]; omega)) ?_
        refine ifn (lc_ngt (k := 2) (by decide +kernel) (by rw [Int32.toInt_toInt64]; omega)) ?_
        refine ifn (by decide +kernel) ?_
        refine ifn (by decide +kernel) ?_
        refine ifp (i_le (k := 40) (by decide +kernel) (by omega)) ?_
        refine ifn (i_nge (k := 0) (by decide +kernel) (by omega)) ?_
        exact fin2 h2 (by first | rfl | decide +kernel)
      · skip
        obtain ⟨cv1, rfl, hcv1⟩ := code_of (hi := 3) hv1 (by decide)
        obtain ⟨cv2, rfl, hcv2⟩ := code_of (hi := 2) hv2 (by decide)
        obtain ⟨cv3, rfl, hcv3⟩ := code_of (hi := 40) hv3 (by decide)
        exact ev_sheet (he_sheet cv1 hcv1 cv2 hcv2 cv3 hcv3) post1 H
      · skip
        try unfold wpX10_sheet
        try unfold wpX10_isSheet
        refine ifn (i_nlt (k := 0) (by decide +kernel) (by omega)) ?_
        refine ifn (i_nge (k := 4) (by decide +kernel) (by omega)) ?_
        refine ifn (by decide +kernel) ?_
        try unfold wpX10_isLane
        refine ifn (i_nlt (k := 0) (by decide +kernel) (by omega)) ?_
        refine ifn (i_nge (k := 3) (by decide +kernel) (by omega)) ?_
        refine ifn (by decide +kernel) ?_
        refine ifn (i_nle (k := 40) (by decide +kernel) (by omega)) ?_
        refine H _ _ _ (fun post2 h2 => ?_)
        try unfold wpX11_sheet
        try unfold wpX11_isSheet
        try unfold wpX11_in
        refine ifn (lc_nlt (k := 0) (by decide +kernel) (by rw [Int32.toInt_toInt64]; omega)) ?_
        refine ifn (lc_ngt (k := 3) (by decide +kernel) (by rw [Int32.toInt_toInt64]; omega)) ?_
        refine ifn (by decide +kernel) ?_
        try unfold wpX11_in
        refine ifn (lc_nlt (k := 0) (by decide +kernel) (by rw [Int32.toInt_toInt64]; omega)) ?_
        refine ifn (lc_ngt (k := 2) (by decide +kernel) (by rw [Int32.toInt_toInt64]; omega)) ?_
        refine ifn (by decide +kernel) ?_
        refine ifn (by decide +kernel) ?_
        refine ifn (i_nle (k := 40) (by decide +kernel) (by omega)) ?_
        exact fin2 h2 (by first | rfl | decide +kernel)
    · skip
      try unfold wpX10_sheet
      try unfold wpX10_isSheet
      refine ifn (i_nlt (k := 0) (by decide +kernel) (by omega)) ?_
      refine ifn (i_nge (k := 4) (by decide +kernel) (by omega)) ?_
      refine ifn (by decide +kernel) ?_
      try unfold wpX10_isLane
      refine ifn (i_nlt (k := 0) (by decide +kernel) (by omega)) ?_
      refine ifp (i_ge (k := 3) (by decide +kernel) (by omega)) ?_
      refine ifp (by decide +kernel) ?_
      refine H _ _ _ (fun post2 h2 => ?_)
      try unfold wpX11_sheet
      try unfold wpX11_isSheet
      try unfold wpX11_in
      refine ifn (lc_nlt (k := 0) (by decide +kernel) (by rw [Int32.toInt_toInt64]; omega)) ?_
      refine ifn (lc_ngt (k := 3) (by decide +kernel) (by rw [Int32.toInt_toInt64]; omega)) ?_
      refine ifn (by decide +kernel) ?_
      try unfold wpX11_in
      refine ifn (lc_nlt (k := 0) (by decide +kernel) (by rw [Int32.toInt_toInt64]; omega)) ?_
      refine ifp (lc_gt (k := 2) (by decide +kernel) (by rw [Int32.toInt_toInt64]; omega)) ?_
      refine ifp (by decide +kernel) ?_
      refine ifp (by decide +kernel) ?_
      exact fin2 h2 (by first | rfl | decide +kernel)
  · skip
    try unfold wpX10_sheet
    try unfold wpX10_isSheet
    refine ifn (i_nlt (k := 0) (by decide +kernel) (by omega)) ?_
    refine ifp (i_ge (k := 4) (by decide +kernel) (by omega)) ?_
    refine ifp (by decide +kernel) ?_
    refine H _ _ _ (fun post2 h2 => ?_)
    try unfold wpX11_sheet
    try unfold wpX11_isSheet
    try unfold wpX11_in
    refine ifn (lc_nlt (k := 0) (by decide +kernel) (by rw [Int32.toInt_toInt64]; omega)) ?_
    refine ifp (lc_gt (k := 3) (by decide +kernel) (by rw [Int32.toInt_toInt64]; omega)) ?_
    refine ifp (by decide +kernel) ?_
    refine ifp (by decide +kernel) ?_
    exact fin2 h2 (by first | rfl | decide +kernel)
