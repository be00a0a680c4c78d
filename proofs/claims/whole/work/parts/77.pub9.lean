/-! dial, drive -/
section PG
variable {k i : Nat} {o : Os} {m : Ms}
def gM (m : Ms) (n : Nat) (f : Int32) (x : UInt32) (y : UInt64) : Ms := (m_dials m + (1 : Int32), upd (m_isFine m) n f, vf_upd (m_rimF m) n x, vf_upd (m_placeF m) n FP.fconst0, vf_upd (m_rimD m) n y, vf_upd (m_placeD m) n FP.dconst0, vp_updL (m_lapsOf m) n (0 : Int64), m_drives m, m_sortOf m, m_pullOf m, m_gearOf m, m_pulled m, m_slots m, m_shafts m, m_many m, m_floats m, m_doubles m, m_seen m, m_failed m, m_counts m)
def gW (m : Ms) (n : Nat) (s : Int32) (p : UInt64) : Ms := (m_dials m, m_isFine m, m_rimF m, m_placeF m, m_rimD m, m_placeD m, m_lapsOf m, m_drives m + (1 : Int32), upd (m_sortOf m) n s, vf_upd (m_pullOf m) n p, upd (m_gearOf m) n (1 : Int32), upd (m_pulled m) n (0 : Int32), m_slots m, m_shafts m, m_many m, m_floats m, m_doubles m, m_seen m, m_failed m, m_counts m)
theorem pj_dials_dials (m : Ms) (v : Int32) : m_dials (s_dials m v) = v := by unfold m_dials s_dials; rfl
theorem pj_isFine_dials (m : Ms) (v : Int32) : m_isFine (s_dials m v) = m_isFine m := by unfold m_isFine s_dials; rfl
theorem pj_rimF_dials (m : Ms) (v : Int32) : m_rimF (s_dials m v) = m_rimF m := by unfold m_rimF s_dials; rfl
theorem pj_placeF_dials (m : Ms) (v : Int32) : m_placeF (s_dials m v) = m_placeF m := by unfold m_placeF s_dials; rfl
theorem pj_rimD_dials (m : Ms) (v : Int32) : m_rimD (s_dials m v) = m_rimD m := by unfold m_rimD s_dials; rfl
theorem pj_placeD_dials (m : Ms) (v : Int32) : m_placeD (s_dials m v) = m_placeD m := by unfold m_placeD s_dials; rfl
theorem pj_lapsOf_dials (m : Ms) (v : Int32) : m_lapsOf (s_dials m v) = m_lapsOf m := by unfold m_lapsOf s_dials; rfl
theorem pj_drives_dials (m : Ms) (v : Int32) : m_drives (s_dials m v) = m_drives m := by unfold m_drives s_dials; rfl
theorem pj_sortOf_dials (m : Ms) (v : Int32) : m_sortOf (s_dials m v) = m_sortOf m := by unfold m_sortOf s_dials; rfl
theorem pj_pullOf_dials (m : Ms) (v : Int32) : m_pullOf (s_dials m v) = m_pullOf m := by unfold m_pullOf s_dials; rfl
theorem pj_gearOf_dials (m : Ms) (v : Int32) : m_gearOf (s_dials m v) = m_gearOf m := by unfold m_gearOf s_dials; rfl
theorem pj_pulled_dials (m : Ms) (v : Int32) : m_pulled (s_dials m v) = m_pulled m := by unfold m_pulled s_dials; rfl
theorem pj_slots_dials (m : Ms) (v : Int32) : m_slots (s_dials m v) = m_slots m := by unfold m_slots s_dials; rfl
theorem pj_shafts_dials (m : Ms) (v : Int32) : m_shafts (s_dials m v) = m_shafts m := by unfold m_shafts s_dials; rfl
theorem pj_many_dials (m : Ms) (v : Int32) : m_many (s_dials m v) = m_many m := by unfold m_many s_dials; rfl
theorem pj_floats_dials (m : Ms) (v : Int32) : m_floats (s_dials m v) = m_floats m := by unfold m_floats s_dials; rfl
theorem pj_doubles_dials (m : Ms) (v : Int32) : m_doubles (s_dials m v) = m_doubles m := by unfold m_doubles s_dials; rfl
theorem pj_seen_dials (m : Ms) (v : Int32) : m_seen (s_dials m v) = m_seen m := by unfold m_seen s_dials; rfl
theorem pj_failed_dials (m : Ms) (v : Int32) : m_failed (s_dials m v) = m_failed m := by unfold m_failed s_dials; rfl
theorem pj_counts_dials (m : Ms) (v : Int32) : m_counts (s_dials m v) = m_counts m := by unfold m_counts s_dials; rfl
theorem pj_dials_isFine (m : Ms) (v : Nat → Int32) : m_dials (s_isFine m v) = m_dials m := by unfold m_dials s_isFine; rfl
theorem pj_isFine_isFine (m : Ms) (v : Nat → Int32) : m_isFine (s_isFine m v) = v := by unfold m_isFine s_isFine; rfl
theorem pj_rimF_isFine (m : Ms) (v : Nat → Int32) : m_rimF (s_isFine m v) = m_rimF m := by unfold m_rimF s_isFine; rfl
theorem pj_placeF_isFine (m : Ms) (v : Nat → Int32) : m_placeF (s_isFine m v) = m_placeF m := by unfold m_placeF s_isFine; rfl
theorem pj_rimD_isFine (m : Ms) (v : Nat → Int32) : m_rimD (s_isFine m v) = m_rimD m := by unfold m_rimD s_isFine; rfl
theorem pj_placeD_isFine (m : Ms) (v : Nat → Int32) : m_placeD (s_isFine m v) = m_placeD m := by unfold m_placeD s_isFine; rfl
theorem pj_lapsOf_isFine (m : Ms) (v : Nat → Int32) : m_lapsOf (s_isFine m v) = m_lapsOf m := by unfold m_lapsOf s_isFine; rfl
theorem pj_drives_isFine (m : Ms) (v : Nat → Int32) : m_drives (s_isFine m v) = m_drives m := by unfold m_drives s_isFine; rfl
theorem pj_sortOf_isFine (m : Ms) (v : Nat → Int32) : m_sortOf (s_isFine m v) = m_sortOf m := by unfold m_sortOf s_isFine; rfl
theorem pj_pullOf_isFine (m : Ms) (v : Nat → Int32) : m_pullOf (s_isFine m v) = m_pullOf m := by unfold m_pullOf s_isFine; rfl
theorem pj_gearOf_isFine (m : Ms) (v : Nat → Int32) : m_gearOf (s_isFine m v) = m_gearOf m := by unfold m_gearOf s_isFine; rfl
theorem pj_pulled_isFine (m : Ms) (v : Nat → Int32) : m_pulled (s_isFine m v) = m_pulled m := by unfold m_pulled s_isFine; rfl
theorem pj_slots_isFine (m : Ms) (v : Nat → Int32) : m_slots (s_isFine m v) = m_slots m := by unfold m_slots s_isFine; rfl
theorem pj_shafts_isFine (m : Ms) (v : Nat → Int32) : m_shafts (s_isFine m v) = m_shafts m := by unfold m_shafts s_isFine; rfl
theorem pj_many_isFine (m : Ms) (v : Nat → Int32) : m_many (s_isFine m v) = m_many m := by unfold m_many s_isFine; rfl
theorem pj_floats_isFine (m : Ms) (v : Nat → Int32) : m_floats (s_isFine m v) = m_floats m := by unfold m_floats s_isFine; rfl
theorem pj_doubles_isFine (m : Ms) (v : Nat → Int32) : m_doubles (s_isFine m v) = m_doubles m := by unfold m_doubles s_isFine; rfl
theorem pj_seen_isFine (m : Ms) (v : Nat → Int32) : m_seen (s_isFine m v) = m_seen m := by unfold m_seen s_isFine; rfl
theorem pj_failed_isFine (m : Ms) (v : Nat → Int32) : m_failed (s_isFine m v) = m_failed m := by unfold m_failed s_isFine; rfl
theorem pj_counts_isFine (m : Ms) (v : Nat → Int32) : m_counts (s_isFine m v) = m_counts m := by unfold m_counts s_isFine; rfl
theorem pj_dials_rimF (m : Ms) (v : Nat → UInt32) : m_dials (s_rimF m v) = m_dials m := by unfold m_dials s_rimF; rfl
theorem pj_isFine_rimF (m : Ms) (v : Nat → UInt32) : m_isFine (s_rimF m v) = m_isFine m := by unfold m_isFine s_rimF; rfl
theorem pj_rimF_rimF (m : Ms) (v : Nat → UInt32) : m_rimF (s_rimF m v) = v := by unfold m_rimF s_rimF; rfl
theorem pj_placeF_rimF (m : Ms) (v : Nat → UInt32) : m_placeF (s_rimF m v) = m_placeF m := by unfold m_placeF s_rimF; rfl
theorem pj_rimD_rimF (m : Ms) (v : Nat → UInt32) : m_rimD (s_rimF m v) = m_rimD m := by unfold m_rimD s_rimF; rfl
theorem pj_placeD_rimF (m : Ms) (v : Nat → UInt32) : m_placeD (s_rimF m v) = m_placeD m := by unfold m_placeD s_rimF; rfl
theorem pj_lapsOf_rimF (m : Ms) (v : Nat → UInt32) : m_lapsOf (s_rimF m v) = m_lapsOf m := by unfold m_lapsOf s_rimF; rfl
theorem pj_drives_rimF (m : Ms) (v : Nat → UInt32) : m_drives (s_rimF m v) = m_drives m := by unfold m_drives s_rimF; rfl
theorem pj_sortOf_rimF (m : Ms) (v : Nat → UInt32) : m_sortOf (s_rimF m v) = m_sortOf m := by unfold m_sortOf s_rimF; rfl
theorem pj_pullOf_rimF (m : Ms) (v : Nat → UInt32) : m_pullOf (s_rimF m v) = m_pullOf m := by unfold m_pullOf s_rimF; rfl
theorem pj_gearOf_rimF (m : Ms) (v : Nat → UInt32) : m_gearOf (s_rimF m v) = m_gearOf m := by unfold m_gearOf s_rimF; rfl
theorem pj_pulled_rimF (m : Ms) (v : Nat → UInt32) : m_pulled (s_rimF m v) = m_pulled m := by unfold m_pulled s_rimF; rfl
theorem pj_slots_rimF (m : Ms) (v : Nat → UInt32) : m_slots (s_rimF m v) = m_slots m := by unfold m_slots s_rimF; rfl
theorem pj_shafts_rimF (m : Ms) (v : Nat → UInt32) : m_shafts (s_rimF m v) = m_shafts m := by unfold m_shafts s_rimF; rfl
theorem pj_many_rimF (m : Ms) (v : Nat → UInt32) : m_many (s_rimF m v) = m_many m := by unfold m_many s_rimF; rfl
theorem pj_floats_rimF (m : Ms) (v : Nat → UInt32) : m_floats (s_rimF m v) = m_floats m := by unfold m_floats s_rimF; rfl
theorem pj_doubles_rimF (m : Ms) (v : Nat → UInt32) : m_doubles (s_rimF m v) = m_doubles m := by unfold m_doubles s_rimF; rfl
theorem pj_seen_rimF (m : Ms) (v : Nat → UInt32) : m_seen (s_rimF m v) = m_seen m := by unfold m_seen s_rimF; rfl
theorem pj_failed_rimF (m : Ms) (v : Nat → UInt32) : m_failed (s_rimF m v) = m_failed m := by unfold m_failed s_rimF; rfl
theorem pj_counts_rimF (m : Ms) (v : Nat → UInt32) : m_counts (s_rimF m v) = m_counts m := by unfold m_counts s_rimF; rfl
theorem pj_dials_placeF (m : Ms) (v : Nat → UInt32) : m_dials (s_placeF m v) = m_dials m := by unfold m_dials s_placeF; rfl
theorem pj_isFine_placeF (m : Ms) (v : Nat → UInt32) : m_isFine (s_placeF m v) = m_isFine m := by unfold m_isFine s_placeF; rfl
theorem pj_rimF_placeF (m : Ms) (v : Nat → UInt32) : m_rimF (s_placeF m v) = m_rimF m := by unfold m_rimF s_placeF; rfl
theorem pj_placeF_placeF (m : Ms) (v : Nat → UInt32) : m_placeF (s_placeF m v) = v := by unfold m_placeF s_placeF; rfl
theorem pj_rimD_placeF (m : Ms) (v : Nat → UInt32) : m_rimD (s_placeF m v) = m_rimD m := by unfold m_rimD s_placeF; rfl
theorem pj_placeD_placeF (m : Ms) (v : Nat → UInt32) : m_placeD (s_placeF m v) = m_placeD m := by unfold m_placeD s_placeF; rfl
theorem pj_lapsOf_placeF (m : Ms) (v : Nat → UInt32) : m_lapsOf (s_placeF m v) = m_lapsOf m := by unfold m_lapsOf s_placeF; rfl
theorem pj_drives_placeF (m : Ms) (v : Nat → UInt32) : m_drives (s_placeF m v) = m_drives m := by unfold m_drives s_placeF; rfl
theorem pj_sortOf_placeF (m : Ms) (v : Nat → UInt32) : m_sortOf (s_placeF m v) = m_sortOf m := by unfold m_sortOf s_placeF; rfl
theorem pj_pullOf_placeF (m : Ms) (v : Nat → UInt32) : m_pullOf (s_placeF m v) = m_pullOf m := by unfold m_pullOf s_placeF; rfl
theorem pj_gearOf_placeF (m : Ms) (v : Nat → UInt32) : m_gearOf (s_placeF m v) = m_gearOf m := by unfold m_gearOf s_placeF; rfl
theorem pj_pulled_placeF (m : Ms) (v : Nat → UInt32) : m_pulled (s_placeF m v) = m_pulled m := by unfold m_pulled s_placeF; rfl
theorem pj_slots_placeF (m : Ms) (v : Nat → UInt32) : m_slots (s_placeF m v) = m_slots m := by unfold m_slots s_placeF; rfl
theorem pj_shafts_placeF (m : Ms) (v : Nat → UInt32) : m_shafts (s_placeF m v) = m_shafts m := by unfold m_shafts s_placeF; rfl
theorem pj_many_placeF (m : Ms) (v : Nat → UInt32) : m_many (s_placeF m v) = m_many m := by unfold m_many s_placeF; rfl
theorem pj_floats_placeF (m : Ms) (v : Nat → UInt32) : m_floats (s_placeF m v) = m_floats m := by unfold m_floats s_placeF; rfl
theorem pj_doubles_placeF (m : Ms) (v : Nat → UInt32) : m_doubles (s_placeF m v) = m_doubles m := by unfold m_doubles s_placeF; rfl
theorem pj_seen_placeF (m : Ms) (v : Nat → UInt32) : m_seen (s_placeF m v) = m_seen m := by unfold m_seen s_placeF; rfl
theorem pj_failed_placeF (m : Ms) (v : Nat → UInt32) : m_failed (s_placeF m v) = m_failed m := by unfold m_failed s_placeF; rfl
theorem pj_counts_placeF (m : Ms) (v : Nat → UInt32) : m_counts (s_placeF m v) = m_counts m := by unfold m_counts s_placeF; rfl
theorem pj_dials_rimD (m : Ms) (v : Nat → UInt64) : m_dials (s_rimD m v) = m_dials m := by unfold m_dials s_rimD; rfl
theorem pj_isFine_rimD (m : Ms) (v : Nat → UInt64) : m_isFine (s_rimD m v) = m_isFine m := by unfold m_isFine s_rimD; rfl
theorem pj_rimF_rimD (m : Ms) (v : Nat → UInt64) : m_rimF (s_rimD m v) = m_rimF m := by unfold m_rimF s_rimD; rfl
theorem pj_placeF_rimD (m : Ms) (v : Nat → UInt64) : m_placeF (s_rimD m v) = m_placeF m := by unfold m_placeF s_rimD; rfl
theorem pj_rimD_rimD (m : Ms) (v : Nat → UInt64) : m_rimD (s_rimD m v) = v := by unfold m_rimD s_rimD; rfl
theorem pj_placeD_rimD (m : Ms) (v : Nat → UInt64) : m_placeD (s_rimD m v) = m_placeD m := by unfold m_placeD s_rimD; rfl
theorem pj_lapsOf_rimD (m : Ms) (v : Nat → UInt64) : m_lapsOf (s_rimD m v) = m_lapsOf m := by unfold m_lapsOf s_rimD; rfl
theorem pj_drives_rimD (m : Ms) (v : Nat → UInt64) : m_drives (s_rimD m v) = m_drives m := by unfold m_drives s_rimD; rfl
theorem pj_sortOf_rimD (m : Ms) (v : Nat → UInt64) : m_sortOf (s_rimD m v) = m_sortOf m := by unfold m_sortOf s_rimD; rfl
theorem pj_pullOf_rimD (m : Ms) (v : Nat → UInt64) : m_pullOf (s_rimD m v) = m_pullOf m := by unfold m_pullOf s_rimD; rfl
theorem pj_gearOf_rimD (m : Ms) (v : Nat → UInt64) : m_gearOf (s_rimD m v) = m_gearOf m := by unfold m_gearOf s_rimD; rfl
theorem pj_pulled_rimD (m : Ms) (v : Nat → UInt64) : m_pulled (s_rimD m v) = m_pulled m := by unfold m_pulled s_rimD; rfl
theorem pj_slots_rimD (m : Ms) (v : Nat → UInt64) : m_slots (s_rimD m v) = m_slots m := by unfold m_slots s_rimD; rfl
theorem pj_shafts_rimD (m : Ms) (v : Nat → UInt64) : m_shafts (s_rimD m v) = m_shafts m := by unfold m_shafts s_rimD; rfl
theorem pj_many_rimD (m : Ms) (v : Nat → UInt64) : m_many (s_rimD m v) = m_many m := by unfold m_many s_rimD; rfl
theorem pj_floats_rimD (m : Ms) (v : Nat → UInt64) : m_floats (s_rimD m v) = m_floats m := by unfold m_floats s_rimD; rfl
theorem pj_doubles_rimD (m : Ms) (v : Nat → UInt64) : m_doubles (s_rimD m v) = m_doubles m := by unfold m_doubles s_rimD; rfl
theorem pj_seen_rimD (m : Ms) (v : Nat → UInt64) : m_seen (s_rimD m v) = m_seen m := by unfold m_seen s_rimD; rfl
theorem pj_failed_rimD (m : Ms) (v : Nat → UInt64) : m_failed (s_rimD m v) = m_failed m := by unfold m_failed s_rimD; rfl
theorem pj_counts_rimD (m : Ms) (v : Nat → UInt64) : m_counts (s_rimD m v) = m_counts m := by unfold m_counts s_rimD; rfl
theorem pj_dials_placeD (m : Ms) (v : Nat → UInt64) : m_dials (s_placeD m v) = m_dials m := by unfold m_dials s_placeD; rfl
theorem pj_isFine_placeD (m : Ms) (v : Nat → UInt64) : m_isFine (s_placeD m v) = m_isFine m := by unfold m_isFine s_placeD; rfl
theorem pj_rimF_placeD (m : Ms) (v : Nat → UInt64) : m_rimF (s_placeD m v) = m_rimF m := by unfold m_rimF s_placeD; rfl
theorem pj_placeF_placeD (m : Ms) (v : Nat → UInt64) : m_placeF (s_placeD m v) = m_placeF m := by unfold m_placeF s_placeD; rfl
theorem pj_rimD_placeD (m : Ms) (v : Nat → UInt64) : m_rimD (s_placeD m v) = m_rimD m := by unfold m_rimD s_placeD; rfl
theorem pj_placeD_placeD (m : Ms) (v : Nat → UInt64) : m_placeD (s_placeD m v) = v := by unfold m_placeD s_placeD; rfl
theorem pj_lapsOf_placeD (m : Ms) (v : Nat → UInt64) : m_lapsOf (s_placeD m v) = m_lapsOf m := by unfold m_lapsOf s_placeD; rfl
theorem pj_drives_placeD (m : Ms) (v : Nat → UInt64) : m_drives (s_placeD m v) = m_drives m := by unfold m_drives s_placeD; rfl
theorem pj_sortOf_placeD (m : Ms) (v : Nat → UInt64) : m_sortOf (s_placeD m v) = m_sortOf m := by unfold m_sortOf s_placeD; rfl
theorem pj_pullOf_placeD (m : Ms) (v : Nat → UInt64) : m_pullOf (s_placeD m v) = m_pullOf m := by unfold m_pullOf s_placeD; rfl
theorem pj_gearOf_placeD (m : Ms) (v : Nat → UInt64) : m_gearOf (s_placeD m v) = m_gearOf m := by unfold m_gearOf s_placeD; rfl
theorem pj_pulled_placeD (m : Ms) (v : Nat → UInt64) : m_pulled (s_placeD m v) = m_pulled m := by unfold m_pulled s_placeD; rfl
theorem pj_slots_placeD (m : Ms) (v : Nat → UInt64) : m_slots (s_placeD m v) = m_slots m := by unfold m_slots s_placeD; rfl
theorem pj_shafts_placeD (m : Ms) (v : Nat → UInt64) : m_shafts (s_placeD m v) = m_shafts m := by unfold m_shafts s_placeD; rfl
theorem pj_many_placeD (m : Ms) (v : Nat → UInt64) : m_many (s_placeD m v) = m_many m := by unfold m_many s_placeD; rfl
theorem pj_floats_placeD (m : Ms) (v : Nat → UInt64) : m_floats (s_placeD m v) = m_floats m := by unfold m_floats s_placeD; rfl
theorem pj_doubles_placeD (m : Ms) (v : Nat → UInt64) : m_doubles (s_placeD m v) = m_doubles m := by unfold m_doubles s_placeD; rfl
theorem pj_seen_placeD (m : Ms) (v : Nat → UInt64) : m_seen (s_placeD m v) = m_seen m := by unfold m_seen s_placeD; rfl
theorem pj_failed_placeD (m : Ms) (v : Nat → UInt64) : m_failed (s_placeD m v) = m_failed m := by unfold m_failed s_placeD; rfl
theorem pj_counts_placeD (m : Ms) (v : Nat → UInt64) : m_counts (s_placeD m v) = m_counts m := by unfold m_counts s_placeD; rfl
theorem pj_dials_lapsOf (m : Ms) (v : Nat → Int64) : m_dials (s_lapsOf m v) = m_dials m := by unfold m_dials s_lapsOf; rfl
theorem pj_isFine_lapsOf (m : Ms) (v : Nat → Int64) : m_isFine (s_lapsOf m v) = m_isFine m := by unfold m_isFine s_lapsOf; rfl
theorem pj_rimF_lapsOf (m : Ms) (v : Nat → Int64) : m_rimF (s_lapsOf m v) = m_rimF m := by unfold m_rimF s_lapsOf; rfl
theorem pj_placeF_lapsOf (m : Ms) (v : Nat → Int64) : m_placeF (s_lapsOf m v) = m_placeF m := by unfold m_placeF s_lapsOf; rfl
theorem pj_rimD_lapsOf (m : Ms) (v : Nat → Int64) : m_rimD (s_lapsOf m v) = m_rimD m := by unfold m_rimD s_lapsOf; rfl
theorem pj_placeD_lapsOf (m : Ms) (v : Nat → Int64) : m_placeD (s_lapsOf m v) = m_placeD m := by unfold m_placeD s_lapsOf; rfl
theorem pj_lapsOf_lapsOf (m : Ms) (v : Nat → Int64) : m_lapsOf (s_lapsOf m v) = v := by unfold m_lapsOf s_lapsOf; rfl
theorem pj_drives_lapsOf (m : Ms) (v : Nat → Int64) : m_drives (s_lapsOf m v) = m_drives m := by unfold m_drives s_lapsOf; rfl
theorem pj_sortOf_lapsOf (m : Ms) (v : Nat → Int64) : m_sortOf (s_lapsOf m v) = m_sortOf m := by unfold m_sortOf s_lapsOf; rfl
theorem pj_pullOf_lapsOf (m : Ms) (v : Nat → Int64) : m_pullOf (s_lapsOf m v) = m_pullOf m := by unfold m_pullOf s_lapsOf; rfl
theorem pj_gearOf_lapsOf (m : Ms) (v : Nat → Int64) : m_gearOf (s_lapsOf m v) = m_gearOf m := by unfold m_gearOf s_lapsOf; rfl
theorem pj_pulled_lapsOf (m : Ms) (v : Nat → Int64) : m_pulled (s_lapsOf m v) = m_pulled m := by unfold m_pulled s_lapsOf; rfl
theorem pj_slots_lapsOf (m : Ms) (v : Nat → Int64) : m_slots (s_lapsOf m v) = m_slots m := by unfold m_slots s_lapsOf; rfl
theorem pj_shafts_lapsOf (m : Ms) (v : Nat → Int64) : m_shafts (s_lapsOf m v) = m_shafts m := by unfold m_shafts s_lapsOf; rfl
theorem pj_many_lapsOf (m : Ms) (v : Nat → Int64) : m_many (s_lapsOf m v) = m_many m := by unfold m_many s_lapsOf; rfl
theorem pj_floats_lapsOf (m : Ms) (v : Nat → Int64) : m_floats (s_lapsOf m v) = m_floats m := by unfold m_floats s_lapsOf; rfl
theorem pj_doubles_lapsOf (m : Ms) (v : Nat → Int64) : m_doubles (s_lapsOf m v) = m_doubles m := by unfold m_doubles s_lapsOf; rfl
theorem pj_seen_lapsOf (m : Ms) (v : Nat → Int64) : m_seen (s_lapsOf m v) = m_seen m := by unfold m_seen s_lapsOf; rfl
theorem pj_failed_lapsOf (m : Ms) (v : Nat → Int64) : m_failed (s_lapsOf m v) = m_failed m := by unfold m_failed s_lapsOf; rfl
theorem pj_counts_lapsOf (m : Ms) (v : Nat → Int64) : m_counts (s_lapsOf m v) = m_counts m := by unfold m_counts s_lapsOf; rfl
theorem pj_dials_drives (m : Ms) (v : Int32) : m_dials (s_drives m v) = m_dials m := by unfold m_dials s_drives; rfl
theorem pj_isFine_drives (m : Ms) (v : Int32) : m_isFine (s_drives m v) = m_isFine m := by unfold m_isFine s_drives; rfl
theorem pj_rimF_drives (m : Ms) (v : Int32) : m_rimF (s_drives m v) = m_rimF m := by unfold m_rimF s_drives; rfl
theorem pj_placeF_drives (m : Ms) (v : Int32) : m_placeF (s_drives m v) = m_placeF m := by unfold m_placeF s_drives; rfl
theorem pj_rimD_drives (m : Ms) (v : Int32) : m_rimD (s_drives m v) = m_rimD m := by unfold m_rimD s_drives; rfl
theorem pj_placeD_drives (m : Ms) (v : Int32) : m_placeD (s_drives m v) = m_placeD m := by unfold m_placeD s_drives; rfl
theorem pj_lapsOf_drives (m : Ms) (v : Int32) : m_lapsOf (s_drives m v) = m_lapsOf m := by unfold m_lapsOf s_drives; rfl
theorem pj_drives_drives (m : Ms) (v : Int32) : m_drives (s_drives m v) = v := by unfold m_drives s_drives; rfl
theorem pj_sortOf_drives (m : Ms) (v : Int32) : m_sortOf (s_drives m v) = m_sortOf m := by unfold m_sortOf s_drives; rfl
theorem pj_pullOf_drives (m : Ms) (v : Int32) : m_pullOf (s_drives m v) = m_pullOf m := by unfold m_pullOf s_drives; rfl
theorem pj_gearOf_drives (m : Ms) (v : Int32) : m_gearOf (s_drives m v) = m_gearOf m := by unfold m_gearOf s_drives; rfl
theorem pj_pulled_drives (m : Ms) (v : Int32) : m_pulled (s_drives m v) = m_pulled m := by unfold m_pulled s_drives; rfl
theorem pj_slots_drives (m : Ms) (v : Int32) : m_slots (s_drives m v) = m_slots m := by unfold m_slots s_drives; rfl
theorem pj_shafts_drives (m : Ms) (v : Int32) : m_shafts (s_drives m v) = m_shafts m := by unfold m_shafts s_drives; rfl
theorem pj_many_drives (m : Ms) (v : Int32) : m_many (s_drives m v) = m_many m := by unfold m_many s_drives; rfl
theorem pj_floats_drives (m : Ms) (v : Int32) : m_floats (s_drives m v) = m_floats m := by unfold m_floats s_drives; rfl
theorem pj_doubles_drives (m : Ms) (v : Int32) : m_doubles (s_drives m v) = m_doubles m := by unfold m_doubles s_drives; rfl
theorem pj_seen_drives (m : Ms) (v : Int32) : m_seen (s_drives m v) = m_seen m := by unfold m_seen s_drives; rfl
theorem pj_failed_drives (m : Ms) (v : Int32) : m_failed (s_drives m v) = m_failed m := by unfold m_failed s_drives; rfl
theorem pj_counts_drives (m : Ms) (v : Int32) : m_counts (s_drives m v) = m_counts m := by unfold m_counts s_drives; rfl
theorem pj_dials_sortOf (m : Ms) (v : Nat → Int32) : m_dials (s_sortOf m v) = m_dials m := by unfold m_dials s_sortOf; rfl
theorem pj_isFine_sortOf (m : Ms) (v : Nat → Int32) : m_isFine (s_sortOf m v) = m_isFine m := by unfold m_isFine s_sortOf; rfl
theorem pj_rimF_sortOf (m : Ms) (v : Nat → Int32) : m_rimF (s_sortOf m v) = m_rimF m := by unfold m_rimF s_sortOf; rfl
theorem pj_placeF_sortOf (m : Ms) (v : Nat → Int32) : m_placeF (s_sortOf m v) = m_placeF m := by unfold m_placeF s_sortOf; rfl
theorem pj_rimD_sortOf (m : Ms) (v : Nat → Int32) : m_rimD (s_sortOf m v) = m_rimD m := by unfold m_rimD s_sortOf; rfl
theorem pj_placeD_sortOf (m : Ms) (v : Nat → Int32) : m_placeD (s_sortOf m v) = m_placeD m := by unfold m_placeD s_sortOf; rfl
theorem pj_lapsOf_sortOf (m : Ms) (v : Nat → Int32) : m_lapsOf (s_sortOf m v) = m_lapsOf m := by unfold m_lapsOf s_sortOf; rfl
theorem pj_drives_sortOf (m : Ms) (v : Nat → Int32) : m_drives (s_sortOf m v) = m_drives m := by unfold m_drives s_sortOf; rfl
theorem pj_sortOf_sortOf (m : Ms) (v : Nat → Int32) : m_sortOf (s_sortOf m v) = v := by unfold m_sortOf s_sortOf; rfl
theorem pj_pullOf_sortOf (m : Ms) (v : Nat → Int32) : m_pullOf (s_sortOf m v) = m_pullOf m := by unfold m_pullOf s_sortOf; rfl
theorem pj_gearOf_sortOf (m : Ms) (v : Nat → Int32) : m_gearOf (s_sortOf m v) = m_gearOf m := by unfold m_gearOf s_sortOf; rfl
theorem pj_pulled_sortOf (m : Ms) (v : Nat → Int32) : m_pulled (s_sortOf m v) = m_pulled m := by unfold m_pulled s_sortOf; rfl
theorem pj_slots_sortOf (m : Ms) (v : Nat → Int32) : m_slots (s_sortOf m v) = m_slots m := by unfold m_slots s_sortOf; rfl
theorem pj_shafts_sortOf (m : Ms) (v : Nat → Int32) : m_shafts (s_sortOf m v) = m_shafts m := by unfold m_shafts s_sortOf; rfl
theorem pj_many_sortOf (m : Ms) (v : Nat → Int32) : m_many (s_sortOf m v) = m_many m := by unfold m_many s_sortOf; rfl
theorem pj_floats_sortOf (m : Ms) (v : Nat → Int32) : m_floats (s_sortOf m v) = m_floats m := by unfold m_floats s_sortOf; rfl
theorem pj_doubles_sortOf (m : Ms) (v : Nat → Int32) : m_doubles (s_sortOf m v) = m_doubles m := by unfold m_doubles s_sortOf; rfl
theorem pj_seen_sortOf (m : Ms) (v : Nat → Int32) : m_seen (s_sortOf m v) = m_seen m := by unfold m_seen s_sortOf; rfl
theorem pj_failed_sortOf (m : Ms) (v : Nat → Int32) : m_failed (s_sortOf m v) = m_failed m := by unfold m_failed s_sortOf; rfl
theorem pj_counts_sortOf (m : Ms) (v : Nat → Int32) : m_counts (s_sortOf m v) = m_counts m := by unfold m_counts s_sortOf; rfl
theorem pj_dials_pullOf (m : Ms) (v : Nat → UInt64) : m_dials (s_pullOf m v) = m_dials m := by unfold m_dials s_pullOf; rfl
theorem pj_isFine_pullOf (m : Ms) (v : Nat → UInt64) : m_isFine (s_pullOf m v) = m_isFine m := by unfold m_isFine s_pullOf; rfl
theorem pj_rimF_pullOf (m : Ms) (v : Nat → UInt64) : m_rimF (s_pullOf m v) = m_rimF m := by unfold m_rimF s_pullOf; rfl
theorem pj_placeF_pullOf (m : Ms) (v : Nat → UInt64) : m_placeF (s_pullOf m v) = m_placeF m := by unfold m_placeF s_pullOf; rfl
theorem pj_rimD_pullOf (m : Ms) (v : Nat → UInt64) : m_rimD (s_pullOf m v) = m_rimD m := by unfold m_rimD s_pullOf; rfl
theorem pj_placeD_pullOf (m : Ms) (v : Nat → UInt64) : m_placeD (s_pullOf m v) = m_placeD m := by unfold m_placeD s_pullOf; rfl
theorem pj_lapsOf_pullOf (m : Ms) (v : Nat → UInt64) : m_lapsOf (s_pullOf m v) = m_lapsOf m := by unfold m_lapsOf s_pullOf; rfl
theorem pj_drives_pullOf (m : Ms) (v : Nat → UInt64) : m_drives (s_pullOf m v) = m_drives m := by unfold m_drives s_pullOf; rfl
theorem pj_sortOf_pullOf (m : Ms) (v : Nat → UInt64) : m_sortOf (s_pullOf m v) = m_sortOf m := by unfold m_sortOf s_pullOf; rfl
theorem pj_pullOf_pullOf (m : Ms) (v : Nat → UInt64) : m_pullOf (s_pullOf m v) = v := by unfold m_pullOf s_pullOf; rfl
theorem pj_gearOf_pullOf (m : Ms) (v : Nat → UInt64) : m_gearOf (s_pullOf m v) = m_gearOf m := by unfold m_gearOf s_pullOf; rfl
theorem pj_pulled_pullOf (m : Ms) (v : Nat → UInt64) : m_pulled (s_pullOf m v) = m_pulled m := by unfold m_pulled s_pullOf; rfl
theorem pj_slots_pullOf (m : Ms) (v : Nat → UInt64) : m_slots (s_pullOf m v) = m_slots m := by unfold m_slots s_pullOf; rfl
theorem pj_shafts_pullOf (m : Ms) (v : Nat → UInt64) : m_shafts (s_pullOf m v) = m_shafts m := by unfold m_shafts s_pullOf; rfl
theorem pj_many_pullOf (m : Ms) (v : Nat → UInt64) : m_many (s_pullOf m v) = m_many m := by unfold m_many s_pullOf; rfl
theorem pj_floats_pullOf (m : Ms) (v : Nat → UInt64) : m_floats (s_pullOf m v) = m_floats m := by unfold m_floats s_pullOf; rfl
theorem pj_doubles_pullOf (m : Ms) (v : Nat → UInt64) : m_doubles (s_pullOf m v) = m_doubles m := by unfold m_doubles s_pullOf; rfl
theorem pj_seen_pullOf (m : Ms) (v : Nat → UInt64) : m_seen (s_pullOf m v) = m_seen m := by unfold m_seen s_pullOf; rfl
theorem pj_failed_pullOf (m : Ms) (v : Nat → UInt64) : m_failed (s_pullOf m v) = m_failed m := by unfold m_failed s_pullOf; rfl
theorem pj_counts_pullOf (m : Ms) (v : Nat → UInt64) : m_counts (s_pullOf m v) = m_counts m := by unfold m_counts s_pullOf; rfl
theorem pj_dials_gearOf (m : Ms) (v : Nat → Int32) : m_dials (s_gearOf m v) = m_dials m := by unfold m_dials s_gearOf; rfl
theorem pj_isFine_gearOf (m : Ms) (v : Nat → Int32) : m_isFine (s_gearOf m v) = m_isFine m := by unfold m_isFine s_gearOf; rfl
theorem pj_rimF_gearOf (m : Ms) (v : Nat → Int32) : m_rimF (s_gearOf m v) = m_rimF m := by unfold m_rimF s_gearOf; rfl
theorem pj_placeF_gearOf (m : Ms) (v : Nat → Int32) : m_placeF (s_gearOf m v) = m_placeF m := by unfold m_placeF s_gearOf; rfl
theorem pj_rimD_gearOf (m : Ms) (v : Nat → Int32) : m_rimD (s_gearOf m v) = m_rimD m := by unfold m_rimD s_gearOf; rfl
theorem pj_placeD_gearOf (m : Ms) (v : Nat → Int32) : m_placeD (s_gearOf m v) = m_placeD m := by unfold m_placeD s_gearOf; rfl
theorem pj_lapsOf_gearOf (m : Ms) (v : Nat → Int32) : m_lapsOf (s_gearOf m v) = m_lapsOf m := by unfold m_lapsOf s_gearOf; rfl
theorem pj_drives_gearOf (m : Ms) (v : Nat → Int32) : m_drives (s_gearOf m v) = m_drives m := by unfold m_drives s_gearOf; rfl
theorem pj_sortOf_gearOf (m : Ms) (v : Nat → Int32) : m_sortOf (s_gearOf m v) = m_sortOf m := by unfold m_sortOf s_gearOf; rfl
theorem pj_pullOf_gearOf (m : Ms) (v : Nat → Int32) : m_pullOf (s_gearOf m v) = m_pullOf m := by unfold m_pullOf s_gearOf; rfl
theorem pj_gearOf_gearOf (m : Ms) (v : Nat → Int32) : m_gearOf (s_gearOf m v) = v := by unfold m_gearOf s_gearOf; rfl
theorem pj_pulled_gearOf (m : Ms) (v : Nat → Int32) : m_pulled (s_gearOf m v) = m_pulled m := by unfold m_pulled s_gearOf; rfl
theorem pj_slots_gearOf (m : Ms) (v : Nat → Int32) : m_slots (s_gearOf m v) = m_slots m := by unfold m_slots s_gearOf; rfl
theorem pj_shafts_gearOf (m : Ms) (v : Nat → Int32) : m_shafts (s_gearOf m v) = m_shafts m := by unfold m_shafts s_gearOf; rfl
theorem pj_many_gearOf (m : Ms) (v : Nat → Int32) : m_many (s_gearOf m v) = m_many m := by unfold m_many s_gearOf; rfl
theorem pj_floats_gearOf (m : Ms) (v : Nat → Int32) : m_floats (s_gearOf m v) = m_floats m := by unfold m_floats s_gearOf; rfl
theorem pj_doubles_gearOf (m : Ms) (v : Nat → Int32) : m_doubles (s_gearOf m v) = m_doubles m := by unfold m_doubles s_gearOf; rfl
theorem pj_seen_gearOf (m : Ms) (v : Nat → Int32) : m_seen (s_gearOf m v) = m_seen m := by unfold m_seen s_gearOf; rfl
theorem pj_failed_gearOf (m : Ms) (v : Nat → Int32) : m_failed (s_gearOf m v) = m_failed m := by unfold m_failed s_gearOf; rfl
theorem pj_counts_gearOf (m : Ms) (v : Nat → Int32) : m_counts (s_gearOf m v) = m_counts m := by unfold m_counts s_gearOf; rfl
theorem pj_dials_pulled (m : Ms) (v : Nat → Int32) : m_dials (s_pulled m v) = m_dials m := by unfold m_dials s_pulled; rfl
theorem pj_isFine_pulled (m : Ms) (v : Nat → Int32) : m_isFine (s_pulled m v) = m_isFine m := by unfold m_isFine s_pulled; rfl
theorem pj_rimF_pulled (m : Ms) (v : Nat → Int32) : m_rimF (s_pulled m v) = m_rimF m := by unfold m_rimF s_pulled; rfl
theorem pj_placeF_pulled (m : Ms) (v : Nat → Int32) : m_placeF (s_pulled m v) = m_placeF m := by unfold m_placeF s_pulled; rfl
theorem pj_rimD_pulled (m : Ms) (v : Nat → Int32) : m_rimD (s_pulled m v) = m_rimD m := by unfold m_rimD s_pulled; rfl
theorem pj_placeD_pulled (m : Ms) (v : Nat → Int32) : m_placeD (s_pulled m v) = m_placeD m := by unfold m_placeD s_pulled; rfl
theorem pj_lapsOf_pulled (m : Ms) (v : Nat → Int32) : m_lapsOf (s_pulled m v) = m_lapsOf m := by unfold m_lapsOf s_pulled; rfl
theorem pj_drives_pulled (m : Ms) (v : Nat → Int32) : m_drives (s_pulled m v) = m_drives m := by unfold m_drives s_pulled; rfl
theorem pj_sortOf_pulled (m : Ms) (v : Nat → Int32) : m_sortOf (s_pulled m v) = m_sortOf m := by unfold m_sortOf s_pulled; rfl
theorem pj_pullOf_pulled (m : Ms) (v : Nat → Int32) : m_pullOf (s_pulled m v) = m_pullOf m := by unfold m_pullOf s_pulled; rfl
theorem pj_gearOf_pulled (m : Ms) (v : Nat → Int32) : m_gearOf (s_pulled m v) = m_gearOf m := by unfold m_gearOf s_pulled; rfl
theorem pj_pulled_pulled (m : Ms) (v : Nat → Int32) : m_pulled (s_pulled m v) = v := by unfold m_pulled s_pulled; rfl
theorem pj_slots_pulled (m : Ms) (v : Nat → Int32) : m_slots (s_pulled m v) = m_slots m := by unfold m_slots s_pulled; rfl
theorem pj_shafts_pulled (m : Ms) (v : Nat → Int32) : m_shafts (s_pulled m v) = m_shafts m := by unfold m_shafts s_pulled; rfl
theorem pj_many_pulled (m : Ms) (v : Nat → Int32) : m_many (s_pulled m v) = m_many m := by unfold m_many s_pulled; rfl
theorem pj_floats_pulled (m : Ms) (v : Nat → Int32) : m_floats (s_pulled m v) = m_floats m := by unfold m_floats s_pulled; rfl
theorem pj_doubles_pulled (m : Ms) (v : Nat → Int32) : m_doubles (s_pulled m v) = m_doubles m := by unfold m_doubles s_pulled; rfl
theorem pj_seen_pulled (m : Ms) (v : Nat → Int32) : m_seen (s_pulled m v) = m_seen m := by unfold m_seen s_pulled; rfl
theorem pj_failed_pulled (m : Ms) (v : Nat → Int32) : m_failed (s_pulled m v) = m_failed m := by unfold m_failed s_pulled; rfl
theorem pj_counts_pulled (m : Ms) (v : Nat → Int32) : m_counts (s_pulled m v) = m_counts m := by unfold m_counts s_pulled; rfl
theorem dl_7 (m : Ms) (a1 : Int32) (a2 : Int64) (x : UInt32) : jX8_dial_y7 m a1 a2 x = (m_dials m + (1 : Int32) - (1 : Int32), gM m (m_dials m).toNatClampNeg (vp_nar .boolean a1) x (if a1 = 0 then FP.dconst1 else (jX8_doubleOf a2))) := by
  unfold jX8_dial_y7 jX8_dial_o11 jX8_dial_y12 jX8_dial_o17 jX8_dial_o20
  simp only [pj_dials_dials, pj_isFine_dials, pj_rimF_dials, pj_placeF_dials, pj_rimD_dials, pj_placeD_dials, pj_lapsOf_dials, pj_drives_dials, pj_sortOf_dials, pj_pullOf_dials, pj_gearOf_dials, pj_pulled_dials, pj_slots_dials, pj_shafts_dials, pj_many_dials, pj_floats_dials, pj_doubles_dials, pj_seen_dials, pj_failed_dials, pj_counts_dials, pj_dials_isFine, pj_isFine_isFine, pj_rimF_isFine, pj_placeF_isFine, pj_rimD_isFine, pj_placeD_isFine, pj_lapsOf_isFine, pj_drives_isFine, pj_sortOf_isFine, pj_pullOf_isFine, pj_gearOf_isFine, pj_pulled_isFine, pj_slots_isFine, pj_shafts_isFine, pj_many_isFine, pj_floats_isFine, pj_doubles_isFine, pj_seen_isFine, pj_failed_isFine, pj_counts_isFine, pj_dials_rimF, pj_isFine_rimF, pj_rimF_rimF, pj_placeF_rimF, pj_rimD_rimF, pj_placeD_rimF, pj_lapsOf_rimF, pj_drives_rimF, pj_sortOf_rimF, pj_pullOf_rimF, pj_gearOf_rimF, pj_pulled_rimF, pj_slots_rimF, pj_shafts_rimF, pj_many_rimF, pj_floats_rimF, pj_doubles_rimF, pj_seen_rimF, pj_failed_rimF, pj_counts_rimF, pj_dials_placeF, pj_isFine_placeF, pj_rimF_placeF, pj_placeF_placeF, pj_rimD_placeF, pj_placeD_placeF, pj_lapsOf_placeF, pj_drives_placeF, pj_sortOf_placeF, pj_pullOf_placeF, pj_gearOf_placeF, pj_pulled_placeF, pj_slots_placeF, pj_shafts_placeF, pj_many_placeF, pj_floats_placeF, pj_doubles_placeF, pj_seen_placeF, pj_failed_placeF, pj_counts_placeF, pj_dials_rimD, pj_isFine_rimD, pj_rimF_rimD, pj_placeF_rimD, pj_rimD_rimD, pj_placeD_rimD, pj_lapsOf_rimD, pj_drives_rimD, pj_sortOf_rimD, pj_pullOf_rimD, pj_gearOf_rimD, pj_pulled_rimD, pj_slots_rimD, pj_shafts_rimD, pj_many_rimD, pj_floats_rimD, pj_doubles_rimD, pj_seen_rimD, pj_failed_rimD, pj_counts_rimD, pj_dials_placeD, pj_isFine_placeD, pj_rimF_placeD, pj_placeF_placeD, pj_rimD_placeD, pj_placeD_placeD, pj_lapsOf_placeD, pj_drives_placeD, pj_sortOf_placeD, pj_pullOf_placeD, pj_gearOf_placeD, pj_pulled_placeD, pj_slots_placeD, pj_shafts_placeD, pj_many_placeD, pj_floats_placeD, pj_doubles_placeD, pj_seen_placeD, pj_failed_placeD, pj_counts_placeD, pj_dials_lapsOf, pj_isFine_lapsOf, pj_rimF_lapsOf, pj_placeF_lapsOf, pj_rimD_lapsOf, pj_placeD_lapsOf, pj_lapsOf_lapsOf, pj_drives_lapsOf, pj_sortOf_lapsOf, pj_pullOf_lapsOf, pj_gearOf_lapsOf, pj_pulled_lapsOf, pj_slots_lapsOf, pj_shafts_lapsOf, pj_many_lapsOf, pj_floats_lapsOf, pj_doubles_lapsOf, pj_seen_lapsOf, pj_failed_lapsOf, pj_counts_lapsOf]
  unfold gM s_dials
  simp only [pj_dials_dials, pj_isFine_dials, pj_rimF_dials, pj_placeF_dials, pj_rimD_dials, pj_placeD_dials, pj_lapsOf_dials, pj_drives_dials, pj_sortOf_dials, pj_pullOf_dials, pj_gearOf_dials, pj_pulled_dials, pj_slots_dials, pj_shafts_dials, pj_many_dials, pj_floats_dials, pj_doubles_dials, pj_seen_dials, pj_failed_dials, pj_counts_dials, pj_dials_isFine, pj_isFine_isFine, pj_rimF_isFine, pj_placeF_isFine, pj_rimD_isFine, pj_placeD_isFine, pj_lapsOf_isFine, pj_drives_isFine, pj_sortOf_isFine, pj_pullOf_isFine, pj_gearOf_isFine, pj_pulled_isFine, pj_slots_isFine, pj_shafts_isFine, pj_many_isFine, pj_floats_isFine, pj_doubles_isFine, pj_seen_isFine, pj_failed_isFine, pj_counts_isFine, pj_dials_rimF, pj_isFine_rimF, pj_rimF_rimF, pj_placeF_rimF, pj_rimD_rimF, pj_placeD_rimF, pj_lapsOf_rimF, pj_drives_rimF, pj_sortOf_rimF, pj_pullOf_rimF, pj_gearOf_rimF, pj_pulled_rimF, pj_slots_rimF, pj_shafts_rimF, pj_many_rimF, pj_floats_rimF, pj_doubles_rimF, pj_seen_rimF, pj_failed_rimF, pj_counts_rimF, pj_dials_placeF, pj_isFine_placeF, pj_rimF_placeF, pj_placeF_placeF, pj_rimD_placeF, pj_placeD_placeF, pj_lapsOf_placeF, pj_drives_placeF, pj_sortOf_placeF, pj_pullOf_placeF, pj_gearOf_placeF, pj_pulled_placeF, pj_slots_placeF, pj_shafts_placeF, pj_many_placeF, pj_floats_placeF, pj_doubles_placeF, pj_seen_placeF, pj_failed_placeF, pj_counts_placeF, pj_dials_rimD, pj_isFine_rimD, pj_rimF_rimD, pj_placeF_rimD, pj_rimD_rimD, pj_placeD_rimD, pj_lapsOf_rimD, pj_drives_rimD, pj_sortOf_rimD, pj_pullOf_rimD, pj_gearOf_rimD, pj_pulled_rimD, pj_slots_rimD, pj_shafts_rimD, pj_many_rimD, pj_floats_rimD, pj_doubles_rimD, pj_seen_rimD, pj_failed_rimD, pj_counts_rimD, pj_dials_placeD, pj_isFine_placeD, pj_rimF_placeD, pj_placeF_placeD, pj_rimD_placeD, pj_placeD_placeD, pj_lapsOf_placeD, pj_drives_placeD, pj_sortOf_placeD, pj_pullOf_placeD, pj_gearOf_placeD, pj_pulled_placeD, pj_slots_placeD, pj_shafts_placeD, pj_many_placeD, pj_floats_placeD, pj_doubles_placeD, pj_seen_placeD, pj_failed_placeD, pj_counts_placeD, pj_dials_lapsOf, pj_isFine_lapsOf, pj_rimF_lapsOf, pj_placeF_lapsOf, pj_rimD_lapsOf, pj_placeD_lapsOf, pj_lapsOf_lapsOf, pj_drives_lapsOf, pj_sortOf_lapsOf, pj_pullOf_lapsOf, pj_gearOf_lapsOf, pj_pulled_lapsOf, pj_slots_lapsOf, pj_shafts_lapsOf, pj_many_lapsOf, pj_floats_lapsOf, pj_doubles_lapsOf, pj_seen_lapsOf, pj_failed_lapsOf, pj_counts_lapsOf]
theorem ds_7 (m : Ms) (a1 : Int32) (a2 : Int64) (x : UInt32) (hin : vp_in (m_dials m) 12) (hd : a1 = 0 ∨ sX8_doubleOf a2) : sX8_dial_y7 m a1 a2 x := by
  unfold sX8_dial_y7 sX8_dial_o11 sX8_dial_y12 sX8_dial_o17 sX8_dial_o20
  simp only [pj_dials_dials, pj_isFine_dials, pj_rimF_dials, pj_placeF_dials, pj_rimD_dials, pj_placeD_dials, pj_lapsOf_dials, pj_drives_dials, pj_sortOf_dials, pj_pullOf_dials, pj_gearOf_dials, pj_pulled_dials, pj_slots_dials, pj_shafts_dials, pj_many_dials, pj_floats_dials, pj_doubles_dials, pj_seen_dials, pj_failed_dials, pj_counts_dials, pj_dials_isFine, pj_isFine_isFine, pj_rimF_isFine, pj_placeF_isFine, pj_rimD_isFine, pj_placeD_isFine, pj_lapsOf_isFine, pj_drives_isFine, pj_sortOf_isFine, pj_pullOf_isFine, pj_gearOf_isFine, pj_pulled_isFine, pj_slots_isFine, pj_shafts_isFine, pj_many_isFine, pj_floats_isFine, pj_doubles_isFine, pj_seen_isFine, pj_failed_isFine, pj_counts_isFine, pj_dials_rimF, pj_isFine_rimF, pj_rimF_rimF, pj_placeF_rimF, pj_rimD_rimF, pj_placeD_rimF, pj_lapsOf_rimF, pj_drives_rimF, pj_sortOf_rimF, pj_pullOf_rimF, pj_gearOf_rimF, pj_pulled_rimF, pj_slots_rimF, pj_shafts_rimF, pj_many_rimF, pj_floats_rimF, pj_doubles_rimF, pj_seen_rimF, pj_failed_rimF, pj_counts_rimF, pj_dials_placeF, pj_isFine_placeF, pj_rimF_placeF, pj_placeF_placeF, pj_rimD_placeF, pj_placeD_placeF, pj_lapsOf_placeF, pj_drives_placeF, pj_sortOf_placeF, pj_pullOf_placeF, pj_gearOf_placeF, pj_pulled_placeF, pj_slots_placeF, pj_shafts_placeF, pj_many_placeF, pj_floats_placeF, pj_doubles_placeF, pj_seen_placeF, pj_failed_placeF, pj_counts_placeF, pj_dials_rimD, pj_isFine_rimD, pj_rimF_rimD, pj_placeF_rimD, pj_rimD_rimD, pj_placeD_rimD, pj_lapsOf_rimD, pj_drives_rimD, pj_sortOf_rimD, pj_pullOf_rimD, pj_gearOf_rimD, pj_pulled_rimD, pj_slots_rimD, pj_shafts_rimD, pj_many_rimD, pj_floats_rimD, pj_doubles_rimD, pj_seen_rimD, pj_failed_rimD, pj_counts_rimD, pj_dials_placeD, pj_isFine_placeD, pj_rimF_placeD, pj_placeF_placeD, pj_rimD_placeD, pj_placeD_placeD, pj_lapsOf_placeD, pj_drives_placeD, pj_sortOf_placeD, pj_pullOf_placeD, pj_gearOf_placeD, pj_pulled_placeD, pj_slots_placeD, pj_shafts_placeD, pj_many_placeD, pj_floats_placeD, pj_doubles_placeD, pj_seen_placeD, pj_failed_placeD, pj_counts_placeD, pj_dials_lapsOf, pj_isFine_lapsOf, pj_rimF_lapsOf, pj_placeF_lapsOf, pj_rimD_lapsOf, pj_placeD_lapsOf, pj_lapsOf_lapsOf, pj_drives_lapsOf, pj_sortOf_lapsOf, pj_pullOf_lapsOf, pj_gearOf_lapsOf, pj_pulled_lapsOf, pj_slots_lapsOf, pj_shafts_lapsOf, pj_many_lapsOf, pj_floats_lapsOf, pj_doubles_lapsOf, pj_seen_lapsOf, pj_failed_lapsOf, pj_counts_lapsOf]
  refine ⟨trivial, hin, trivial, ?_, trivial, hin, hin, trivial, hin, hin, trivial, trivial⟩
  rcases hd with h | h
  · rw [if_pos h]; trivial
  · by_cases q : a1 = 0
    · rw [if_pos q]; trivial
    · rw [if_neg q]; exact ⟨h, trivial⟩
theorem dl_25 (m : Ms) (a1 : Int32) (a2 : Int64) (x : UInt32) : jX8_dial_y25 m a1 a2 x = (m_dials m + (1 : Int32) - (1 : Int32), gM m (m_dials m).toNatClampNeg (vp_nar .boolean a1) x (if a1 = 0 then FP.dconst1 else (jX8_doubleOf a2))) := by
  unfold jX8_dial_y25 jX8_dial_o29 jX8_dial_y30 jX8_dial_o35 jX8_dial_o38
  simp only [pj_dials_dials, pj_isFine_dials, pj_rimF_dials, pj_placeF_dials, pj_rimD_dials, pj_placeD_dials, pj_lapsOf_dials, pj_drives_dials, pj_sortOf_dials, pj_pullOf_dials, pj_gearOf_dials, pj_pulled_dials, pj_slots_dials, pj_shafts_dials, pj_many_dials, pj_floats_dials, pj_doubles_dials, pj_seen_dials, pj_failed_dials, pj_counts_dials, pj_dials_isFine, pj_isFine_isFine, pj_rimF_isFine, pj_placeF_isFine, pj_rimD_isFine, pj_placeD_isFine, pj_lapsOf_isFine, pj_drives_isFine, pj_sortOf_isFine, pj_pullOf_isFine, pj_gearOf_isFine, pj_pulled_isFine, pj_slots_isFine, pj_shafts_isFine, pj_many_isFine, pj_floats_isFine, pj_doubles_isFine, pj_seen_isFine, pj_failed_isFine, pj_counts_isFine, pj_dials_rimF, pj_isFine_rimF, pj_rimF_rimF, pj_placeF_rimF, pj_rimD_rimF, pj_placeD_rimF, pj_lapsOf_rimF, pj_drives_rimF, pj_sortOf_rimF, pj_pullOf_rimF, pj_gearOf_rimF, pj_pulled_rimF, pj_slots_rimF, pj_shafts_rimF, pj_many_rimF, pj_floats_rimF, pj_doubles_rimF, pj_seen_rimF, pj_failed_rimF, pj_counts_rimF, pj_dials_placeF, pj_isFine_placeF, pj_rimF_placeF, pj_placeF_placeF, pj_rimD_placeF, pj_placeD_placeF, pj_lapsOf_placeF, pj_drives_placeF, pj_sortOf_placeF, pj_pullOf_placeF, pj_gearOf_placeF, pj_pulled_placeF, pj_slots_placeF, pj_shafts_placeF, pj_many_placeF, pj_floats_placeF, pj_doubles_placeF, pj_seen_placeF, pj_failed_placeF, pj_counts_placeF, pj_dials_rimD, pj_isFine_rimD, pj_rimF_rimD, pj_placeF_rimD, pj_rimD_rimD, pj_placeD_rimD, pj_lapsOf_rimD, pj_drives_rimD, pj_sortOf_rimD, pj_pullOf_rimD, pj_gearOf_rimD, pj_pulled_rimD, pj_slots_rimD, pj_shafts_rimD, pj_many_rimD, pj_floats_rimD, pj_doubles_rimD, pj_seen_rimD, pj_failed_rimD, pj_counts_rimD, pj_dials_placeD, pj_isFine_placeD, pj_rimF_placeD, pj_placeF_placeD, pj_rimD_placeD, pj_placeD_placeD, pj_lapsOf_placeD, pj_drives_placeD, pj_sortOf_placeD, pj_pullOf_placeD, pj_gearOf_placeD, pj_pulled_placeD, pj_slots_placeD, pj_shafts_placeD, pj_many_placeD, pj_floats_placeD, pj_doubles_placeD, pj_seen_placeD, pj_failed_placeD, pj_counts_placeD, pj_dials_lapsOf, pj_isFine_lapsOf, pj_rimF_lapsOf, pj_placeF_lapsOf, pj_rimD_lapsOf, pj_placeD_lapsOf, pj_lapsOf_lapsOf, pj_drives_lapsOf, pj_sortOf_lapsOf, pj_pullOf_lapsOf, pj_gearOf_lapsOf, pj_pulled_lapsOf, pj_slots_lapsOf, pj_shafts_lapsOf, pj_many_lapsOf, pj_floats_lapsOf, pj_doubles_lapsOf, pj_seen_lapsOf, pj_failed_lapsOf, pj_counts_lapsOf]
  unfold gM s_dials
  simp only [pj_dials_dials, pj_isFine_dials, pj_rimF_dials, pj_placeF_dials, pj_rimD_dials, pj_placeD_dials, pj_lapsOf_dials, pj_drives_dials, pj_sortOf_dials, pj_pullOf_dials, pj_gearOf_dials, pj_pulled_dials, pj_slots_dials, pj_shafts_dials, pj_many_dials, pj_floats_dials, pj_doubles_dials, pj_seen_dials, pj_failed_dials, pj_counts_dials, pj_dials_isFine, pj_isFine_isFine, pj_rimF_isFine, pj_placeF_isFine, pj_rimD_isFine, pj_placeD_isFine, pj_lapsOf_isFine, pj_drives_isFine, pj_sortOf_isFine, pj_pullOf_isFine, pj_gearOf_isFine, pj_pulled_isFine, pj_slots_isFine, pj_shafts_isFine, pj_many_isFine, pj_floats_isFine, pj_doubles_isFine, pj_seen_isFine, pj_failed_isFine, pj_counts_isFine, pj_dials_rimF, pj_isFine_rimF, pj_rimF_rimF, pj_placeF_rimF, pj_rimD_rimF, pj_placeD_rimF, pj_lapsOf_rimF, pj_drives_rimF, pj_sortOf_rimF, pj_pullOf_rimF, pj_gearOf_rimF, pj_pulled_rimF, pj_slots_rimF, pj_shafts_rimF, pj_many_rimF, pj_floats_rimF, pj_doubles_rimF, pj_seen_rimF, pj_failed_rimF, pj_counts_rimF, pj_dials_placeF, pj_isFine_placeF, pj_rimF_placeF, pj_placeF_placeF, pj_rimD_placeF, pj_placeD_placeF, pj_lapsOf_placeF, pj_drives_placeF, pj_sortOf_placeF, pj_pullOf_placeF, pj_gearOf_placeF, pj_pulled_placeF, pj_slots_placeF, pj_shafts_placeF, pj_many_placeF, pj_floats_placeF, pj_doubles_placeF, pj_seen_placeF, pj_failed_placeF, pj_counts_placeF, pj_dials_rimD, pj_isFine_rimD, pj_rimF_rimD, pj_placeF_rimD, pj_rimD_rimD, pj_placeD_rimD, pj_lapsOf_rimD, pj_drives_rimD, pj_sortOf_rimD, pj_pullOf_rimD, pj_gearOf_rimD, pj_pulled_rimD, pj_slots_rimD, pj_shafts_rimD, pj_many_rimD, pj_floats_rimD, pj_doubles_rimD, pj_seen_rimD, pj_failed_rimD, pj_counts_rimD, pj_dials_placeD, pj_isFine_placeD, pj_rimF_placeD, pj_placeF_placeD, pj_rimD_placeD, pj_placeD_placeD, pj_lapsOf_placeD, pj_drives_placeD, pj_sortOf_placeD, pj_pullOf_placeD, pj_gearOf_placeD, pj_pulled_placeD, pj_slots_placeD, pj_shafts_placeD, pj_many_placeD, pj_floats_placeD, pj_doubles_placeD, pj_seen_placeD, pj_failed_placeD, pj_counts_placeD, pj_dials_lapsOf, pj_isFine_lapsOf, pj_rimF_lapsOf, pj_placeF_lapsOf, pj_rimD_lapsOf, pj_placeD_lapsOf, pj_lapsOf_lapsOf, pj_drives_lapsOf, pj_sortOf_lapsOf, pj_pullOf_lapsOf, pj_gearOf_lapsOf, pj_pulled_lapsOf, pj_slots_lapsOf, pj_shafts_lapsOf, pj_many_lapsOf, pj_floats_lapsOf, pj_doubles_lapsOf, pj_seen_lapsOf, pj_failed_lapsOf, pj_counts_lapsOf]
theorem ds_25 (m : Ms) (a1 : Int32) (a2 : Int64) (x : UInt32) (hin : vp_in (m_dials m) 12) (hd : a1 = 0 ∨ sX8_doubleOf a2) : sX8_dial_y25 m a1 a2 x := by
  unfold sX8_dial_y25 sX8_dial_o29 sX8_dial_y30 sX8_dial_o35 sX8_dial_o38
  simp only [pj_dials_dials, pj_isFine_dials, pj_rimF_dials, pj_placeF_dials, pj_rimD_dials, pj_placeD_dials, pj_lapsOf_dials, pj_drives_dials, pj_sortOf_dials, pj_pullOf_dials, pj_gearOf_dials, pj_pulled_dials, pj_slots_dials, pj_shafts_dials, pj_many_dials, pj_floats_dials, pj_doubles_dials, pj_seen_dials, pj_failed_dials, pj_counts_dials, pj_dials_isFine, pj_isFine_isFine, pj_rimF_isFine, pj_placeF_isFine, pj_rimD_isFine, pj_placeD_isFine, pj_lapsOf_isFine, pj_drives_isFine, pj_sortOf_isFine, pj_pullOf_isFine, pj_gearOf_isFine, pj_pulled_isFine, pj_slots_isFine, pj_shafts_isFine, pj_many_isFine, pj_floats_isFine, pj_doubles_isFine, pj_seen_isFine, pj_failed_isFine, pj_counts_isFine, pj_dials_rimF, pj_isFine_rimF, pj_rimF_rimF, pj_placeF_rimF, pj_rimD_rimF, pj_placeD_rimF, pj_lapsOf_rimF, pj_drives_rimF, pj_sortOf_rimF, pj_pullOf_rimF, pj_gearOf_rimF, pj_pulled_rimF, pj_slots_rimF, pj_shafts_rimF, pj_many_rimF, pj_floats_rimF, pj_doubles_rimF, pj_seen_rimF, pj_failed_rimF, pj_counts_rimF, pj_dials_placeF, pj_isFine_placeF, pj_rimF_placeF, pj_placeF_placeF, pj_rimD_placeF, pj_placeD_placeF, pj_lapsOf_placeF, pj_drives_placeF, pj_sortOf_placeF, pj_pullOf_placeF, pj_gearOf_placeF, pj_pulled_placeF, pj_slots_placeF, pj_shafts_placeF, pj_many_placeF, pj_floats_placeF, pj_doubles_placeF, pj_seen_placeF, pj_failed_placeF, pj_counts_placeF, pj_dials_rimD, pj_isFine_rimD, pj_rimF_rimD, pj_placeF_rimD, pj_rimD_rimD, pj_placeD_rimD, pj_lapsOf_rimD, pj_drives_rimD, pj_sortOf_rimD, pj_pullOf_rimD, pj_gearOf_rimD, pj_pulled_rimD, pj_slots_rimD, pj_shafts_rimD, pj_many_rimD, pj_floats_rimD, pj_doubles_rimD, pj_seen_rimD, pj_failed_rimD, pj_counts_rimD, pj_dials_placeD, pj_isFine_placeD, pj_rimF_placeD, pj_placeF_placeD, pj_rimD_placeD, pj_placeD_placeD, pj_lapsOf_placeD, pj_drives_placeD, pj_sortOf_placeD, pj_pullOf_placeD, pj_gearOf_placeD, pj_pulled_placeD, pj_slots_placeD, pj_shafts_placeD, pj_many_placeD, pj_floats_placeD, pj_doubles_placeD, pj_seen_placeD, pj_failed_placeD, pj_counts_placeD, pj_dials_lapsOf, pj_isFine_lapsOf, pj_rimF_lapsOf, pj_placeF_lapsOf, pj_rimD_lapsOf, pj_placeD_lapsOf, pj_lapsOf_lapsOf, pj_drives_lapsOf, pj_sortOf_lapsOf, pj_pullOf_lapsOf, pj_gearOf_lapsOf, pj_pulled_lapsOf, pj_slots_lapsOf, pj_shafts_lapsOf, pj_many_lapsOf, pj_floats_lapsOf, pj_doubles_lapsOf, pj_seen_lapsOf, pj_failed_lapsOf, pj_counts_lapsOf]
  refine ⟨trivial, hin, trivial, ?_, trivial, hin, hin, trivial, hin, hin, trivial, trivial⟩
  rcases hd with h | h
  · rw [if_pos h]; trivial
  · by_cases q : a1 = 0
    · rw [if_pos q]; trivial
    · rw [if_neg q]; exact ⟨h, trivial⟩
theorem dv_7 (m : Ms) (a1 : Int32) (a2 : Int64) : jX8_drive_o7 m a1 a2 (s_pullOf (s_sortOf m (upd (m_sortOf m) (m_drives m).toNatClampNeg a1)) (vf_upd (m_pullOf (s_sortOf m (upd (m_sortOf m) (m_drives m).toNatClampNeg a1))) (m_drives (s_sortOf m (upd (m_sortOf m) (m_drives m).toNatClampNeg a1))).toNatClampNeg (jX8_doubleOf a2))) = (m_drives m + (1 : Int32) - (1 : Int32), gW m (m_drives m).toNatClampNeg a1 (jX8_doubleOf a2)) := by
  unfold jX8_drive_o7 jX8_drive_o10
  simp only [pj_dials_drives, pj_isFine_drives, pj_rimF_drives, pj_placeF_drives, pj_rimD_drives, pj_placeD_drives, pj_lapsOf_drives, pj_drives_drives, pj_sortOf_drives, pj_pullOf_drives, pj_gearOf_drives, pj_pulled_drives, pj_slots_drives, pj_shafts_drives, pj_many_drives, pj_floats_drives, pj_doubles_drives, pj_seen_drives, pj_failed_drives, pj_counts_drives, pj_dials_sortOf, pj_isFine_sortOf, pj_rimF_sortOf, pj_placeF_sortOf, pj_rimD_sortOf, pj_placeD_sortOf, pj_lapsOf_sortOf, pj_drives_sortOf, pj_sortOf_sortOf, pj_pullOf_sortOf, pj_gearOf_sortOf, pj_pulled_sortOf, pj_slots_sortOf, pj_shafts_sortOf, pj_many_sortOf, pj_floats_sortOf, pj_doubles_sortOf, pj_seen_sortOf, pj_failed_sortOf, pj_counts_sortOf, pj_dials_pullOf, pj_isFine_pullOf, pj_rimF_pullOf, pj_placeF_pullOf, pj_rimD_pullOf, pj_placeD_pullOf, pj_lapsOf_pullOf, pj_drives_pullOf, pj_sortOf_pullOf, pj_pullOf_pullOf, pj_gearOf_pullOf, pj_pulled_pullOf, pj_slots_pullOf, pj_shafts_pullOf, pj_many_pullOf, pj_floats_pullOf, pj_doubles_pullOf, pj_seen_pullOf, pj_failed_pullOf, pj_counts_pullOf, pj_dials_gearOf, pj_isFine_gearOf, pj_rimF_gearOf, pj_placeF_gearOf, pj_rimD_gearOf, pj_placeD_gearOf, pj_lapsOf_gearOf, pj_drives_gearOf, pj_sortOf_gearOf, pj_pullOf_gearOf, pj_gearOf_gearOf, pj_pulled_gearOf, pj_slots_gearOf, pj_shafts_gearOf, pj_many_gearOf, pj_floats_gearOf, pj_doubles_gearOf, pj_seen_gearOf, pj_failed_gearOf, pj_counts_gearOf, pj_dials_pulled, pj_isFine_pulled, pj_rimF_pulled, pj_placeF_pulled, pj_rimD_pulled, pj_placeD_pulled, pj_lapsOf_pulled, pj_drives_pulled, pj_sortOf_pulled, pj_pullOf_pulled, pj_gearOf_pulled, pj_pulled_pulled, pj_slots_pulled, pj_shafts_pulled, pj_many_pulled, pj_floats_pulled, pj_doubles_pulled, pj_seen_pulled, pj_failed_pulled, pj_counts_pulled]
  unfold gW s_drives
  simp only [pj_dials_drives, pj_isFine_drives, pj_rimF_drives, pj_placeF_drives, pj_rimD_drives, pj_placeD_drives, pj_lapsOf_drives, pj_drives_drives, pj_sortOf_drives, pj_pullOf_drives, pj_gearOf_drives, pj_pulled_drives, pj_slots_drives, pj_shafts_drives, pj_many_drives, pj_floats_drives, pj_doubles_drives, pj_seen_drives, pj_failed_drives, pj_counts_drives, pj_dials_sortOf, pj_isFine_sortOf, pj_rimF_sortOf, pj_placeF_sortOf, pj_rimD_sortOf, pj_placeD_sortOf, pj_lapsOf_sortOf, pj_drives_sortOf, pj_sortOf_sortOf, pj_pullOf_sortOf, pj_gearOf_sortOf, pj_pulled_sortOf, pj_slots_sortOf, pj_shafts_sortOf, pj_many_sortOf, pj_floats_sortOf, pj_doubles_sortOf, pj_seen_sortOf, pj_failed_sortOf, pj_counts_sortOf, pj_dials_pullOf, pj_isFine_pullOf, pj_rimF_pullOf, pj_placeF_pullOf, pj_rimD_pullOf, pj_placeD_pullOf, pj_lapsOf_pullOf, pj_drives_pullOf, pj_sortOf_pullOf, pj_pullOf_pullOf, pj_gearOf_pullOf, pj_pulled_pullOf, pj_slots_pullOf, pj_shafts_pullOf, pj_many_pullOf, pj_floats_pullOf, pj_doubles_pullOf, pj_seen_pullOf, pj_failed_pullOf, pj_counts_pullOf, pj_dials_gearOf, pj_isFine_gearOf, pj_rimF_gearOf, pj_placeF_gearOf, pj_rimD_gearOf, pj_placeD_gearOf, pj_lapsOf_gearOf, pj_drives_gearOf, pj_sortOf_gearOf, pj_pullOf_gearOf, pj_gearOf_gearOf, pj_pulled_gearOf, pj_slots_gearOf, pj_shafts_gearOf, pj_many_gearOf, pj_floats_gearOf, pj_doubles_gearOf, pj_seen_gearOf, pj_failed_gearOf, pj_counts_gearOf, pj_dials_pulled, pj_isFine_pulled, pj_rimF_pulled, pj_placeF_pulled, pj_rimD_pulled, pj_placeD_pulled, pj_lapsOf_pulled, pj_drives_pulled, pj_sortOf_pulled, pj_pullOf_pulled, pj_gearOf_pulled, pj_pulled_pulled, pj_slots_pulled, pj_shafts_pulled, pj_many_pulled, pj_floats_pulled, pj_doubles_pulled, pj_seen_pulled, pj_failed_pulled, pj_counts_pulled]
theorem dw_7 (m : Ms) (a1 : Int32) (a2 : Int64) (hin : vp_in (m_drives m) 20) : sX8_drive_o7 m a1 a2 (s_pullOf (s_sortOf m (upd (m_sortOf m) (m_drives m).toNatClampNeg a1)) (vf_upd (m_pullOf (s_sortOf m (upd (m_sortOf m) (m_drives m).toNatClampNeg a1))) (m_drives (s_sortOf m (upd (m_sortOf m) (m_drives m).toNatClampNeg a1))).toNatClampNeg (jX8_doubleOf a2))) := by
  unfold sX8_drive_o7 sX8_drive_o10
  simp only [pj_dials_drives, pj_isFine_drives, pj_rimF_drives, pj_placeF_drives, pj_rimD_drives, pj_placeD_drives, pj_lapsOf_drives, pj_drives_drives, pj_sortOf_drives, pj_pullOf_drives, pj_gearOf_drives, pj_pulled_drives, pj_slots_drives, pj_shafts_drives, pj_many_drives, pj_floats_drives, pj_doubles_drives, pj_seen_drives, pj_failed_drives, pj_counts_drives, pj_dials_sortOf, pj_isFine_sortOf, pj_rimF_sortOf, pj_placeF_sortOf, pj_rimD_sortOf, pj_placeD_sortOf, pj_lapsOf_sortOf, pj_drives_sortOf, pj_sortOf_sortOf, pj_pullOf_sortOf, pj_gearOf_sortOf, pj_pulled_sortOf, pj_slots_sortOf, pj_shafts_sortOf, pj_many_sortOf, pj_floats_sortOf, pj_doubles_sortOf, pj_seen_sortOf, pj_failed_sortOf, pj_counts_sortOf, pj_dials_pullOf, pj_isFine_pullOf, pj_rimF_pullOf, pj_placeF_pullOf, pj_rimD_pullOf, pj_placeD_pullOf, pj_lapsOf_pullOf, pj_drives_pullOf, pj_sortOf_pullOf, pj_pullOf_pullOf, pj_gearOf_pullOf, pj_pulled_pullOf, pj_slots_pullOf, pj_shafts_pullOf, pj_many_pullOf, pj_floats_pullOf, pj_doubles_pullOf, pj_seen_pullOf, pj_failed_pullOf, pj_counts_pullOf, pj_dials_gearOf, pj_isFine_gearOf, pj_rimF_gearOf, pj_placeF_gearOf, pj_rimD_gearOf, pj_placeD_gearOf, pj_lapsOf_gearOf, pj_drives_gearOf, pj_sortOf_gearOf, pj_pullOf_gearOf, pj_gearOf_gearOf, pj_pulled_gearOf, pj_slots_gearOf, pj_shafts_gearOf, pj_many_gearOf, pj_floats_gearOf, pj_doubles_gearOf, pj_seen_gearOf, pj_failed_gearOf, pj_counts_gearOf, pj_dials_pulled, pj_isFine_pulled, pj_rimF_pulled, pj_placeF_pulled, pj_rimD_pulled, pj_placeD_pulled, pj_lapsOf_pulled, pj_drives_pulled, pj_sortOf_pulled, pj_pullOf_pulled, pj_gearOf_pulled, pj_pulled_pulled, pj_slots_pulled, pj_shafts_pulled, pj_many_pulled, pj_floats_pulled, pj_doubles_pulled, pj_seen_pulled, pj_failed_pulled, pj_counts_pulled]
  exact ⟨trivial, hin, hin, trivial, trivial⟩
theorem fz_0 {f : Int32} (hf : f = 0 ∨ f = 1) : (0 : Int64) = xb f (qf f FP.fconst0 FP.dconst0) ∧ fN f (qf f FP.fconst0 FP.dconst0) := by
  rcases hf with rfl | rfl
  · rw [qf_0]; exact ⟨by decide, by decide, by decide⟩
  · rw [qf_1]; exact ⟨by decide, by decide, by decide⟩
theorem gr_D (h : rl k o m) (c : c_nd o < 12) {f : Int32} (hf : f = 0 ∨ f = 1) {x : UInt32} {y : UInt64} {r : Int64} (hr : r = xb f (qf f x y)) (fr : fN f (qf f x y)) (zr : ¬ qf f x y % 2 ^ hN f = 0) : rl k (gD o f r) (gM m (c_nd o) f x y) := by
  obtain ⟨⟨⟨h1, h2, h3⟩, hV, hS, hR, hT⟩, hF⟩ := h
  refine ⟨⟨⟨c, ?_, fun j hj => ?_⟩, hV, hS, hR, hT⟩, hF⟩
  · show m_dials m + (1 : Int32) = nI (c_nd o + 1)
    rw [h2]
    exact nI_1 _
  · show dK (va_up (c_dF o) (c_nd o) f j) (upd (m_isFine m) (c_nd o) f j) (va_up (c_dR o) (c_nd o) r j) (va_up (c_dP o) (c_nd o) 0 j) (va_up (c_dL o) (c_nd o) 0 j) (vf_upd (m_rimF m) (c_nd o) x j) (vf_upd (m_placeF m) (c_nd o) FP.fconst0 j) (vf_upd (m_rimD m) (c_nd o) y j) (vf_upd (m_placeD m) (c_nd o) FP.dconst0 j) (vp_updL (m_lapsOf m) (c_nd o) 0 j)
    by_cases e : j = c_nd o
    · subst e
      rw [up_eq, up_eq, up_eq, up_eq, ui_eq, uf_eq, uf_eq, uf_eq, uf_eq, ul_eq]
      exact ⟨hf, rfl, ⟨hr, fr, zr⟩, fz_0 hf, rfl⟩
    · rw [up_ne e, up_ne e, up_ne e, up_ne e, ui_ne e, uf_ne e, uf_ne e, uf_ne e, uf_ne e, ul_ne e]
      have hj' : j < c_nd o + 1 := hj
      exact h3 j (by omega)
theorem gr_V (h : rl k o m) (c : c_nv o < 20) {s : Nat} (hs : s ≤ 2) {v : Int64} {p : UInt64} (hv : v = xb 1 p.toNat) (fp : fN 1 p.toNat) : rl k (gV o s v) (gW m (c_nv o) (nI s) p) := by
  obtain ⟨⟨hD, ⟨h1, h2, h3⟩, ⟨hS1, hS2⟩, hR, hT⟩, hF⟩ := h
  have up1 : ∀ (x : Option Nat) (y : Int32), sK (c_nv o) x y → sK (c_nv o + 1) x y := by
    intro x y hxy
    rcases hxy with q | ⟨d, q1, q2, q3⟩
    · exact Or.inl q
    · exact Or.inr ⟨d, q1, by omega, q3⟩
  refine ⟨⟨hD, ⟨c, ?_, fun j hj => ?_⟩, ⟨fun j hj => up1 _ _ (hS1 j hj), fun j hj => up1 _ _ (hS2 j hj)⟩, hR, hT⟩, hF⟩
  · show m_drives m + (1 : Int32) = nI (c_nv o + 1)
    rw [h2]
    exact nI_1 _
  · show vK k (va_up (c_vS o) (c_nv o) s j) (upd (m_sortOf m) (c_nv o) (nI s) j) (va_up (c_vP o) (c_nv o) v j) (vf_upd (m_pullOf m) (c_nv o) p j) (va_up (c_vG o) (c_nv o) 1 j) (upd (m_gearOf m) (c_nv o) 1 j) (va_up (c_vC o) (c_nv o) 0 j) (upd (m_pulled m) (c_nv o) 0 j)
    by_cases e : j = c_nv o
    · subst e
      rw [up_eq, up_eq, up_eq, up_eq, ui_eq, ui_eq, ui_eq, uf_eq]
      exact ⟨hs, rfl, ⟨hv, fp⟩, ⟨rfl, by decide⟩, rfl, 0, rfl, Nat.zero_le _⟩
    · rw [up_ne e, up_ne e, up_ne e, up_ne e, ui_ne e, ui_ne e, ui_ne e, uf_ne e]
      have hj' : j < c_nv o + 1 := hj
      exact h3 j (by omega)
theorem am_1 (n : Nat) : nI n + (1 : Int32) - (1 : Int32) = nI n := by
  rw [Int32.add_sub_cancel]
theorem ok_dial (h : rl k o m) (a1 : Int32) (a2 : Int64) (hb : a1 = 0 ∨ a1 = 1) : sX8_dial m a1 a2 ∧ (jX7_dial o a1 a2).1 = (jX8_dial m a1 a2).1 ∧ rl k (jX7_dial o a1 a2).2 (jX8_dial m a1 a2).2 := by
  have hnd := h.1.1.1
  have hmd := h.1.1.2.1
  unfold jX7_dial sX8_dial jX8_dial
  rw [cf_b hb, t_told hb, x_zero a1 (kF_lt hb a2)]
  by_cases g : jX8_isFit a1 a2 = 0
  · simp only [if_pos g]
    exact ⟨⟨trivial, trivial⟩, (by trivial), h⟩
  · have fa := fit_of hb g
    simp only [if_neg g]
    rcases hb with rfl | rfl
    · have fa' := fa
      rw [k_0] at fa'
      simp only [z00, if_true]
      by_cases z : kF 0 a2 % 2 ^ hN 0 = 0
      · have z' := (z_f fa'.num).mpr (by rw [k_0] at z; exact z)
        simp only [if_pos z, if_pos z', n10, if_false]
        exact ⟨⟨trivial, no_sf fa.num, trivial⟩, (by trivial), h⟩
      · have z2 : ¬ (jX8_floatOf a2).toNat % 2 ^ hN 0 = 0 := by rw [k_0] at z; exact z
        have z' : ¬ _ := fun w => z2 ((z_f fa'.num).mp w)
        simp only [if_neg z, if_neg z', z00, if_true]
        by_cases c : c_nd o < 12
        · have c1 : nI (c_nd o) < (12 : Int32) := nI_lt (b := 12) c (by decide)
          have c2 : ¬ m_dials m = (12 : Int32) := fun q => by
            rw [q] at hmd
            have := congrArg Int32.toInt hmd
            rw [nI_toInt (by omega)] at this
            have e12 : (12 : Int32).toInt = 12 := rfl
            omega
          have hin : vp_in (m_dials m) 12 := by rw [hmd]; exact nI_in c (by decide)
          simp only [if_pos c1, if_neg c2]
          rw [dl_7, hmd, nI_clamp (by omega), show vp_nar .boolean 0 = (0 : Int32) from rfl, if_pos rfl, am_1]
          refine ⟨⟨trivial, no_sf fa.num, by rw [← hmd]; exact hin, ⟨no_sf fa.num, trivial⟩, ds_7 m 0 a2 _ hin (Or.inl rfl)⟩, rfl, ?_⟩
          exact gr_D h c (Or.inl rfl) (by rw [qf_0, k_0]) (by rw [qf_0]; exact fa') (by rw [qf_0]; exact z2)
        · have c1 : ¬ nI (c_nd o) < (12 : Int32) := fun q => by
            have := Int32.lt_iff_toInt_lt.mp q
            rw [nI_toInt (by omega)] at this
            have e12 : (12 : Int32).toInt = 12 := rfl
            omega
          have c2 : m_dials m = (12 : Int32) := by rw [hmd, show c_nd o = 12 by omega]; rfl
          simp only [if_neg c1, if_pos c2]
          exact ⟨⟨trivial, no_sf fa.num, trivial⟩, (by trivial), h⟩
    · have fa' := fa
      rw [k_1] at fa'
      simp only [n10, if_false]
      by_cases z : kF 1 a2 % 2 ^ hN 1 = 0
      · have z' := (z_d fa'.num).mpr (by rw [k_1] at z; exact z)
        simp only [if_pos z, if_pos z', n10, if_false]
        exact ⟨⟨trivial, no_sd fa.num, trivial⟩, (by trivial), h⟩
      · have z2 : ¬ (jX8_doubleOf a2).toNat % 2 ^ hN 1 = 0 := by rw [k_1] at z; exact z
        have z' : ¬ _ := fun w => z2 ((z_d fa'.num).mp w)
        simp only [if_neg z, if_neg z', z00, if_true]
        by_cases c : c_nd o < 12
        · have c1 : nI (c_nd o) < (12 : Int32) := nI_lt (b := 12) c (by decide)
          have c2 : ¬ m_dials m = (12 : Int32) := fun q => by
            rw [q] at hmd
            have := congrArg Int32.toInt hmd
            rw [nI_toInt (by omega)] at this
            have e12 : (12 : Int32).toInt = 12 := rfl
            omega
          have hin : vp_in (m_dials m) 12 := by rw [hmd]; exact nI_in c (by decide)
          simp only [if_pos c1, if_neg c2]
          rw [dl_25, hmd, nI_clamp (by omega), show vp_nar .boolean 1 = (1 : Int32) from rfl, if_neg (by decide), am_1]
          refine ⟨⟨trivial, no_sd fa.num, by rw [← hmd]; exact hin, trivial, ds_25 m 1 a2 _ hin (Or.inr (no_sd fa.num))⟩, rfl, ?_⟩
          exact gr_D h c (Or.inr rfl) (by rw [qf_1, k_1]) (by rw [qf_1]; exact fa') (by rw [qf_1]; exact z2)
        · have c1 : ¬ nI (c_nd o) < (12 : Int32) := fun q => by
            have := Int32.lt_iff_toInt_lt.mp q
            rw [nI_toInt (by omega)] at this
            have e12 : (12 : Int32).toInt = 12 := rfl
            omega
          have c2 : m_dials m = (12 : Int32) := by rw [hmd, show c_nd o = 12 by omega]; rfl
          simp only [if_neg c1, if_pos c2]
          exact ⟨⟨trivial, no_sd fa.num, trivial⟩, (by trivial), h⟩
theorem ok_drive (h : rl k o m) (a1 : Int32) (a2 : Int64) : sX8_drive m a1 a2 ∧ (jX7_drive o a1 a2).1 = (jX8_drive m a1 a2).1 ∧ rl k (jX7_drive o a1 a2).2 (jX8_drive m a1 a2).2 := by
  have hnv := h.1.2.1.1
  have hmv := h.1.2.1.2.1
  have e2 : (2 : Int32).toInt = 2 := rfl
  have e2l : (2 : Int64).toInt = 2 := by decide
  have e0l : (0 : Int64).toInt = 0 := by decide
  have e20 : (20 : Int32).toInt = 20 := rfl
  have hfit : jX4_isFit 1 a2 = jX8_isFitDouble a2 := by
    rw [rf_d, x_1 a2, x_fit 1 (u_64 _), ← x_1 a2, k_1]
  unfold jX7_drive sX8_drive jX8_drive
  rw [in_c, e0l, e2l, hfit]
  rcases rg_c a1 (n := 3) (by decide) with ⟨s, hs, rfl⟩ | q
  · have c1 : ¬ nI s < 0 := nI_pos (by omega)
    have c2 : ¬ (2 : Int32) < nI s := fun q => by have := Int32.lt_iff_toInt_lt.mp q; rw [nI_toInt (by omega)] at this; omega
    rw [nI_toInt (by omega)]
    simp only [if_neg c1, if_neg c2, if_pos (show (0 : Int) ≤ (s : Int) ∧ (s : Int) ≤ 2 by omega), n10, if_false]
    by_cases g : jX8_isFitDouble a2 = 0
    · simp only [if_pos g]
      exact ⟨⟨trivial, trivial⟩, (by trivial), h⟩
    · have fa : fN 1 (kF 1 a2) := by
        refine ⟨kF_lt (Or.inr rfl) a2, ?_⟩
        rw [rf_d] at g
        by_cases w : kF 1 a2 % 2 ^ hN 1 < iN 1
        · exact w
        · rw [if_neg w] at g; exact absurd rfl g
      have fa' := fa
      rw [k_1] at fa'
      simp only [if_neg g]
      by_cases c : c_nv o < 20
      · have c3 : nI (c_nv o) < (20 : Int32) := nI_lt (b := 20) c (by decide)
        have c4 : ¬ m_drives m = (20 : Int32) := fun q => by
          rw [q] at hmv
          have := congrArg Int32.toInt hmv
          rw [nI_toInt (by omega)] at this
          omega
        have hin : vp_in (m_drives m) 20 := by rw [hmv]; exact nI_in c (by decide)
        simp only [if_pos c3, if_neg c4]
        rw [dv_7]
        refine ⟨⟨trivial, hin, no_sd fa.num, by rw [pj_drives_sortOf]; exact hin, dw_7 m (nI s) a2 hin⟩, ?_, ?_⟩
        · show nI (c_nv o) = m_drives m + 1 - 1
          rw [hmv, am_1]
        · show rl k (gV o (nI s).toNatClampNeg a2) (gW m (m_drives m).toNatClampNeg (nI s) (jX8_doubleOf a2))
          rw [hmv, nI_clamp (by omega), nI_clamp (by omega)]
          exact gr_V h c (by omega) (x_1 a2) fa'
      · have c3 : ¬ nI (c_nv o) < (20 : Int32) := fun q => by
          have := Int32.lt_iff_toInt_lt.mp q
          rw [nI_toInt (by omega)] at this
          omega
        have c4 : m_drives m = (20 : Int32) := by rw [hmv, show c_nv o = 20 by omega]; rfl
        simp only [if_neg c3, if_pos c4]
        exact ⟨⟨trivial, trivial⟩, (by trivial), h⟩
  · simp only [if_neg (show ¬ ((0 : Int) ≤ a1.toInt ∧ a1.toInt ≤ 2) by omega), z00, if_true]
    rcases q with q | q
    · simp only [if_pos (ltz_i q)]
      exact ⟨⟨trivial, trivial⟩, (by trivial), h⟩
    · have c1 : ¬ a1 < 0 := fun g => by have := Int32.lt_iff_toInt_lt.mp g; have e : (0 : Int32).toInt = 0 := rfl; omega
      have c2 : (2 : Int32) < a1 := Int32.lt_iff_toInt_lt.mpr (by omega)
      simp only [if_neg c1, if_pos c2]
      exact ⟨⟨trivial, trivial⟩, (by trivial), h⟩
theorem sl_of (h : rl k o m) : (∀ i, i < 6 → ∀ d, c_sl o i = some d → d < c_nv o) ∧ (∀ i, i < 8 → ∀ d, c_sh o i = some d → d < c_nv o) := by
  obtain ⟨h1, h2⟩ := h.1.2.2.1
  constructor
  · intro i hi d e
    rcases h1 i hi with ⟨q, -⟩ | ⟨d', q1, q2, -⟩
    · rw [q] at e; cases e
    · rw [q1] at e; cases e; exact q2
  · intro i hi d e
    rcases h2 i hi with ⟨q, -⟩ | ⟨d', q1, q2, -⟩
    · rw [q] at e; cases e
    · rw [q1] at e; cases e; exact q2
end PG
