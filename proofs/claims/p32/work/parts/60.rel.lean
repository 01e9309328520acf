/-! what agrees in both books -/

def rel (I : px_I) (L : px_L) : Prop := True

theorem rel.days {v0 : Int32} {x y : Int32} {n : Nat} {I I2 I3 : px_I} {L L2 L3 : px_L} {R : px_R} (hj : jJ n I R) (hr : rel I L) (f1 : frB I I2 L L2) (p1 : pb_days v0 I L x I2 L2) (f2 : frK I2 I3 L2 L3) (p2 : pk_days v0 I2 L2 y I3 L3) : rel I3 L3 := by
  exact True.intro

theorem rel.station {x y : Int32} {n : Nat} {I I2 I3 : px_I} {L L2 L3 : px_L} {R : px_R} (hj : jJ n I R) (hr : rel I L) (f1 : frB I I2 L L2) (p1 : pb_station  I L x I2 L2) (f2 : frK I2 I3 L2 L3) (p2 : pk_station  I2 L2 y I3 L3) : rel I3 L3 := by
  exact True.intro

theorem rel.sight {v0 v1 v2 v3 v4 : Int32} {x y : Int32} {n : Nat} {I I2 I3 : px_I} {L L2 L3 : px_L} {R : px_R} (hj : jJ n I R) (hr : rel I L) (f1 : frB I I2 L L2) (p1 : pb_sight v0 v1 v2 v3 v4 I L x I2 L2) (f2 : frK I2 I3 L2 L3) (p2 : pk_sight v0 v1 v2 v3 v4 I2 L2 y I3 L3) : rel I3 L3 := by
  exact True.intro

theorem rel.closed {v0 v1 : Int32} {x y : Int32} {n : Nat} {I I2 I3 : px_I} {L L2 L3 : px_L} {R : px_R} (hj : jJ n I R) (hr : rel I L) (f1 : frB I I2 L L2) (p1 : pb_closed v0 v1 I L x I2 L2) (f2 : frK I2 I3 L2 L3) (p2 : pk_closed v0 v1 I2 L2 y I3 L3) : rel I3 L3 := by
  exact True.intro

theorem rel.span {v0 v1 v2 v3 : Int32} {x y : Int32} {n : Nat} {I I2 I3 : px_I} {L L2 L3 : px_L} {R : px_R} (hj : jJ n I R) (hr : rel I L) (f1 : frB I I2 L L2) (p1 : pb_span v0 v1 v2 v3 I L x I2 L2) (f2 : frK I2 I3 L2 L3) (p2 : pk_span v0 v1 v2 v3 I2 L2 y I3 L3) : rel I3 L3 := by
  exact True.intro

theorem rel.gap {v0 v1 v2 v3 v4 : Int32} {x y : Int32} {n : Nat} {I I2 I3 : px_I} {L L2 L3 : px_L} {R : px_R} (hj : jJ n I R) (hr : rel I L) (f1 : frB I I2 L L2) (p1 : pb_gap v0 v1 v2 v3 v4 I L x I2 L2) (f2 : frK I2 I3 L2 L3) (p2 : pk_gap v0 v1 v2 v3 v4 I2 L2 y I3 L3) : rel I3 L3 := by
  exact True.intro

theorem rel.blamed {v0 v1 v2 : Int32} {x y : Int32} {n : Nat} {I I2 I3 : px_I} {L L2 L3 : px_L} {R : px_R} (hj : jJ n I R) (hr : rel I L) (f1 : frB I I2 L L2) (p1 : pb_blamed v0 v1 v2 I L x I2 L2) (f2 : frK I2 I3 L2 L3) (p2 : pk_blamed v0 v1 v2 I2 L2 y I3 L3) : rel I3 L3 := by
  exact True.intro

theorem rel.reach {v0 v1 v2 v3 v4 v5 v6 : Int32} {x y : Int32} {n : Nat} {I I2 I3 : px_I} {L L2 L3 : px_L} {R : px_R} (hj : jJ n I R) (hr : rel I L) (f1 : frB I I2 L L2) (p1 : pb_reach v0 v1 v2 v3 v4 v5 v6 I L x I2 L2) (f2 : frK I2 I3 L2 L3) (p2 : pk_reach v0 v1 v2 v3 v4 v5 v6 I2 L2 y I3 L3) : rel I3 L3 := by
  exact True.intro

theorem rel.mouth {v0 v1 : Int32} {x y : Int32} {n : Nat} {I I2 I3 : px_I} {L L2 L3 : px_L} {R : px_R} (hj : jJ n I R) (hr : rel I L) (f1 : frB I I2 L L2) (p1 : pb_mouth v0 v1 I L x I2 L2) (f2 : frK I2 I3 L2 L3) (p2 : pk_mouth v0 v1 I2 L2 y I3 L3) : rel I3 L3 := by
  exact True.intro

theorem rel.mark {v0 v1 v2 v3 : Int32} {x y : Int32} {n : Nat} {I I2 I3 : px_I} {L L2 L3 : px_L} {R : px_R} (hj : jJ n I R) (hr : rel I L) (f1 : frB I I2 L L2) (p1 : pb_mark v0 v1 v2 v3 I L x I2 L2) (f2 : frK I2 I3 L2 L3) (p2 : pk_mark v0 v1 v2 v3 I2 L2 y I3 L3) : rel I3 L3 := by
  exact True.intro

theorem rel.when {v0 v1 v2 : Int32} {x y : Int32} {n : Nat} {I I2 I3 : px_I} {L L2 L3 : px_L} {R : px_R} (hj : jJ n I R) (hr : rel I L) (f1 : frB I I2 L L2) (p1 : pb_when v0 v1 v2 I L x I2 L2) (f2 : frK I2 I3 L2 L3) (p2 : pk_when v0 v1 v2 I2 L2 y I3 L3) : rel I3 L3 := by
  exact True.intro

theorem rel.between {v0 v1 v2 v3 : Int32} {x y : Int32} {n : Nat} {I I2 I3 : px_I} {L L2 L3 : px_L} {R : px_R} (hj : jJ n I R) (hr : rel I L) (f1 : frB I I2 L L2) (p1 : pb_between v0 v1 v2 v3 I L x I2 L2) (f2 : frK I2 I3 L2 L3) (p2 : pk_between v0 v1 v2 v3 I2 L2 y I3 L3) : rel I3 L3 := by
  exact True.intro

theorem rel.lamps {v0 v1 v2 v3 v4 : Int32} {x y : Int32} {n : Nat} {I I2 I3 : px_I} {L L2 L3 : px_L} {R : px_R} (hj : jJ n I R) (hr : rel I L) (f1 : frB I I2 L L2) (p1 : pb_lamps v0 v1 v2 v3 v4 I L x I2 L2) (f2 : frK I2 I3 L2 L3) (p2 : pk_lamps v0 v1 v2 v3 v4 I2 L2 y I3 L3) : rel I3 L3 := by
  exact True.intro

theorem rel.count {v0 v1 v2 : Int32} {x y : Int32} {n : Nat} {I I2 I3 : px_I} {L L2 L3 : px_L} {R : px_R} (hj : jJ n I R) (hr : rel I L) (f1 : frB I I2 L L2) (p1 : pb_count v0 v1 v2 I L x I2 L2) (f2 : frK I2 I3 L2 L3) (p2 : pk_count v0 v1 v2 I2 L2 y I3 L3) : rel I3 L3 := by
  exact True.intro

theorem rel.unit {v0 : Int32} {x y : Int32} {n : Nat} {I I2 I3 : px_I} {L L2 L3 : px_L} {R : px_R} (hj : jJ n I R) (hr : rel I L) (f1 : frB I I2 L L2) (p1 : pb_unit v0 I L x I2 L2) (f2 : frK I2 I3 L2 L3) (p2 : pk_unit v0 I2 L2 y I3 L3) : rel I3 L3 := by
  exact True.intro

theorem rel.feed {v0 v1 v2 v3 v4 : Int32} {x y : Int32} {n : Nat} {I I2 I3 : px_I} {L L2 L3 : px_L} {R : px_R} (hj : jJ n I R) (hr : rel I L) (f1 : frB I I2 L L2) (p1 : pb_feed v0 v1 v2 v3 v4 I L x I2 L2) (f2 : frK I2 I3 L2 L3) (p2 : pk_feed v0 v1 v2 v3 v4 I2 L2 y I3 L3) : rel I3 L3 := by
  exact True.intro

theorem rel.end {v0 : Int32} {x y : Int32} {n : Nat} {I I2 I3 : px_I} {L L2 L3 : px_L} {R : px_R} (hj : jJ n I R) (hr : rel I L) (f1 : frB I I2 L L2) (p1 : pb_end v0 I L x I2 L2) (f2 : frK I2 I3 L2 L3) (p2 : pk_end v0 I2 L2 y I3 L3) : rel I3 L3 := by
  exact True.intro

theorem rel.way {v0 : Int32} {x y : Int32} {n : Nat} {I I2 I3 : px_I} {L L2 L3 : px_L} {R : px_R} (hj : jJ n I R) (hr : rel I L) (f1 : frB I I2 L L2) (p1 : pb_way v0 I L x I2 L2) (f2 : frK I2 I3 L2 L3) (p2 : pk_way v0 I2 L2 y I3 L3) : rel I3 L3 := by
  exact True.intro

theorem rel.fault {v0 : Int32} {x y : Int32} {n : Nat} {I I2 I3 : px_I} {L L2 L3 : px_L} {R : px_R} (hj : jJ n I R) (hr : rel I L) (f1 : frB I I2 L L2) (p1 : pb_fault v0 I L x I2 L2) (f2 : frK I2 I3 L2 L3) (p2 : pk_fault v0 I2 L2 y I3 L3) : rel I3 L3 := by
  exact True.intro

theorem rel.tools {v0 v1 v2 v3 v4 : Int32} {x y : Int32} {n : Nat} {I I2 I3 : px_I} {L L2 L3 : px_L} {R : px_R} (hj : jJ n I R) (hr : rel I L) (f1 : frB I I2 L L2) (p1 : pb_tools v0 v1 v2 v3 v4 I L x I2 L2) (f2 : frK I2 I3 L2 L3) (p2 : pk_tools v0 v1 v2 v3 v4 I2 L2 y I3 L3) : rel I3 L3 := by
  exact True.intro

theorem rel.run {v0 v1 v2 : Int32} {x y : Int32} {n : Nat} {I I2 I3 : px_I} {L L2 L3 : px_L} {R : px_R} (hj : jJ n I R) (hr : rel I L) (f1 : frB I I2 L L2) (p1 : pb_run v0 v1 v2 I L x I2 L2) (f2 : frK I2 I3 L2 L3) (p2 : pk_run v0 v1 v2 I2 L2 y I3 L3) : rel I3 L3 := by
  exact True.intro

theorem rel.meeting {v0 v1 v2 v3 v4 v5 : Int32} {x y : Int32} {n : Nat} {I I2 I3 : px_I} {L L2 L3 : px_L} {R : px_R} (hj : jJ n I R) (hr : rel I L) (f1 : frB I I2 L L2) (p1 : pb_meeting v0 v1 v2 v3 v4 v5 I L x I2 L2) (f2 : frK I2 I3 L2 L3) (p2 : pk_meeting v0 v1 v2 v3 v4 v5 I2 L2 y I3 L3) : rel I3 L3 := by
  exact True.intro

theorem rel.there {v0 v1 v2 : Int32} {x y : Int32} {n : Nat} {I I2 I3 : px_I} {L L2 L3 : px_L} {R : px_R} (hj : jJ n I R) (hr : rel I L) (f1 : frB I I2 L L2) (p1 : pb_there v0 v1 v2 I L x I2 L2) (f2 : frK I2 I3 L2 L3) (p2 : pk_there v0 v1 v2 I2 L2 y I3 L3) : rel I3 L3 := by
  exact True.intro

theorem rel.fits {v0 v1 v2 v3 : Int32} {x y : Int32} {n : Nat} {I I2 I3 : px_I} {L L2 L3 : px_L} {R : px_R} (hj : jJ n I R) (hr : rel I L) (f1 : frB I I2 L L2) (p1 : pb_fits v0 v1 v2 v3 I L x I2 L2) (f2 : frK I2 I3 L2 L3) (p2 : pk_fits v0 v1 v2 v3 I2 L2 y I3 L3) : rel I3 L3 := by
  exact True.intro

theorem rel.ways {v0 v1 v2 v3 v4 : Int32} {x y : Int32} {n : Nat} {I I2 I3 : px_I} {L L2 L3 : px_L} {R : px_R} (hj : jJ n I R) (hr : rel I L) (f1 : frB I I2 L L2) (p1 : pb_ways v0 v1 v2 v3 v4 I L x I2 L2) (f2 : frK I2 I3 L2 L3) (p2 : pk_ways v0 v1 v2 v3 v4 I2 L2 y I3 L3) : rel I3 L3 := by
  exact True.intro

theorem rel.seek {v0 v1 v2 v3 v4 v5 : Int32} {x y : Int32} {n : Nat} {I I2 I3 : px_I} {L L2 L3 : px_L} {R : px_R} (hj : jJ n I R) (hr : rel I L) (f1 : frB I I2 L L2) (p1 : pb_seek v0 v1 v2 v3 v4 v5 I L x I2 L2) (f2 : frK I2 I3 L2 L3) (p2 : pk_seek v0 v1 v2 v3 v4 v5 I2 L2 y I3 L3) : rel I3 L3 := by
  exact True.intro

theorem rel.chance {n : Nat} {I I2 I3 : px_I} {L L2 L3 : px_L} {R : px_R} (hj : jJ n I R) (hr : rel I L) (f1 : frB I I2 L L2) (p1 : I2 = I ∧ cSL L L2) (f2 : frK I2 I3 L2 L3) (p2 : I3 = I2 ∧ mNL L2 L3) : rel I3 L3 := by
  exact True.intro

theorem rel.detour {v0 v1 v2 : Int32} {x y : Int32} {n : Nat} {I I2 I3 : px_I} {L L2 L3 : px_L} {R : px_R} (hj : jJ n I R) (hr : rel I L) (f1 : frB I I2 L L2) (p1 : pb_detour v0 v1 v2 I L x I2 L2) (f2 : frK I2 I3 L2 L3) (p2 : pk_detour v0 v1 v2 I2 L2 y I3 L3) : rel I3 L3 := by
  exact True.intro

theorem rel.table {v0 v1 : Int32} {x y : Int32} {n : Nat} {I I2 I3 : px_I} {L L2 L3 : px_L} {R : px_R} (hj : jJ n I R) (hr : rel I L) (f1 : frB I I2 L L2) (p1 : pb_table v0 v1 I L x I2 L2) (f2 : frK I2 I3 L2 L3) (p2 : pk_table v0 v1 I2 L2 y I3 L3) : rel I3 L3 := by
  exact True.intro

theorem rel.repair {v0 v1 v2 : Int32} {x y : Int32} {n : Nat} {I I2 I3 : px_I} {L L2 L3 : px_L} {R : px_R} (hj : jJ n I R) (hr : rel I L) (f1 : frB I I2 L L2) (p1 : pb_repair v0 v1 v2 I L x I2 L2) (f2 : frK I2 I3 L2 L3) (p2 : pk_repair v0 v1 v2 I2 L2 y I3 L3) : rel I3 L3 := by
  exact True.intro

theorem relq_lime {v0 : Int32} {x y : Int32} {n : Nat} {I I2 I3 : px_I} {L L2 L3 : px_L} {R : px_R} (hj : jJ n I R) (hr : rel I L) (f1 : frB I I2 L L2) (p1 : pb_lime v0 I L x I2 L2) (f2 : frK I2 I3 L2 L3) (p2 : pk_lime v0 I2 L2 y I3 L3) : x = y := by
  unfold pb_lime at p1
  unfold pk_lime at p2
  rcases p1.2 with ⟨a1, a2, a3⟩ | ⟨a1, a2, a3⟩
  · rcases p2.2 with ⟨b0, b1, b2, b3⟩ | ⟨b1, b2, b3⟩
    · rw [a2, b2]
    · exact absurd a1 b1
  · rcases p2.2 with ⟨b0, b1, b2, b3⟩ | ⟨b1, b2, b3⟩
    · exact absurd ⟨b0, b1⟩ a1
    · rw [a2, b2]

theorem rel.lime {v0 : Int32} {x y : Int32} {n : Nat} {I I2 I3 : px_I} {L L2 L3 : px_L} {R : px_R} (hj : jJ n I R) (hr : rel I L) (f1 : frB I I2 L L2) (p1 : pb_lime v0 I L x I2 L2) (f2 : frK I2 I3 L2 L3) (p2 : pk_lime v0 I2 L2 y I3 L3) : x = y ∧ rel I3 L3 := by
  exact ⟨(relq_lime hj hr f1 p1 f2 p2), True.intro⟩

theorem rel.flow {v0 v1 v2 v3 : Int32} {x y : Int32} {n : Nat} {I I2 I3 : px_I} {L L2 L3 : px_L} {R : px_R} (hj : jJ n I R) (hr : rel I L) (f1 : frB I I2 L L2) (p1 : pb_flow v0 v1 v2 v3 I L x I2 L2) (f2 : frK I2 I3 L2 L3) (p2 : pk_flow v0 v1 v2 v3 I2 L2 y I3 L3) : rel I3 L3 := by
  exact True.intro

theorem rel.narrow {v0 v1 v2 : Int32} {x y : Int32} {n : Nat} {I I2 I3 : px_I} {L L2 L3 : px_L} {R : px_R} (hj : jJ n I R) (hr : rel I L) (f1 : frB I I2 L L2) (p1 : pb_narrow v0 v1 v2 I L x I2 L2) (f2 : frK I2 I3 L2 L3) (p2 : pk_narrow v0 v1 v2 I2 L2 y I3 L3) : rel I3 L3 := by
  exact True.intro

theorem rel.about {v0 : Int32} {x y : Int32} {n : Nat} {I I2 I3 : px_I} {L L2 L3 : px_L} {R : px_R} (hj : jJ n I R) (hr : rel I L) (f1 : frB I I2 L L2) (p1 : pb_about v0 I L x I2 L2) (f2 : frK I2 I3 L2 L3) (p2 : pk_about v0 I2 L2 y I3 L3) : rel I3 L3 := by
  exact True.intro
