/-! chain() and rings() of the reference. -/
