/-! chain() and rings() alike. -/
