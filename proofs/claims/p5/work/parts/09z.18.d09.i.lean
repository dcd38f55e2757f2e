/-! way() alike. -/
/-! The reference: nearer and nearer. -/
